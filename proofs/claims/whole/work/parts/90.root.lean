/-! ===== a frame's Stand, rooted anew where it stands ===== -/
section TRR
variable {p : Program} {l : Launch} {e : Env} {R : Room} {s : State} {m : MethodId} {args : Array Value} {below : List Frame} {meth : Method} {c : Code} {T : State} {locs : List Loc} {cells slots : Nat}
abbrev trS (T : State) (m : MethodId) (args : Array Value) (below : List Frame) : State := T.setFrames (.invoking m args :: below)
abbrev trR (R : Room) (cells slots : Nat) : Room := { frames := R.frames, cells := R.cells - cells, slots := R.slots - slots, locals := R.locals }
theorem tr_root (X : Stand p l e R s m args below meth c T locs cells slots) (hc : cells ≤ R.cells) (hs : slots ≤ R.slots) : Stand p l e (trR R cells slots) (trS T m args below) m args below meth c T [] 0 0 := by
  obtain ⟨g₀, hfr⟩ := X.frames_eq
  have hcur : T.cur < T.threads.size := State.cur_lt_of_frames hfr
  have hF : (trS T m args below).frames = .invoking m args :: below := State.frames_setFrames _ hcur
  have hm : (trS T m args below).vm.method? m = some meth := X.method'
  have hroom : (trS T m args below).hasRoom e.platform (trR R cells slots) = true := by
    obtain ⟨r1, r2, r3, r4⟩ := State.hasRoom_stack X.room
    have r5 := State.hasRoom_real X.room
    have h := X.room
    simp only [State.hasRoom, Bool.and_eq_true, decide_eq_true_eq] at h
    rw [State.localsInUse_invoking X.frames X.method X.code] at r3 r4 r5
    rw [X.frames, List.length_cons] at r1 r2
    have hU := State.localsInUse_invoking hF hm X.code
    have hlim : e.platform.stackLimits (trS T m args below).me = e.platform.stackLimits s.me := by rw [trS, State.stackLimits_setFrames]; exact X.limits
    have hby : (trS T m args below).me.stackBytes = s.me.stackBytes := by rw [trS, State.stackBytes_setFrames]; exact X.bytes
    simp only [State.hasRoom, Bool.and_eq_true, decide_eq_true_eq, hF, hU, List.length_cons, hlim, hby]
    have hh := X.heapSize
    have hu := X.used
    have g1 : (trS T m args below).heap.size = T.heap.size := rfl
    have g2 : (trS T m args below).slotsUsed = T.slotsUsed := rfl
    refine ⟨⟨⟨⟨r5, r1, r2, r3, r4, h.1.1.1.2.2.2.2.2⟩, ?_⟩, ?_⟩, X.book⟩
    · have := h.1.1.2
      rw [g1]; omega
    · have := h.1.2
      rw [g2]; omega
  have hhear : (trS T m args below).hears m below = true := by
    have h0 := X.hears
    have e1 : ∀ m', T.vm.method? m' = s.vm.method? m' := fun m' => by rw [X.warmed.alike.method?]
    rcases below with _ | ⟨y, r⟩
    · simp only [State.hears] at h0 ⊢
      show (T.vm.method? m).any _ = true
      rw [e1]; exact h0
    · cases y
      case java g =>
        simp only [State.hears, State.code?_eq] at h0 ⊢
        show (((T.vm.method? g.method).bind _).bind _).isSome = true
        rw [e1]; exact h0
      case native g => rfl
      case proc g => rfl
      all_goals
        simp only [State.hears] at h0 ⊢
        show (T.vm.method? m).any _ = true
        rw [e1]; exact h0
  refine ⟨X.admits, X.cas, X.clock, hF, hroom, hhear, hm, X.code, X.here, X.tail, State.WarmedH.refl _, by rw [trS, State.stackLimits_setFrames], by rw [trS, State.stackBytes_setFrames], ?_⟩
  obtain ⟨t, ht, -⟩ := State.frames_cons hF
  have h := (State.sameButNew.refl (trS T m args below) ht).setFrames T.frames (State.cur_lt_of_frames hF)
  have e2 : (trS T m args below).setFrames T.frames = T := by
    rw [trS, State.setFrames_setFrames]
    obtain ⟨t', ht', -⟩ := State.frames_cons hfr
    exact State.setFrames_self ht'
  rw [e2] at h
  exact h
end TRR
