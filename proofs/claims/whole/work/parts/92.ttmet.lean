/-! ===== at and octet where they throw: their contract ===== -/
def thP (base : Nat) (U : State) : Prop := ∃ (s0 : State) (A0 : Array Value), s0.heap.size = base ∧ s0.vm.Alike U.vm ∧ (∀ q : Nat, q < base → U.heap[q]? = s0.heap[q]?) ∧ ∀ w ∈ thA, w.before A0 s0 = true
theorem thP.moved {base : Nat} {u U : State} (hvm : u.vm.Alike U.vm) (hH : ∀ q : Nat, q < base → U.heap[q]? = u.heap[q]?) (h : thP base u) : thP base U := by
  obtain ⟨s0, A0, h1, h2, h3, h4⟩ := h
  exact ⟨s0, A0, h1, h2.trans hvm, fun q hq => (hH q hq).trans (h3 q hq), h4⟩
theorem thP.words {base : Nat} {U : State} {A : Array Value} (h : thP base U) (hT : ∀ w ∈ mj_T, w.before A U = true) : ∀ w ∈ thA, w.before A U = true := by
  obtain ⟨s0, A0, h1, h2, h3, h4⟩ := h
  exact th_all h2 (fun q hq => h3 q (by rw [← h1]; exact hq)) h4 hT
def thS (k : Nat) (U : State) : Prop := ∃ tx q, vk_R "ObjectStreams" k tx q U
theorem thS.warm {k : Nat} {s U : State} (hW : s.WarmedH U.vm) (h : thS k s) : thS k U := by
  obtain ⟨tx, q, h⟩ := h
  exact ⟨tx, q, h.warm hW⟩
theorem mj_T_at {args a' : Array Value} {s U : State} (hW : s.WarmedH U.vm) (h : ∀ w ∈ mj_T, w.before args s = true) : ∀ w ∈ mj_T, w.before a' U = true := fun w hw => word_at hW (good_of_word (mj_T_good hw)) (h w hw)
def tt_P (D : va_G) (ca : FieldType → ClassId) (base : Nat) (a : List Value) (h : mj_H) (n k : Nat) : Array Value → State → Prop := fun v U => mj_Pc D ca base a h n v U ∧ thP base U ∧ thS k U
def tt_Q (D : va_G) (ca : FieldType → ClassId) (base : Nat) (h : mj_H) (n : Nat) : Array Value → State → Outcome → State → Prop := fun _ st oc t => oc = .threw n ∧ (∃ L, trE st oc t L 1 6 ∧ ∀ q ∈ L, base ≤ q.base) ∧ t.heap.size = n + 1 ∧ mj_HP D ca base t h t.heap ∧ (∀ q : Nat, q < base → t.heap[q]? = st.heap[q]?) ∧ ∃ ce : Cell, t.heap[n]? = some ce ∧ ce.vm = .none ∧ t.vm.findClass thX = some ce.cls
def tt_Z (pcz : Nat) (h : mj_H) (n : Nat) : mj_K := fun pc _ st h' n' rc rs => pc = pcz ∧ st = [] ∧ h' = h ∧ n' = n ∧ 1 ≤ rc ∧ 6 ≤ rs
theorem tt_l80 : mj_in (Cond.classLink "ObjectStreams" 80 thX) = true := by decide +kernel
theorem tt_ini : mj_in (Cond.initialized thX) = true := by decide +kernel
theorem tt_met {l : Launch} (htr : ∀ e, l.admits e → e.platform.stackTraces = false) (D : va_G) (ca : FieldType → ClassId) (base : Nat) {f w me k pcz : Nat} {a : List Value} {h : mj_H} {n : Nat} (hme : me < mj_n) (ho2 : mj_own me = 2) (hkd : mj_kind me = 1) (hlen : a.length ≤ mj_maxL me) (hcat : ∀ v ∈ a, v.category = 1) (hf : 6 < f) (hw : 95 ≤ w)
    (hwp : mj_W f w me (mj_Zl (tt_Z pcz h n)) (fun _ _ _ => False) 0 (mj_entry me a) [] h n 1 6) (hd : tr_dec (mj_code me) pcz k) :
    MetFree l (mj_y me) (headSpec (mj_ws me) { frames := f, cells := 1, slots := 6, locals := w }) (tt_P D ca base a h n k) (fun _ _ _ _ _ => True) (tt_Q D ca base h n) := by
  obtain ⟨a1, a2, a3, a4, a5, a6, a7, a8, a9, a10⟩ := mj_y_spec hme
  refine MetFree.of_bodyS (code := mj_code me) (maxLocals := mj_maxL me) (ret := mj_ret me) a2 ?_ ?_
  · intro args s m h0 hn
    obtain ⟨meth, c, h1, h2, h3, h4, h5, h6, -, -⟩ := Cond.code_spec hn (atoms_spec (ws := mj_ws me) h0 _ List.mem_cons_self)
    exact ⟨meth, c, h1, h2, h3, h4, h5, h6⟩
  · intro p e s m args below meth c s₁ B hml hP _
    obtain ⟨⟨rfl, hsz, hbn, hH, hK⟩, hth, hstr⟩ := hP
    have hx := B.exec
    have hb := B.bytes
    have hlocks := B.notSynchronized
    have hts0 := atoms_spec (ws := mj_ws me) B.pre
    have hts : ∀ w ∈ mj_T, w.before a.toArray s = true := fun w hw => hts0 w (List.mem_cons_of_mem _ hw)
    have hown : s.vm.findClass (mj_R (mj_own me)) = some m.cls := by rw [← a1]; exact findClass_of_methodNamed B.named
    have hown2 : s.vm.findClass "ObjectStreams" = some m.cls := by rw [ho2] at hown; exact hown
    have hbase : base ≤ s.heap.size := by rw [hsz]; exact hbn
    have X0 := Stand.of_body B
    have hE : c.exceptionTable.isEmpty = true := by
      obtain ⟨meth', c', g1, g2, -, -, -, -, g3, -⟩ := Cond.code_spec B.named (hts0 _ List.mem_cons_self)
      cases B.method.symm.trans g1
      cases X0.code.symm.trans g2
      exact g3
    have hW : W p l e (headSpec (mj_ws me) { frames := f, cells := 1, slots := 6, locals := w }).room s m a.toArray below meth c s.heap [] 0 0 (fun U => U.status = .running ∧ Ended U below (.threw n) ∧ tt_Q D ca base h n a.toArray s (.threw n) U) (entryFrame m a.toArray (mj_maxL me)) := by
      rw [lg_entry_eq]
      refine mj_frame (D := D) (ca := ca) (base := base) (me := me) (f := f) (w := w) (B := mj_bk f w) (Q := fun _ _ _ => False) (Z := mj_Zl (tt_Z pcz h n)) hx hb hml hts hown hK hbase (fun q => by rw [hkd] at q; cases q) rfl rfl (fun y' a' h' n' mc' ms' Q' hB' => mj_sound l D ca base _ _ _ _ _ _ _ _ _ hB') (fun _ _ _ _ _ _ _ _ _ _ _ hq => hq.elim) ?_ 0 _ _ _ _ _ _ hwp s.heap [] _ 0 0 hH hsz va_S.rf (mj_lv.entry hlen hcat) (by show 0 + 1 ≤ 1; omega) (by show 0 + 6 ≤ 6; omega)
      intro pc ls st h' n' rc rs H locs arr cells slots hz hH' hn' hS hlv hc hs
      obtain ⟨-, rfl, rfl, rfl, rfl, hrc, hrs⟩ := hz
      have hc : cells + rc ≤ 1 := hc
      have hs : slots + rs ≤ 6 := hs
      obtain rfl : cells = 0 := by omega
      obtain rfl : slots = 0 := by omega
      intro T hT X
      have hWT : s.WarmedH (trS T m a.toArray below).vm := X.warmed
      have wT := mj_T_at (a' := a.toArray) hWT hts
      have hcell : ∀ q : Nat, q < base → T.heap[q]? = s.heap[q]? := fun q hq => by rw [hT]; exact hS.2.1 q (Nat.lt_of_lt_of_le hq hbase) (Nat.not_le.mpr hq)
      have tT := (hth.moved (U := trS T m a.toArray below) hWT.alike hcell).words wT
      obtain ⟨tx, q, hv⟩ := hstr.warm hWT
      obtain ⟨U, st, u1, u2, u3, u4, u5, u6, ce, u7, u8, u9⟩ := tr_throw (arr := arr) (pc := pc) X hx hb (htr e X.admits) tT (wT _ (mj_in_T tt_l80)) (wT _ (mj_in_T tt_ini)) (by rw [X.warmed.alike.findClass]; exact hown2) hv (hlv.1.trans hml.symm) hE hlocks hf hw (by show 0 + 1 ≤ 1; omega) (by show 0 + 6 ≤ 6; omega) hd
      have eN : T.heap.size = n' := by rw [hT]; exact hn'
      rw [eN] at u2 u3 u4 u5 u7
      refine ⟨U, st, u1, u2, rfl, ⟨locs, u3, hS.2.2⟩, u4, fun a0 c0 e0 => ?_, fun q hq => ?_, ce, u7, u8, by rw [u6.alike.findClass]; exact u9⟩
      · have h1 := hH' a0 c0 e0
        exact (h1.kept (by rw [u5 a0 (by rw [← hn']; exact h1.lt), hT])).moved (X.warmed.alike.trans u6.alike)
      · rw [u5 q (by omega)]; exact hcell q hq
    have hh0 : s₁.heap = s.heap := by rw [B.state]; rfl
    obtain ⟨U, st, u1, u2, u3⟩ := hW s₁ hh0 X0
    exact ⟨U, _, st, u1, u2, u3⟩
