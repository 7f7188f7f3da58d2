/-! ===== new ArrayIndexOutOfBoundsException(text), thrown ===== -/
section TRT
variable {p : Program} {l : Launch} {e : Env} {R : Room} {s : State} {m : MethodId} {args : Array Value} {below : List Frame} {meth : Method} {c : Code} {T : State} {locs : List Loc} {cells slots : Nat}
variable {cc : ByteArray} {pc k q : Nat} {arr : Array Slot} {tx : String}
/-- it threw; the tables are warmer; nothing has moved but the frames, the slots L, and at the most k new cells of n slots -/
def trE (s : State) (o : Outcome) (t : State) (L : List Loc) (k n : Nat) : Prop := (∃ x, o = .threw x) ∧ s.WarmedH t.vm ∧ s.sameButNew ({ t with vm := s.vm } : State) L k n
def tr_end (below : List Frame) (s : State) : State → Prop := fun U => U.status = .running ∧ Ended U below (.threw s.heap.size) ∧ s.WarmedH U.vm ∧ s.sameButNew ({ U with vm := s.vm } : State) [] 1 6 ∧ ∃ ce : Cell, U.heap[s.heap.size]? = some ce ∧ ce.vm = .none ∧ s.vm.findClass thX = some ce.cls
def tr_dec (cc : ByteArray) (pc k : Nat) : Prop := decode cc pc = .ok (.new 80, 3) ∧ decode cc (pc + 3) = .ok (.dup, 1) ∧ decode cc (pc + 4) = .ok (.ldc k, 2) ∧ decode cc (pc + 6) = .ok (.invokespecial 84, 3) ∧ decode cc (pc + 9) = .ok (.athrow, 1)
theorem tr_i6 : Cond.instantiable thX 6 ∈ thA := by simp [thA, Bundle.ownAtoms]
theorem tr_W (hx : p.tables.exec = Jvm.exec) (hb : c.code = cc) (htr : e.platform.stackTraces = false) (hts : ∀ w ∈ thA, w.before args s = true) (hcl : (Cond.classLink "ObjectStreams" 80 thX).before args s = true) (hini : (Cond.initialized thX).before args s = true) (hown : s.vm.findClass "ObjectStreams" = some m.cls) (hstr : vk_R "ObjectStreams" k tx q s) (hml : arr.size = c.maxLocals) (hE : c.exceptionTable.isEmpty = true) (hlocks : meth.locks = false)
    (hf : 6 < R.frames) (hl : 95 ≤ R.locals) (h1 : 1 ≤ R.cells) (h2 : 6 ≤ R.slots) (hd : tr_dec cc pc k) : W p l e R s m args below meth c s.heap [] 0 0 (tr_end below s) (F0 m pc arr []) := by
  obtain ⟨d0, d3, d4, d6, d9⟩ := hd
  have hi := hts _ tr_i6
  obtain ⟨cX, kX, hfc, hk, -⟩ := Cond.instantiable_spec hi
  refine W.newcK hx hb hown hcl hi hini rfl d0 (by omega) (by omega) hfc rfl fun H1 kC hkC e1 z1 o1 => ?_
  refine lv_dup hx hb d3 rfl ?_
  refine va_ldcS hx hb hown hstr d4 ?_
  intro T hT X
  obtain ⟨U, st, h1, h2, h3, h4, ce, h5, h6⟩ := X.ctorThrowS hx htr (own := "ObjectStreams") (cls := thX) (names := thUp) (ic := 84) hown th_names.2 (fun n hn => List.all_eq_true.mp th_names.1 n hn) hts (fun _ h => by cases h) (a := s.heap.size) hfc hkC (by rw [hT]; exact e1) (Nat.le_refl _) (msg := .ref q) rfl (g := F0 m (pc + 6) arr [.ref q, .ref s.heap.size, .ref s.heap.size]) rfl hml rfl rfl (rest := []) rfl (by rw [hb]; exact d6) (by rw [hb]; exact d9)
    (fun x hx => by
      have : c.exceptionTable.toList = [] := by simpa using hE
      rw [this] at hx; cases hx)
    (by show 3 + 3 < R.frames; omega) (by show 2 * 0 + 1 + 94 ≤ R.locals; omega) hlocks
  exact ⟨U, st, h1, h2, h3, h4, ce, h5, h6.vm, h6.cls⟩
theorem tr_throw (X : Stand p l e R s m args below meth c T locs cells slots) (hx : p.tables.exec = Jvm.exec) (hb : c.code = cc) (htr : e.platform.stackTraces = false) (hts : ∀ w ∈ thA, w.before args (trS T m args below) = true) (hcl : (Cond.classLink "ObjectStreams" 80 thX).before args (trS T m args below) = true) (hini : (Cond.initialized thX).before args (trS T m args below) = true) (hown : T.vm.findClass "ObjectStreams" = some m.cls) (hstr : vk_R "ObjectStreams" k tx q (trS T m args below)) (hml : arr.size = c.maxLocals) (hE : c.exceptionTable.isEmpty = true) (hlocks : meth.locks = false)
    (hf : 6 < R.frames) (hl : 95 ≤ R.locals) (h1 : cells + 1 ≤ R.cells) (h2 : slots + 6 ≤ R.slots) (hd : tr_dec cc pc k) :
    ∃ U : State, Steps p.tables e below (T.setTop (F0 m pc arr [])) U ∧ U.status = .running ∧ Ended U below (.threw T.heap.size) ∧ trE s (.threw T.heap.size) U locs (cells + 1) (slots + 6) ∧ U.heap.size = T.heap.size + 1 ∧ (∀ a : Nat, a < T.heap.size → U.heap[a]? = T.heap[a]?) ∧ T.WarmedH U.vm ∧ ∃ ce : Cell, U.heap[T.heap.size]? = some ce ∧ ce.vm = .none ∧ T.vm.findClass thX = some ce.cls := by
  have X2 := tr_root X (by omega) (by omega)
  obtain ⟨U, st, u1, u2, u3, u4, ce, u5, u6, u7⟩ := tr_W (l := l) (R := trR R cells slots) (s := trS T m args below) (arr := arr) hx hb htr hts hcl hini hown hstr hml hE hlocks hf hl (by show 1 ≤ R.cells - cells; omega) (by show 6 ≤ R.slots - slots; omega) hd T rfl X2
  have hW : T.WarmedH U.vm := u3
  have hlt := (Array.getElem?_eq_some_iff.mp u5).1
  have z1 : U.heap.size ≤ T.heap.size + 1 := u4.2.2.1
  have hsame : T.sameButNew ({ U with vm := T.vm } : State) [] 1 6 := by
    obtain ⟨q1, q2⟩ := u4
    rw [trS, State.setFrames_setFrames] at q1
    exact ⟨q1, q2⟩
  have hs2 := X.same.trans (hsame.setVm s.vm)
  rw [List.append_nil] at hs2
  refine ⟨U, st, u1, u2, ⟨⟨_, rfl⟩, State.WarmedH.trans X.warmed hW, hs2⟩, ?_, fun a ha => ?_, hW, ce, u5, u6, u7⟩
  · have : T.heap.size < U.heap.size := hlt
    omega
  · have e0 : T.heap[a]? = some T.heap[a] := Array.getElem?_eq_getElem ha
    rw [e0]
    exact hsame.old_cell e0
end TRT
