/-! ===== caught: the catch type's entry resolved or not ===== -/
theorem tc_find {Q : Handler → Pre} {E : CtlPost} {e : Env} {d : Bool} {acts : List Action} {s : State} {f : JFrame} {a : Addr} {meth : Method} {code : Code} (hm : s.vm.method? f.method = some meth) (hc : meth.code = some code) {x : ExceptionTableEntry} (ht : code.exceptionTable.toList = [x]) {c : ClassId} {cell : Cell} (hx : covers x f.pc = true) (h0 : x.catchType ≠ 0)
    (hl : s.vm.ClassLinks e.platform f.method.cls x.catchType c) (hcell : s.heap[a]? = some cell) (hobj : ∀ k, cell.vm ≠ .statics k)
    (hk : ∃ k, s.vm.classes[cell.cls]? = some k) (hcl : ∃ k, s.vm.classes[c]? = some k) (hfit : s.vm.assignable cell.cls c = true) :
    wp (findHandler f a) Q E e d acts s ↔ Q (.found x.handlerPc) d acts (s.setVm (s.vm.noted f.method.cls x.catchType (.cls c))) := by
  rw [W.findHandler_eq hm hc, ht]
  simp only [covers] at hx
  obtain ⟨r1, r2⟩ := (resolveClass_links e.toSetting hl).op (op := VmOp.resolveClass f.method.cls x.catchType) rfl
  have hal : s.vm.Alike (s.vm.noted f.method.cls x.catchType (.cls c)) := (Vm.Alike.refl s.vm).noted _ _ _
  obtain ⟨k1, hk1⟩ := hk
  obtain ⟨k2, hk2⟩ := hcl
  obtain ⟨k1', hk1', -⟩ := hal.2.2 _ _ hk1
  obtain ⟨k2', hk2', -⟩ := hal.2.2 _ _ hk2
  have hfit' : (s.vm.noted f.method.cls x.catchType (.cls c)).assignable cell.cls c = true := by rw [hal.assignable]; exact hfit
  simp [findHandler.go, hx, h0, r1, r2, hcell, hobj, hk1', hk2', hfit', VmOp.dirties, VmOp.acts]
theorem tc_frames (u : State) (v : Vm) (F G : List Frame) : ((u.setFrames F).setVm v).setFrames G = (u.setVm v).setFrames G := by
  rw [show (u.setFrames F).setVm v = (u.setVm v).setFrames F from rfl, State.setFrames_setFrames]
section TC
variable {p : Program} {l : Launch} {e : Env} {R : Room} {s : State} {m : MethodId} {args : Array Value} {below : List Frame} {meth : Method} {c : Code} {T : State} {locs : List Loc} {cells slots : Nat}
theorem tc_caught (X : Stand p l e R s m args below meth c T locs cells slots) (a : Addr) {g : JFrame} (hg : g.method = m) {own name : String} (hown : s.vm.findClass own = some m.cls) {x : ExceptionTableEntry} (ht : c.exceptionTable.toList = [x]) (hx : covers x g.pc = true) (h0 : x.catchType ≠ 0)
    (hlink : (Cond.classLink own x.catchType name).before args s = true) {cell : Cell} (hcT : s.vm.findClass name = some cell.cls) (hcell : T.heap[a]? = some cell) (hobj : cell.vm.isStatics = false) (hfit : s.vm.assignable cell.cls cell.cls = true) :
    ∃ vm', Stand p l e R s m args below meth c (T.setVm vm') locs cells slots ∧ ∀ target, Steps p.tables e below ((T.setVm vm').setTop { g with pc := x.handlerPc, stack := [.ref a] }) target → Steps p.tables e below ((T.setTop g).pushFrame (.throwing a)) target := by
  have hpl : e.platform.magicAccessors = ({} : Platform).magicAccessors := by rw [X.admits.platform]
  obtain ⟨c', hc', hcl⟩ := Cond.classLink_spec hown hlink e.platform hpl
  cases hcT.symm.trans hc'
  obtain ⟨dk, _, _, kt, hd, _, _, _, _, hkt, _, hopen⟩ := hcl.here
  have hcl0 := X.warmed.classLinks hcl
  have hW' : s.WarmedH (T.vm.noted m.cls x.catchType (.cls cell.cls)) := X.warmed.noted hd hopen (State.rightAt_cls hcl)
  have hal := X.warmed.alike
  obtain ⟨kt', hkt', -⟩ := hal.2.2 _ _ hkt
  have hfit' : T.vm.assignable cell.cls cell.cls = true := by rw [hal.assignable]; exact hfit
  subst hg
  have hfind : ∀ (Q : Handler → Pre) (E : CtlPost) (d : Bool) (acts : List Action), wp (findHandler g a) Q E e d acts ((T.setTop g).pushFrame (.throwing a)) ↔ Q (.found x.handlerPc) d acts (((T.setTop g).pushFrame (.throwing a)).setVm (T.vm.noted g.method.cls x.catchType (.cls cell.cls))) := fun Q E d acts =>
    tc_find (s := (T.setTop g).pushFrame (.throwing a)) (meth := meth) (code := c) X.method' X.code ht hx h0 hcl0 hcell (VmData.ne_statics_of hobj) ⟨kt', hkt'⟩ ⟨kt', hkt'⟩ hfit'
  refine ⟨_, X.noted hW', fun target hrest => ?_⟩
  have h := X.here
  obtain ⟨hgo, hw⟩ := h.throwing a
  refine Steps.head hgo hw ?_
  have hst : (stepThrowing e ((T.setTop g).pushFrame (.throwing a)) a (.java g :: T.frames.tail)).Is ((((T.setTop g).pushFrame (.throwing a)).setVm (T.vm.noted g.method.cls x.catchType (.cls cell.cls))).setFrames (.java { g with pc := x.handlerPc, stack := [.ref a] } :: T.frames.tail)) [] := by
    simp only [stepThrowing, searchFrame, vmDo]
    generalize hr : Sem.go _ e false [] ((T.setTop g).pushFrame (.throwing a)) = res
    obtain ⟨as, rfl, ha⟩ := Sem.eq_ok_of hr (a := Handler.found x.handlerPc) (s' := ((T.setTop g).pushFrame (.throwing a)).setVm (T.vm.noted g.method.cls x.catchType (.cls cell.cls))) (acts' := []) (by simp [hfind _ _ _ _])
    exact ⟨rfl, ha⟩
  rw [stepThread_throwing (frames_entered h.top _), hst.1]
  obtain ⟨g₀, hr⟩ := X.frames_eq
  have hr' : (T.setVm (T.vm.noted g.method.cls x.catchType (.cls cell.cls))).frames = .java g₀ :: below := hr
  rw [State.setTop_of_frames _ hr'] at hrest
  rw [hr, List.tail_cons, State.pushFrame, tc_frames, State.setTop_of_frames _ hr, tc_frames]
  exact hrest
/-- a virtual call of a method of the small machine that throws: to the caller's frame with the note over it -/
theorem tc_call {D : va_G} {ca : FieldType → ClassId} {base : Nat} {y idx own f w : Nat} {cc : ByteArray} {h : mj_H} {n k b : Nat} {fs As : List Value} {arr : Array Slot} {pc : Nat} {rest : List Value}
    (X : Stand p l e R s m args below meth c T locs cells slots) (hx : p.tables.exec = Jvm.exec) (hb : c.code = cc) (hml : c.maxLocals = arr.size) (hts : ∀ w ∈ mj_T, w.before args s = true) (hown : s.vm.findClass (mj_R own) = some m.cls) (hK : mj_Kn D ca s) (hH : mj_HP D ca base s h T.heap) (hn : T.heap.size = n) (hbn : base ≤ n)
    (hl : mj_mth own idx = some y) (hkind : mj_kind y = 1) (hna : mj_na y = As.length) (hrb : h b = some (.inr (mj_own y, fs)))
    (hM : MetFree l (mj_y y) (headSpec (mj_ws y) { frames := f, cells := 1, slots := 6, locals := w }) (tt_P D ca base (.ref b :: As) h n k) (fun _ _ _ _ _ => True) (tt_Q D ca base h n)) (hth : thP base T) (hstr : thS k s)
    (hf : f + 1 ≤ R.frames) (hw : 8 + (mj_maxL y + 11) + w ≤ R.locals) (hr1 : (rest.map fun v => v.category).sum ≤ 8) (h1 : cells + 1 ≤ R.cells) (h2 : slots + 6 ≤ R.slots) (hd : decode cc pc = .ok (.invokevirtual idx, 3)) :
    ∃ (T' : State) (L : List Loc), Stand p l e R s m args below meth c T' (locs ++ L) (cells + 1) (slots + 6) ∧ (∀ q ∈ L, base ≤ q.base) ∧ T'.heap.size = n + 1 ∧ mj_HP D ca base s h T'.heap ∧ (∀ q : Nat, q < base → T'.heap[q]? = T.heap[q]?) ∧ (∃ ce : Cell, T'.heap[n]? = some ce ∧ ce.vm = .none ∧ s.vm.findClass thX = some ce.cls) ∧
      Steps p.tables e below (T.setTop (F0 m pc arr (As.reverse ++ .ref b :: rest))) ((T'.setTop (F0 m pc arr rest)).pushFrame (.throwing n)) := by
  obtain ⟨hy, hlk⟩ := mj_mth_spec hl
  obtain ⟨a1, a2, a3, a4, a5, a6, a7, a8, a9, a10⟩ := mj_y_spec hy
  obtain ⟨b1, b2⟩ := a9 hkind
  obtain ⟨cellB, c1, c2, c3⟩ := mj_recv hH hK hrb
  obtain ⟨mk, methM, hnamed, hmethM, hstM, habM⟩ := Cond.instanceMethod_spec (hts _ b1)
  have hcode : ∀ U : State, s.WarmedH U.vm → ∀ a', (Cond.code (mj_y y) (mj_code y) (mj_maxL y) (mj_ret y)).before a' U = true := fun U hU a' => mj_T_at hU hts _ (List.mem_filter.mpr ⟨mj_code_in y hy, rfl⟩)
  obtain ⟨methM', cM, hmethM', -, -, -, -, -, -, hsigM⟩ := Cond.code_spec hnamed (hcode s (State.WarmedH.refl s) args)
  cases hmethM.symm.trans hmethM'
  obtain ⟨q0, r2, m2, q1, q2, q3, q4, kP, hkP, hkPi⟩ := Cond.selects_spec (hts _ b2)
  rw [a1] at q1
  cases c3.symm.trans q1
  cases (State.methodFound?_of_named hnamed ⟨a3, a4⟩).symm.trans q2
  cases hnamed.symm.trans q3
  have hselP : selectMethod e.platform s.vm cellB.cls mk = .method mk := by rw [Launch.admits_selectMethod X.admits]; exact q4
  have hlen : As.length = methM.sig.parameters.length := by
    rw [hsigM] at a5
    rw [← hna]
    simpa using a5.symm
  obtain ⟨vm₁, X₁, hstep⟩ := X.invokevirtual hx hown (hts _ hlk) hnamed hmethM hstM hkP hkPi ⟨a3, a4⟩ (a := b) (cell := cellB) c1 (fun z h => by rw [h] at c2; cases c2) hselP hmethM habM hkP hkPi (g := F0 m pc arr (As.reverse ++ .ref b :: rest)) rfl (argsL := As) (rest := rest) hlen rfl (by rw [hb]; exact hd)
  have hWU : s.WarmedH (T.setVm vm₁).vm := X₁.warmed
  have hnU : (T.setVm vm₁).methodNamed? (mj_y y) = some mk := X₁.named hnamed
  have wT := mj_T_at (a' := (Value.ref b :: As).toArray) hWU hts
  obtain ⟨methY, cY, hmY, hcY, -, hlY, -, -, -, -⟩ := Cond.code_spec hnU (hcode _ hWU (Value.ref b :: As).toArray)
  obtain ⟨kY, hkY, -⟩ := className_of_methodNamed hnU
  have hinitY : kY.init = .initialized := Cond.initialized_spec (findClass_of_methodNamed hnU) hkY (wT _ a6)
  have hdg : decode c.code (F0 m pc arr rest).pc = .ok (.invokevirtual idx, 3) := by rw [hb]; exact hd
  have happ : (headSpec (mj_ws y) { frames := f, cells := 1, slots := 6, locals := w }).appliesLoose (mj_y y) e.platform ((T.setVm vm₁).calling (F0 m pc arr rest) mk (Value.ref b :: As).toArray) = true :=
    Spec.appliesLoose_calling (g := F0 m pc arr rest) X₁.here hdg hnU hkY hinitY
      (X₁.room_calling (g := F0 m pc arr rest) (R' := { frames := f, cells := 1, slots := 6, locals := w }) hml.symm hmY hcY hf (by rw [hlY]; show 2 * 0 + (rest.map fun v => v.category).sum + (mj_maxL y + 11) + w ≤ R.locals; omega) h1 h2)
      (atoms_intro fun w0 hw0 => by
        rcases List.mem_cons.mp hw0 with e0 | e0
        · rw [e0]; exact hcode _ hWU _
        · exact wT _ e0)
  have hal : s.vm.Alike vm₁ := hWU.alike
  have hTal : T.vm.Alike vm₁ := X.warmed.alike.symm.trans hal
  have hstr1 : thS k ((T.setVm vm₁).calling (F0 m pc arr rest) mk (Value.ref b :: As).toArray) := hstr.warm (U := (T.setVm vm₁).calling (F0 m pc arr rest) mk (Value.ref b :: As).toArray) hWU
  obtain ⟨mid, hmid⟩ := X₁.here.above
  have hfr : ((T.setVm vm₁).setTop (F0 m pc arr rest)).frames = (.java (F0 m pc arr rest) :: mid) ++ below := by rw [State.frames_setTop' _ X₁.here.top, hmid]; rfl
  obtain ⟨o, s₂, hsteps, -, hend, hq⟩ := Steps.callFree hM p X.admits X.cas X.clock (acts := []) hfr happ
    ⟨⟨rfl, hn, hbn, hH.moved (U := (T.setVm vm₁).calling (F0 m pc arr rest) mk (Value.ref b :: As).toArray) hal, hK.moved (U := (T.setVm vm₁).calling (F0 m pc arr rest) mk (Value.ref b :: As).toArray) hal⟩, hth.moved (U := (T.setVm vm₁).calling (F0 m pc arr rest) mk (Value.ref b :: As).toArray) hTal (fun _ _ => rfl), hstr1⟩ trivial
  obtain ⟨rfl, ⟨L, ⟨-, hW2, hsame⟩, hL⟩, z1, z2, z3, ce, z4, z5, z6⟩ := hq
  rw [State.frames_setTop' _ X₁.here.top, X₁.tail] at hend
  obtain ⟨T', X', hTW, hTs, ht⟩ := X₁.outOfThrown (g := F0 m pc arr rest) rfl (mk := mk) (a := (Value.ref b :: As).toArray) hend hW2 hsame
  have eh : T'.heap = s₂.heap := by rw [ht]; rfl
  have ev : T'.vm = s₂.vm := by rw [ht]; rfl
  have hal2 : s.vm.Alike s₂.vm := by rw [← ev]; exact X'.warmed.alike
  refine ⟨T', L, X', hL, by rw [eh]; exact z1, by rw [eh]; exact z2.moved hal2.symm, fun q hq => by rw [eh]; exact z3 q hq, ⟨ce, by rw [eh]; exact z4, z5, by rw [hal2.symm.findClass]; exact z6⟩, ?_⟩
  rw [← ht]
  exact hstep _ fun acts => by rw [doInvoke_state]; exact hsteps
end TC
