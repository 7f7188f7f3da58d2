/-! ===== the law's two calls of methods with a handler ===== -/
theorem tt_blind {D : va_G} {ca : FieldType → ClassId} {base n k : Nat} {a : List Value} {h : mj_H} : FrameBlind (tt_P D ca base a h n k) := fun v U g mk q => by
  obtain ⟨q1, q2, tx, q3, q4⟩ := q
  exact ⟨mj_Pc.blind v U g mk q1, q2.moved (u := U) (U := U.calling g mk v) (Vm.Alike.refl U.vm) (fun _ _ => rfl), tx, q3, q4.same (U := U.calling g mk v) rfl⟩
def laF (yL : MethodName) (cL : ByteArray) (idx : Nat) : Bool := mj_in (Cond.methodLink "ObjectStreamsLaw" idx yL) && mj_in (Cond.static yL) && mj_in (Cond.initialized yL.cls) && mj_in (Cond.codeWith yL cL 5 (some .int) laHh) && decide (yL.cls = "ObjectStreamsLaw") && decide ((parseMethodDescriptor yL.desc).map (fun d => d.parameters.length) = some 4)
section LAC
variable {p : Program} {l : Launch} {e : Env} {R : Room} {s : State} {m : MethodId} {args : Array Value} {below : List Frame} {meth : Method} {c : Code} {H : Heap} {locs : List Loc} {cells slots : Nat} {QW : State → Prop}
variable {cc : ByteArray} {pc : Nat} {arr : Array Slot} {D : va_G} {ca : FieldType → ClassId} {base : Nat} {h : mj_H}
theorem la_callR {Q' : mj_Q} {k n idx : Nat} {As rest : List Value} {yL : MethodName} {cL : ByteArray} (hF : laF yL cL idx = true) (hx : p.tables.exec = Jvm.exec) (hb : c.code = cc) (hml : c.maxLocals = arr.size) (hts : ∀ w ∈ mj_T, w.before args s = true) (hown : s.vm.findClass "ObjectStreamsLaw" = some m.cls) (hK : mj_Kn D ca s) (hH : mj_HP D ca base s h H) (hn : H.size = n) (hbn : base ≤ n) (hS0 : va_S (fun q => base ≤ q) s.heap H locs) (hbs : base ≤ s.heap.size) (hth : thP base s) (hstr : thS k s)
    (hlen : As.length = 4) (hM : Met l yL (laW yL cL) { frames := R.frames - 1, cells := 1, slots := 6, locals := R.locals - 24 } (tt_P D ca base As h n k) (mj_Qc D ca base Q') 1 6 (fun q => base ≤ q)) (hfr : 1 ≤ R.frames) (hlo : 24 ≤ R.locals) (hr : (rest.map fun v => v.category).sum ≤ 8) (h1 : cells + 1 ≤ R.cells) (h2 : slots + 6 ≤ R.slots) (hd : decode cc pc = .ok (.invokestatic idx, 3))
    (kk : ∀ (r : Option Value) (h' : mj_H) (n' : Nat) (H1 : Heap) (locs1 : List Loc), Q' r h' n' → H1.size = n' → mj_HP D ca base s h' H1 → va_S (fun q => base ≤ q) s.heap H1 locs1 → W p l e R s m args below meth c H1 locs1 (cells + 1) (slots + 6) QW (F0 m (pc + 3) arr (r.toList ++ rest))) : W p l e R s m args below meth c H locs cells slots QW (F0 m pc arr (As.reverse ++ rest)) := by
  simp only [laF, Bool.and_eq_true, decide_eq_true_eq] at hF
  obtain ⟨⟨⟨⟨⟨f1, f2⟩, f3⟩, f4⟩, f5⟩, f6⟩ := hF
  have f1 := mj_in_T f1
  have f2 := mj_in_T f2
  have f3 := mj_in_T f3
  have f4 := mj_in_T f4
  have hy : yL.cls ≠ "java/lang/invoke/MethodHandle" ∧ yL.cls ≠ "java/lang/invoke/VarHandle" := by rw [f5]; decide
  refine mj_afterR (a := As.toArray) (mc := 1) (ms := 6) (Q' := Q') (D := D) (ca := ca) (base := base) ?_ hS0 kk
  intro T hT X
  obtain ⟨mk, methM, cM, hnamed, hmethM, hcM, -, hlM, -, -, -, hsigM⟩ := Cond.codeWith_spec (hts _ f4)
  have hstatic : methM.isStatic = true := Cond.static_spec hnamed hmethM (hts _ f2)
  obtain ⟨kP, hkP, -⟩ := className_of_methodNamed hnamed
  have hinitP : kP.init = .initialized := Cond.initialized_spec (findClass_of_methodNamed hnamed) hkP (hts _ f3)
  have hlen2 : As.length = methM.sig.parameters.length := by
    rw [hsigM] at f6
    rw [hlen]
    simpa using f6.symm
  have hdg : decode c.code (F0 m pc arr (As.reverse ++ rest)).pc = .ok (.invokestatic idx, 3) := by rw [hb]; exact hd
  obtain ⟨vm₁, X₁, hstep⟩ := X.invokestatic hx hown (hts _ f1) hnamed hmethM hstatic hkP hinitP hy (g := F0 m pc arr (As.reverse ++ rest)) rfl (argsL := As) (rest := rest) hlen2 rfl hdg
  have hBack : Back l R p e below s args yL 3 8 (PreOf R 1 6 (tt_P D ca base As h n k)) (PostOf (mj_Qc D ca base Q') 1 6 (fun q => base ≤ q)) :=
    va_backW (hh := laHh) (bytes := cL) (maxL := 5) (ret := some .int) hM tt_blind rfl rfl (by show R.frames - 1 + 1 ≤ R.frames; omega) (by show 8 + (5 + 11) + (R.locals - 24) ≤ R.locals; omega)
      (fun w hw a' U hU => by
        rcases List.mem_cons.mp hw with e0 | e0
        · rw [e0]; exact mj_T_at hU hts _ f4
        · exact mj_T_at hU hts _ e0) List.mem_cons_self (fun a' U hU => mj_T_at hU hts _ f3)
  have hW₁ : s.WarmedH (T.setVm vm₁).vm := X₁.warmed
  obtain ⟨v, ⟨U', l2, c2, s2⟩, X', ⟨g', mk', t, L, e1, e2, hq, g1, hL, g2, g3⟩, hsteps⟩ := hBack m meth c ⟨T.setVm vm₁, locs, cells, slots⟩ (F0 m pc arr rest) (.invokestatic idx) mk As.toArray X₁ rfl hml.symm (by rw [hb]; exact hd) (by show 2 * 0 + (rest.map fun v => v.category).sum ≤ 8; omega) (X₁.named hnamed)
    ⟨h1, h2, mj_preU hH hK hn hbn (T.setVm vm₁) hT hW₁, hth.moved (U := T.setVm vm₁) hW₁.alike (fun q hq => by
      show T.heap[q]? = _
      rw [hT]; exact hS0.2.1 q (Nat.lt_of_lt_of_le hq hbs) (Nat.not_le.mpr hq)), hstr.warm hW₁⟩
  dsimp only [Pt.U, Pt.locs, Pt.cells, Pt.slots] at X' e1 e2 g1 g2 g3 hsteps
  subst g1; subst g2; subst g3
  exact ⟨v, (T.setVm vm₁).calling g' mk' As.toArray, t, U', L, hT, X', hL, e1, e2, hq, fun target ht => hstep _ fun acts => by rw [doInvoke_state]; exact hsteps.trans ht⟩
end LAC
