/-! ===== law.at and law.octet: their contract ===== -/
def laQ (r : Option Nat) (h : mj_H) (n out : Nat) (og : Nat → Int64) : mj_Q := fun v h' n' => (r = none ∧ v = some (.int 1) ∧ h' = h ∧ n' = n + 1) ∨ ∃ c, r = some c ∧ v = some (.int 0) ∧ h' = mj_up h out (ouC (vp_updL og 0 (bS c).toInt64)) ∧ n' = n
def laHh : List (Nat × Nat × Nat × Nat) := [(0, 10, 13, 13)]
abbrev laW (yL : MethodName) (cL : ByteArray) : List Cond := Cond.codeWith yL cL 5 (some .int) laHh :: mj_T
def la_dec (cL : ByteArray) (idx : Nat) : Prop := decode cL 0 = .ok (.aload_n 3, 1) ∧ decode cL 1 = .ok (.iconst 0, 1) ∧ decode cL 2 = .ok (.aload_n 0, 1) ∧ decode cL 3 = .ok (.iload_n 1, 1) ∧ decode cL 4 = .ok (.iload_n 2, 1) ∧ decode cL 5 = .ok (.invokevirtual idx, 3) ∧ decode cL 8 = .ok (.i2l, 1) ∧ decode cL 9 = .ok (.lastore, 1) ∧ decode cL 10 = .ok (.goto 7, 3) ∧ decode cL 13 = .ok (.astore 4, 2) ∧ decode cL 15 = .ok (.iconst 1, 1) ∧ decode cL 16 = .ok (.ireturn, 1) ∧ decode cL 17 = .ok (.iconst 0, 1) ∧ decode cL 18 = .ok (.ireturn, 1)
theorem la_l13 : mj_in (Cond.classLink "ObjectStreamsLaw" 13 thX) = true := by decide +kernel
theorem la_cast : Cond.castable thX thX ∈ thA := by simp [thA, Bundle.ownAtoms]
theorem la_met {l : Launch} (htr : ∀ e, l.admits e → e.platform.stackTraces = false) (D : va_G) (ca : FieldType → ClassId) (base : Nat) {f w idx me k pcz : Nat} {yL : MethodName} {cL : ByteArray} (hyl : yL.cls = "ObjectStreamsLaw") (hdec : la_dec cL idx) (hidx : mj_mth 4 idx = some me) (hkd : mj_kind me = 1) (ho2 : mj_own me = 2) (hna : mj_na me = 2) (hmx : mj_maxL me = 4) (hf : 8 ≤ f) (hw : 130 ≤ w) {b out n : Nat} {o i : Int32} {h : mj_H} {fs : List Value} {og : Nat → Int64} {r : Option Nat} (hb5 : h b = some (.inr (2, fs))) (hou : h out = some (ouC og))
    (hN : r = none → mj_W (f - 1) (w - 23) me (mj_Zl (tt_Z pcz h n)) (fun _ _ _ => False) 0 (mj_entry me [.ref b, .int o, .int i]) [] h n 1 6)
    (hS : ∀ c, r = some c → ∀ Q : mj_Q, Q (some (.int (bS c))) h n → mj_bk f w me [.ref b, .int o, .int i] h n 0 0 Q) (hd : tr_dec (mj_code me) pcz k) :
    Met l yL (laW yL cL) { frames := f, cells := 1, slots := 6, locals := w } (tt_P D ca base [.ref b, .int o, .int i, .ref out] h n k) (mj_Qc D ca base (laQ r h n out og)) 1 6 (fun q => base ≤ q) := by
  refine va_MetW (cc := cL) (maxL := 5) (ret := some .int) (hh := laHh) (by rw [hyl]; decide) rfl ?_
  intro p e s m args below meth c s₁ B hml hP
  obtain ⟨⟨rfl, hsz, hbn, hH, hK⟩, hth, hstr⟩ := hP
  have hx := B.exec
  have hb := B.bytes
  have hr := B.returns
  have hlocks := B.notSynchronized
  have hts0 := atoms_spec (ws := laW yL cL) B.pre
  have hts : ∀ w ∈ mj_T, w.before ([.ref b, .int o, .int i, .ref out] : List Value).toArray s = true := fun w hw => hts0 w (List.mem_cons_of_mem _ hw)
  have hown : s.vm.findClass (mj_R 4) = some m.cls := by
    have := findClass_of_methodNamed B.named
    rw [hyl] at this; exact this
  have hbase : base ≤ s.heap.size := by rw [hsz]; exact hbn
  have X0 := Stand.of_body B
  have hE : ∃ x : ExceptionTableEntry, c.exceptionTable.toList = [x] ∧ x.startPc = 0 ∧ x.endPc = 10 ∧ x.handlerPc = 13 ∧ x.catchType = 13 := by
    obtain ⟨m', meth', c', g0, g1, g2, -, -, g3, -⟩ := Cond.codeWith_spec (hts0 _ List.mem_cons_self)
    cases B.named.symm.trans g0
    cases B.method.symm.trans g1
    cases X0.code.symm.trans g2
    unfold laHh at g3
    cases hl : c.exceptionTable.toList with
    | nil => rw [hl] at g3; cases g3
    | cons x t =>
      rw [hl] at g3
      simp only [List.map_cons, List.cons.injEq, Prod.mk.injEq, List.map_eq_nil_iff] at g3
      obtain ⟨⟨e1, e2, e3, e4⟩, rfl⟩ := g3
      exact ⟨x, rfl, e1, e2, e3, e4⟩
  obtain ⟨x, hxT, hx1, hx2, hx3, hx4⟩ := hE
  obtain ⟨d0, d1, d2, d3, d4, d5, d8, d9, d10, d13, d15, d16, d17, d18⟩ := hdec
  have lv := mj_lv.entry (vs := [.ref b, .int o, .int i, .ref out]) (nL := 5) (by show 4 ≤ 5; omega) (by
    intro v hv
    simp only [List.mem_cons, List.not_mem_nil, or_false] at hv
    rcases hv with rfl | rfl | rfl | rfl <;> rfl)
  rw [lg_entry_eq]
  generalize ((lg_sl [Value.ref b, .int o, .int i, .ref out] ++ List.replicate (5 - (lg_sl [Value.ref b, .int o, .int i, .ref out]).length) Slot.unset).toArray) = arr at lv ⊢
  have fin : ∀ (z : Int32) (pc : Nat) (H : Heap) (locs : List Loc) (cells slots : Nat) (arr : Array Slot) (h' : mj_H) (n' : Nat), laQ r h n out og (some (.int z)) h' n' → decode cL pc = .ok (.ireturn, 1) → mj_HP D ca base s h' H → H.size = n' → va_S (fun q => base ≤ q) s.heap H locs → cells ≤ 1 → slots ≤ 6 → W p l e (headSpec (laW yL cL) { frames := f, cells := 1, slots := 6, locals := w }).room s m ([.ref b, .int o, .int i, .ref out] : List Value).toArray below meth c H locs cells slots (MQ below (mj_Qc D ca base (laQ r h n out og)) ([.ref b, .int o, .int i, .ref out] : List Value).toArray s 1 6 (fun q => base ≤ q)) (F0 m pc arr [.int z]) := by
    intro z pc H locs cells slots arr h' n' hq hd hH1 hn1 hS hc hs
    refine W.widen (k := 1) (n := 6) hc hs (W.zret hx hb hr rfl (fun t ht hW => ?_) hS.2.2 hd)
    exact ⟨_, h', n', rfl, hq, by rw [ht]; exact hn1, by rw [ht]; exact hH1.moved hW.alike, hK.moved hW.alike, by rw [ht]; exact hS.1, fun q hq => by rw [ht]; exact hS.2.1 q (Nat.lt_of_lt_of_le hq hbase) (Nat.not_le.mpr hq)⟩
  refine lv_aload_n hx hb d0 rfl (lv.2.2.2 3 _ rfl rfl) ?_
  refine lv_iconst hx hb d1 rfl ?_
  refine lv_aload_n hx hb d2 rfl (lv.2.2.2 0 _ rfl rfl) ?_
  refine lv_iload_n hx hb d3 rfl (lv.2.2.2 1 _ rfl rfl) ?_
  refine lv_iload_n hx hb d4 rfl (lv.2.2.2 2 _ rfl rfl) ?_
  have hmy := (mj_mth_spec hidx).1
  cases hr0 : r with
  | none =>
    intro T hT X
    have hM := tt_met htr D ca base (f := f - 1) (w := w - 23) (me := me) (k := k) (pcz := pcz) (a := [.ref b, .int o, .int i]) (h := h) (n := n) hmy ho2 hkd (by rw [hmx]; show 3 ≤ 4; omega) (by
      intro v hv
      simp only [List.mem_cons, List.not_mem_nil, or_false] at hv
      rcases hv with rfl | rfl | rfl <;> rfl) (by omega) (by omega) (hN hr0) hd
    obtain ⟨T', L, X', hL, z1, z2, z3, ⟨ce, z4, z5, z6⟩, st⟩ := tc_call (own := 4) (As := [.int o, .int i]) (rest := [.int 0, .ref out]) (arr := arr) (pc := 5) (fs := fs) X hx hb (hml.trans lv.1.symm) hts hown hK (by rw [hT]; exact hH) (by rw [hT]; exact hsz) hbn hidx hkd hna (by rw [ho2]; exact hb5) hM (hth.moved X.warmed.alike (fun q _ => by rw [hT])) hstr (by show f - 1 + 1 ≤ f; omega) (by rw [hmx]; show 8 + (4 + 11) + (w - 23) ≤ w; omega) (by show 1 + (1 + 0) ≤ 8; omega) (by show 0 + 1 ≤ 1; omega) (by show 0 + 6 ≤ 6; omega) d5
    have hself : s.vm.assignable ce.cls ce.cls = true := by
      obtain ⟨c3, c4, g3, g4, hasg⟩ := Cond.castable_spec (hth.words hts _ la_cast)
      cases z6.symm.trans g3
      cases z6.symm.trans g4
      exact hasg
    obtain ⟨vm', X'', st2⟩ := tc_caught X' n (g := F0 m 5 arr [.int 0, .ref out]) rfl hown hxT (by simp only [covers, hx1, hx2]; decide) (by rw [hx4]; decide) (name := thX) (by rw [hx4]; exact hts _ (mj_in_T la_l13)) z6 z4 (by rw [z5]; rfl) hself
    rw [hx3] at st2
    have hS' : va_S (fun q => base ≤ q) s.heap T'.heap ([] ++ L) := by
      refine ⟨by rw [z1, hsz]; omega, fun q h1 h2 => ?_, fun q hq => hL q (by simpa using hq)⟩
      rw [z3 q (Nat.not_le.mp h2), hT]
    have K : W p l e (headSpec (laW yL cL) { frames := f, cells := 1, slots := 6, locals := w }).room s m ([.ref b, .int o, .int i, .ref out] : List Value).toArray below meth c T'.heap ([] ++ L) (0 + 1) (0 + 6) (MQ below (mj_Qc D ca base (laQ r h n out og)) ([.ref b, .int o, .int i, .ref out] : List Value).toArray s 1 6 (fun q => base ≤ q)) (F0 m 13 arr [.ref n]) := by
      refine lv_astore hx hb d13 lv.has (by decide) rfl (fun arr' h' => ?_)
      refine lv_iconst hx hb d15 rfl ?_
      exact fin 1 16 _ _ _ _ _ h (n + 1) (Or.inl ⟨hr0, rfl, rfl, rfl⟩) d16 z2 z1 hS' (by omega) (by omega)
    obtain ⟨t, a1, b1⟩ := K (T'.setVm vm') rfl X''
    rw [hr0] at b1
    exact ⟨t, st.trans (st2 t a1), b1⟩
  | some c0 =>
    have hMet : mj_Met l D ca base f w me [.ref b, .int o, .int i] h n 0 0 (fun v h' n' => v = some (.int (bS c0)) ∧ h' = h ∧ n' = n) := mj_sound l D ca base f w me _ h n 0 0 _ (hS c0 hr0 _ ⟨rfl, rfl, rfl⟩)
    refine mj_runVR (own := 4) (idx := idx) (y := me) (na := 2) (mc := 0) (ms := 0) (n := n) (b := b) (fs := fs) (st := [.int i, .int o, .ref b, .int 0, .ref out]) hx hb (hml.trans lv.1.symm) hts hown hK hH hsz hbn va_S.rf hidx hkd hna (by
      intro v hv
      simp only [List.mem_cons, List.not_mem_nil, or_false] at hv
      rcases hv with rfl | rfl | rfl | rfl | rfl <;> rfl) (by show 5 ≤ 2 + 8; omega) rfl (by rw [ho2]; exact hb5) hMet (by show 0 + 0 ≤ 1; omega) (by show 0 + 0 ≤ 6; omega) d5 ?_
    rintro r1 h1 n1 H1 locs1 ⟨rfl, rfl, rfl⟩ hz hH1 hS1
    refine lv_i2l hx hb d8 rfl ?_
    refine mj_lastR hx hb hK hH1 hS1 hou (vp_in_nI (n := 0) (by omega) (by decide)) d9 (fun H2 locs2 hz2 hH2 hS2 => ?_)
    refine lv_goto hx hb d10 (tgt := 17) (by decide) ?_
    refine lv_iconst hx hb d17 rfl ?_
    rw [← hr0]
    exact fin 0 18 _ _ _ _ _ _ _ (Or.inr ⟨c0, hr0, rfl, rfl, rfl⟩) d18 hH2 (hz2.trans hz) hS2 (by omega) (by omega)
