/-! ===== the law, case by case ===== -/
abbrev LSt (AD : Ad) (k : Nat) (v5 v6 : Value) : List Value := [.ref (AD 7 0), .ref (AD 5 0), .ref (AD 6 0), .ref (AD 8 0), .int (nI k), v5, v6]
def bc (k : Nat) (S : St) : Nat := 2 * (2048 - k) + 2 * (20 - S_np S)
def bs (k : Nat) (S : St) : Nat := 606 * (2048 - k) + 606 * (20 - S_np S)
/-- what is to be shown behind a turn -/
def NX (f w : Nat) (Z : mj_K) (Q : mj_Q) (len : Nat) (sg : Nat → Int32) (k : Nat) : Prop := ∀ S AD X A og C h n rc rs v5 v6, GX S S n h AD len sg X A og C → OK S → bc (k + 4) S ≤ rc → bs (k + 4) S ≤ rs → mj_W f w 89 (mj_Zl Z) Q 755 (LSt AD k v5 v6) [] h n rc rs
theorem S_item_np {S : St} {i kd s : Nat} {by_ : Nat → Nat} {pk ix : Nat} : S_np (S_item S i kd s by_ pk ix) = S_np S := S_item_same 6 0 0 (by omega)
theorem S_pack_np {S : St} {p ct fs ex pz : Nat} {pb : Nat → Nat} : S_np (S_pack S p ct fs ex pz pb) = S_np S := S_pack_same 6 0 0 (by omega)
theorem st_obj_np {S : St} {kd : Nat} : S_np (st_obj S kd) = S_np S := st_obj_o (by omega) (by omega)
theorem np_put {S : St} {o : Int32} {c : Nat} : S_np (op_put S o c).2 = S_np S := by
  unfold op_put
  repeat' split
  all_goals first | rfl | exact S_item_np
theorem np_change {S : St} {o : Int32} : S_np (op_change S o).2 = S_np S := by
  unfold op_change
  repeat' split
  all_goals first | rfl | exact S_item_np
theorem np_row {S : St} {o p x : Int32} : S_np (op_row S o p x).2 = S_np S := by
  unfold op_row
  split
  · exact S_item_np
  · rfl
theorem np_add {S : St} {p : Int32} {c : Nat} : S_np (op_add S p c).2 = S_np S := by
  unfold op_add
  repeat' split
  all_goals first | rfl | exact S_pack_np
theorem np_extend {S : St} {p o : Int32} : S_np (op_extend S p o).2 = S_np S := by
  unfold op_extend
  repeat' split
  all_goals first | rfl | exact S_pack_np
theorem np_read {S : St} {p : Int32} : S_np (op_read S p).2 = S_np S := by
  unfold op_read
  split
  · exact rdN_lo _ (by omega)
  · rfl
theorem np_object {S : St} {x : Int32} : S_np S ≤ S_np (op_object S x).2 := by
  unfold op_object
  repeat' split
  all_goals first | exact Nat.le_refl _ | exact Nat.le_of_eq st_obj_np.symm
theorem np_raw {S : St} {c fi : Int32} : S_np S ≤ S_np (op_raw S c fi).2 := by
  unfold op_raw
  repeat' split
  all_goals first | exact Nat.le_refl _ | (rw [st_raw_np]; omega)
section
variable {f w : Nat} {Z : mj_K} {Q : mj_Q} {h : mj_H} {n rc rs : Nat} {S : St} {AD : Ad} {len k : Nat} {sg : Nat → Int32} {X : Nat → Int32} {A : Nat → Nat → Int32} {og : Nat → Int64} {C : Ct} {v5 v6 : Value}
set_option maxRecDepth 100000 in
theorem t_object (hf : 7 ≤ f) (hw : 164 ≤ w) (hG : GX S S n h AD len sg X A og C) (hO : OK S) (hk : k + 4 ≤ len) (hlen : len ≤ 2048) (hc : bc k S ≤ rc) (hs : bs k S ≤ rs) (hN : NX f w Z Q len sg k) : mj_W f w 89 (mj_Zl Z) Q 120 (LSt AD k v5 v6) [] h n rc rs := by
  obtain ⟨fs5, h5⟩ := hG.os
  have hsc := hG.sc
  unfold bc at hc
  unfold bs at hs
  have e1 : nI k + 1 = nI (k + 1) := by rw [show (1 : Int32) = nI 1 from rfl, nI_add]
  have c1 := nI_cl (show k + 1 < 2147483648 by omega)
  have v1_ : vp_in (nI (k + 1)) len := vp_in_nI (by omega) (by omega)
  simp only [sL_law_120, sL_law_121, sL_law_122, sL_law_124, sL_law_125, sL_law_126, hsc, Option.some.injEq, Sum.inr.injEq, Sum.inl.injEq, Prod.mk.injEq, true_and, and_true, exists_eq_left', exists_eq_left, exists_eq_right, exists_eq_right', exists_and_left, exists_and_right, List.getElem?_cons_succ, List.getElem?_cons_zero, List.length_cons, List.length_nil, List.set_cons_zero, List.set_cons_succ, Option.toList_some, Option.toList_none, List.nil_append, List.cons_append, mj_up_s, true_or, or_true, Nat.sub_zero, and_assoc, b10, not_true_eq_false, not_false_eq_true, false_implies, true_implies, implies_true, eq_self, and_self, rf_some, rf_none, e1, c1]
  refine And.intro v1_ ?_
  refine sL_law_127 2 67 h5 rfl (by omega) (by omega) (m_object (by omega) (by omega) hG.mem hG.cc hO.1 (by omega) (by omega) (fun h1 n1 AD1 _ _ hK1 => ?_))
  obtain ⟨⟨C1, hG1⟩, a5, a6, a7, a8⟩ := hG.clsA hK1
  have hsc1 := hG1.sc
  rw [← a5, ← a6, ← a7, ← a8]
  simp only [sL_law_130, sL_law_131, sL_law_132, sL_law_134, sL_law_135, sL_law_136, hsc1, Option.some.injEq, Sum.inr.injEq, Sum.inl.injEq, Prod.mk.injEq, true_and, and_true, exists_eq_left', exists_eq_left, exists_eq_right, exists_eq_right', exists_and_left, exists_and_right, List.getElem?_cons_succ, List.getElem?_cons_zero, List.length_cons, List.length_nil, List.set_cons_zero, List.set_cons_succ, Option.toList_some, Option.toList_none, List.nil_append, List.cons_append, mj_up_s, true_or, or_true, Nat.sub_zero, and_assoc, b10, not_true_eq_false, not_false_eq_true, false_implies, true_implies, implies_true, eq_self, and_self, rf_some, rf_none, e1, c1]
  refine And.intro v1_ ?_
  refine sL_law_137z hG1.rf rfl (r_object (by omega) (by omega) hG1.mhf hG1.cm hO.1 (fun h2 hK2 => ?_))
  obtain ⟨X2, A2, C2, hG2, -⟩ := hG1.ref hK2
  simp only [sL_law_140, Option.some.injEq, Sum.inr.injEq, Sum.inl.injEq, Prod.mk.injEq, true_and, and_true, exists_eq_left', exists_eq_left, exists_eq_right, exists_eq_right', exists_and_left, exists_and_right, List.getElem?_cons_succ, List.getElem?_cons_zero, List.length_cons, List.length_nil, List.set_cons_zero, List.set_cons_succ, Option.toList_some, Option.toList_none, List.nil_append, List.cons_append, mj_up_s, true_or, or_true, Nat.sub_zero, and_assoc, b10, not_true_eq_false, not_false_eq_true, false_implies, true_implies, implies_true, eq_self, and_self, rf_some, rf_none]
  have hnp : S_np S ≤ S_np (op_object S (sg (k + 1))).2 := np_object
  exact hN _ _ _ _ _ _ _ _ _ _ _ _ hG2 (OK_object hO _) (by unfold bc; omega) (by unfold bs; omega)
set_option maxRecDepth 100000 in
theorem t_put (hf : 7 ≤ f) (hw : 164 ≤ w) (hG : GX S S n h AD len sg X A og C) (hO : OK S) (hk : k + 4 ≤ len) (hlen : len ≤ 2048) (hc : bc k S ≤ rc) (hs : bs k S ≤ rs) (hN : NX f w Z Q len sg k) : mj_W f w 89 (mj_Zl Z) Q 145 (LSt AD k v5 v6) [] h n rc rs := by
  obtain ⟨fs5, h5⟩ := hG.os
  have hsc := hG.sc
  unfold bc at hc
  unfold bs at hs
  have e1 : nI k + 1 = nI (k + 1) := by rw [show (1 : Int32) = nI 1 from rfl, nI_add]
  have c1 := nI_cl (show k + 1 < 2147483648 by omega)
  have v1_ : vp_in (nI (k + 1)) len := vp_in_nI (by omega) (by omega)
  have e2 : nI k + 2 = nI (k + 2) := by rw [show (2 : Int32) = nI 2 from rfl, nI_add]
  have c2 := nI_cl (show k + 2 < 2147483648 by omega)
  have v2_ : vp_in (nI (k + 2)) len := vp_in_nI (by omega) (by omega)
  obtain ⟨cb, hc256, ecb⟩ := byte_of (sg (k + 2))
  simp only [sL_law_145, sL_law_146, sL_law_147, sL_law_149, sL_law_150, sL_law_151, sL_law_152, sL_law_153, sL_law_155, sL_law_156, sL_law_157, sL_law_158, hsc, Option.some.injEq, Sum.inr.injEq, Sum.inl.injEq, Prod.mk.injEq, true_and, and_true, exists_eq_left', exists_eq_left, exists_eq_right, exists_eq_right', exists_and_left, exists_and_right, List.getElem?_cons_succ, List.getElem?_cons_zero, List.length_cons, List.length_nil, List.set_cons_zero, List.set_cons_succ, Option.toList_some, Option.toList_none, List.nil_append, List.cons_append, mj_up_s, true_or, or_true, Nat.sub_zero, and_assoc, b10, not_true_eq_false, not_false_eq_true, false_implies, true_implies, implies_true, eq_self, and_self, rf_some, rf_none, e1, c1, e2, c2, ecb]
  refine And.intro v1_ (And.intro v2_ ?_)
  refine sL_law_159z h5 rfl (m_put (c := cb) (by omega) (by omega) hG.mem hG.cc hO.1 (fun h1 hK1 => ?_))
  obtain ⟨C1, hG1⟩ := hG.cls hK1
  have hsc1 := hG1.sc
  simp only [sL_law_162, sL_law_163, sL_law_164, sL_law_166, sL_law_167, sL_law_168, sL_law_169, sL_law_170, sL_law_172, sL_law_173, sL_law_174, sL_law_175, hsc1, Option.some.injEq, Sum.inr.injEq, Sum.inl.injEq, Prod.mk.injEq, true_and, and_true, exists_eq_left', exists_eq_left, exists_eq_right, exists_eq_right', exists_and_left, exists_and_right, List.getElem?_cons_succ, List.getElem?_cons_zero, List.length_cons, List.length_nil, List.set_cons_zero, List.set_cons_succ, Option.toList_some, Option.toList_none, List.nil_append, List.cons_append, mj_up_s, true_or, or_true, Nat.sub_zero, and_assoc, b10, not_true_eq_false, not_false_eq_true, false_implies, true_implies, implies_true, eq_self, and_self, rf_some, rf_none, e1, c1, e2, c2, ecb]
  refine And.intro v1_ (And.intro v2_ ?_)
  refine sL_law_176z hG1.rf rfl (r_put (by omega) (by omega) hG1.mhf hG1.cm hO.1 hc256 (fun h2 hK2 => ?_))
  obtain ⟨X2, A2, C2, hG2, -⟩ := hG1.ref hK2
  simp only [sL_law_179, Option.some.injEq, Sum.inr.injEq, Sum.inl.injEq, Prod.mk.injEq, true_and, and_true, exists_eq_left', exists_eq_left, exists_eq_right, exists_eq_right', exists_and_left, exists_and_right, List.getElem?_cons_succ, List.getElem?_cons_zero, List.length_cons, List.length_nil, List.set_cons_zero, List.set_cons_succ, Option.toList_some, Option.toList_none, List.nil_append, List.cons_append, mj_up_s, true_or, or_true, Nat.sub_zero, and_assoc, b10, not_true_eq_false, not_false_eq_true, false_implies, true_implies, implies_true, eq_self, and_self, rf_some, rf_none]
  have hnp : S_np (op_put S (sg (k + 1)) cb).2 = S_np S := np_put
  exact hN _ _ _ _ _ _ _ _ _ _ _ _ hG2 (OK_put hO _ hc256) (by unfold bc; omega) (by unfold bs; omega)
set_option maxRecDepth 100000 in
theorem t_change (hf : 7 ≤ f) (hw : 164 ≤ w) (hG : GX S S n h AD len sg X A og C) (hO : OK S) (hk : k + 4 ≤ len) (hlen : len ≤ 2048) (hc : bc k S ≤ rc) (hs : bs k S ≤ rs) (hN : NX f w Z Q len sg k) : mj_W f w 89 (mj_Zl Z) Q 184 (LSt AD k v5 v6) [] h n rc rs := by
  obtain ⟨fs5, h5⟩ := hG.os
  have hsc := hG.sc
  unfold bc at hc
  unfold bs at hs
  have e1 : nI k + 1 = nI (k + 1) := by rw [show (1 : Int32) = nI 1 from rfl, nI_add]
  have c1 := nI_cl (show k + 1 < 2147483648 by omega)
  have v1_ : vp_in (nI (k + 1)) len := vp_in_nI (by omega) (by omega)
  simp only [sL_law_184, sL_law_185, sL_law_186, sL_law_188, sL_law_189, sL_law_190, hsc, Option.some.injEq, Sum.inr.injEq, Sum.inl.injEq, Prod.mk.injEq, true_and, and_true, exists_eq_left', exists_eq_left, exists_eq_right, exists_eq_right', exists_and_left, exists_and_right, List.getElem?_cons_succ, List.getElem?_cons_zero, List.length_cons, List.length_nil, List.set_cons_zero, List.set_cons_succ, Option.toList_some, Option.toList_none, List.nil_append, List.cons_append, mj_up_s, true_or, or_true, Nat.sub_zero, and_assoc, b10, not_true_eq_false, not_false_eq_true, false_implies, true_implies, implies_true, eq_self, and_self, rf_some, rf_none, e1, c1]
  refine And.intro v1_ ?_
  refine sL_law_191z h5 rfl (m_change (by omega) (by omega) hG.mem hG.cc hO.1 (fun h1 hK1 => ?_))
  obtain ⟨C1, hG1⟩ := hG.cls hK1
  have hsc1 := hG1.sc
  simp only [sL_law_194, sL_law_195, sL_law_196, sL_law_198, sL_law_199, sL_law_200, hsc1, Option.some.injEq, Sum.inr.injEq, Sum.inl.injEq, Prod.mk.injEq, true_and, and_true, exists_eq_left', exists_eq_left, exists_eq_right, exists_eq_right', exists_and_left, exists_and_right, List.getElem?_cons_succ, List.getElem?_cons_zero, List.length_cons, List.length_nil, List.set_cons_zero, List.set_cons_succ, Option.toList_some, Option.toList_none, List.nil_append, List.cons_append, mj_up_s, true_or, or_true, Nat.sub_zero, and_assoc, b10, not_true_eq_false, not_false_eq_true, false_implies, true_implies, implies_true, eq_self, and_self, rf_some, rf_none, e1, c1]
  refine And.intro v1_ ?_
  refine sL_law_201z hG1.rf rfl (r_change (by omega) (by omega) hG1.mhf hG1.cm hO.1 (fun h2 hK2 => ?_))
  obtain ⟨X2, A2, C2, hG2, -⟩ := hG1.ref hK2
  simp only [sL_law_204, Option.some.injEq, Sum.inr.injEq, Sum.inl.injEq, Prod.mk.injEq, true_and, and_true, exists_eq_left', exists_eq_left, exists_eq_right, exists_eq_right', exists_and_left, exists_and_right, List.getElem?_cons_succ, List.getElem?_cons_zero, List.length_cons, List.length_nil, List.set_cons_zero, List.set_cons_succ, Option.toList_some, Option.toList_none, List.nil_append, List.cons_append, mj_up_s, true_or, or_true, Nat.sub_zero, and_assoc, b10, not_true_eq_false, not_false_eq_true, false_implies, true_implies, implies_true, eq_self, and_self, rf_some, rf_none]
  have hnp : S_np (op_change S (sg (k + 1))).2 = S_np S := np_change
  exact hN _ _ _ _ _ _ _ _ _ _ _ _ hG2 (OK_change hO _) (by unfold bc; omega) (by unfold bs; omega)
set_option maxRecDepth 100000 in
theorem t_pack (hf : 7 ≤ f) (hw : 164 ≤ w) (hG : GX S S n h AD len sg X A og C) (hO : OK S) (hk : k + 4 ≤ len) (hlen : len ≤ 2048) (hc : bc k S ≤ rc) (hs : bs k S ≤ rs) (hN : NX f w Z Q len sg k) : mj_W f w 89 (mj_Zl Z) Q 209 (LSt AD k v5 v6) [] h n rc rs := by
  obtain ⟨fs5, h5⟩ := hG.os
  have hsc := hG.sc
  unfold bc at hc
  unfold bs at hs
  have e1 : nI k + 1 = nI (k + 1) := by rw [show (1 : Int32) = nI 1 from rfl, nI_add]
  have c1 := nI_cl (show k + 1 < 2147483648 by omega)
  have v1_ : vp_in (nI (k + 1)) len := vp_in_nI (by omega) (by omega)
  have hT : ∃ F, ∀ m, sg (k + 1) = nI m → 1 ≤ m → m ≤ 10 → Lay S m PL0 F := by
    by_cases hx : ∃ m, sg (k + 1) = nI m ∧ 1 ≤ m ∧ m ≤ 10
    · obtain ⟨m, e, m1, m2⟩ := hx
      obtain ⟨F, hF⟩ := Lay_total (S := S) (most := m) _ PL0 (Nat.lt_succ_self _)
      refine ⟨F, fun m' e' q1 q2 => ?_⟩
      have : m' = m := (nI_eq (by omega) (by omega)).mp (e'.symm.trans e)
      subst this; exact hF
    · exact ⟨PL0, fun m e q1 q2 => absurd ⟨m, e, q1, q2⟩ hx⟩
  obtain ⟨F, hL⟩ := hT
  have hmd : S_np S + mdP S (sg (k + 1)) F ≤ 20 := by
    unfold mdP
    have := hO.1.2.1
    split
    · rename_i z; exact z.2
    · omega
  have hnpF : S_np (op_pack S (sg (k + 1)) F).2 = S_np S + mdP S (sg (k + 1)) F := by
    unfold op_pack mdP
    by_cases hc1 : 1 ≤ sg (k + 1) ∧ sg (k + 1) ≤ 10
    · rw [if_pos hc1]
      by_cases h20 : 20 < S_np S + F.md
      · rw [if_pos h20, if_neg (fun z => by omega)]; rfl
      · rw [if_neg h20, if_pos ⟨hc1, by omega⟩]
        obtain ⟨m, t1, e, t3⟩ := i32_of (x := sg (k + 1)) (by clear hN hG hL hsc h5; (simp only [Int32.le_iff_toInt_le, Int32.lt_iff_toInt_lt, i32_eq, i32_0, i32_m1, i32_600, i32_60, i32_20, i32_99, i32_10, i32_1, i32_2] at *; omega))
        have hm1 : 1 ≤ m := by rw [e] at hc1; clear hN hG hL hsc h5; rw [e] at t3; (simp only [Int32.le_iff_toInt_le, Int32.lt_iff_toInt_lt, i32_eq, i32_0, i32_m1, i32_600, i32_60, i32_20, i32_99, i32_10, i32_1, i32_2] at *; omega)
        have hm2 : m ≤ 10 := by rw [e] at hc1; clear hN hG hL hsc h5; rw [e] at t3; (simp only [Int32.le_iff_toInt_le, Int32.lt_iff_toInt_lt, i32_eq, i32_0, i32_m1, i32_600, i32_60, i32_20, i32_99, i32_10, i32_1, i32_2] at *; omega)
        have hI := (hL m e hm1 hm2).inv hm1 (fun i hi => (hO.1.2.2.2.1 i hi).2.1) INV0
        exact (WI.all hO.1 hI hm2 (by omega) F.md (Nat.le_refl _)).2.2.1
    · rw [if_neg hc1, if_neg (fun z => hc1 z.1)]; rfl
  simp only [sL_law_209, sL_law_210, sL_law_211, sL_law_213, sL_law_214, sL_law_215, hsc, Option.some.injEq, Sum.inr.injEq, Sum.inl.injEq, Prod.mk.injEq, true_and, and_true, exists_eq_left', exists_eq_left, exists_eq_right, exists_eq_right', exists_and_left, exists_and_right, List.getElem?_cons_succ, List.getElem?_cons_zero, List.length_cons, List.length_nil, List.set_cons_zero, List.set_cons_succ, Option.toList_some, Option.toList_none, List.nil_append, List.cons_append, mj_up_s, true_or, or_true, Nat.sub_zero, and_assoc, b10, not_true_eq_false, not_false_eq_true, false_implies, true_implies, implies_true, eq_self, and_self, rf_some, rf_none, e1, c1]
  refine And.intro v1_ ?_
  refine sL_law_216 (2 * mdP S (sg (k + 1)) F) (606 * mdP S (sg (k + 1)) F) h5 rfl (by omega) (by omega) (m_pack (by omega) (by omega) hG.mem hG.cc hO.1 hL (by omega) (by omega) (fun h1 AD1 hK1 => ?_))
  obtain ⟨⟨C1, hG1⟩, a5, a6, a7, a8⟩ := hG.clsA hK1
  have hsc1 := hG1.sc
  rw [← a5, ← a6, ← a7, ← a8]
  simp only [sL_law_219, sL_law_220, sL_law_221, sL_law_223, sL_law_224, sL_law_225, hsc1, Option.some.injEq, Sum.inr.injEq, Sum.inl.injEq, Prod.mk.injEq, true_and, and_true, exists_eq_left', exists_eq_left, exists_eq_right, exists_eq_right', exists_and_left, exists_and_right, List.getElem?_cons_succ, List.getElem?_cons_zero, List.length_cons, List.length_nil, List.set_cons_zero, List.set_cons_succ, Option.toList_some, Option.toList_none, List.nil_append, List.cons_append, mj_up_s, true_or, or_true, Nat.sub_zero, and_assoc, b10, not_true_eq_false, not_false_eq_true, false_implies, true_implies, implies_true, eq_self, and_self, rf_some, rf_none, e1, c1]
  refine And.intro v1_ ?_
  refine sL_law_226z hG1.rf rfl (r_pack (by omega) (by omega) hG1.mhf hG1.cm hO.1 hL (fun h2 hK2 => ?_))
  obtain ⟨X2, A2, C2, hG2, -⟩ := hG1.ref hK2
  simp only [sL_law_229, Option.some.injEq, Sum.inr.injEq, Sum.inl.injEq, Prod.mk.injEq, true_and, and_true, exists_eq_left', exists_eq_left, exists_eq_right, exists_eq_right', exists_and_left, exists_and_right, List.getElem?_cons_succ, List.getElem?_cons_zero, List.length_cons, List.length_nil, List.set_cons_zero, List.set_cons_succ, Option.toList_some, Option.toList_none, List.nil_append, List.cons_append, mj_up_s, true_or, or_true, Nat.sub_zero, and_assoc, b10, not_true_eq_false, not_false_eq_true, false_implies, true_implies, implies_true, eq_self, and_self, rf_some, rf_none]
  exact hN _ _ _ _ _ _ _ _ _ _ _ _ hG2 (OK_pack hO _ hL) (by unfold bc; omega) (by unfold bs; omega)
set_option maxRecDepth 100000 in
theorem t_size (hf : 7 ≤ f) (hw : 164 ≤ w) (hG : GX S S n h AD len sg X A og C) (hO : OK S) (hk : k + 4 ≤ len) (hlen : len ≤ 2048) (hc : bc k S ≤ rc) (hs : bs k S ≤ rs) (hN : NX f w Z Q len sg k) : mj_W f w 89 (mj_Zl Z) Q 234 (LSt AD k v5 v6) [] h n rc rs := by
  obtain ⟨fs5, h5⟩ := hG.os
  have hsc := hG.sc
  unfold bc at hc
  unfold bs at hs
  have e1 : nI k + 1 = nI (k + 1) := by rw [show (1 : Int32) = nI 1 from rfl, nI_add]
  have c1 := nI_cl (show k + 1 < 2147483648 by omega)
  have v1_ : vp_in (nI (k + 1)) len := vp_in_nI (by omega) (by omega)
  simp only [sL_law_234, sL_law_235, sL_law_236, sL_law_238, sL_law_239, sL_law_240, hsc, Option.some.injEq, Sum.inr.injEq, Sum.inl.injEq, Prod.mk.injEq, true_and, and_true, exists_eq_left', exists_eq_left, exists_eq_right, exists_eq_right', exists_and_left, exists_and_right, List.getElem?_cons_succ, List.getElem?_cons_zero, List.length_cons, List.length_nil, List.set_cons_zero, List.set_cons_succ, Option.toList_some, Option.toList_none, List.nil_append, List.cons_append, mj_up_s, true_or, or_true, Nat.sub_zero, and_assoc, b10, not_true_eq_false, not_false_eq_true, false_implies, true_implies, implies_true, eq_self, and_self, rf_some, rf_none, e1, c1]
  refine And.intro v1_ ?_
  refine sL_law_241z h5 rfl (m_size (by omega) (by omega) hG.mem hG.cc hO.1 ?_)
  simp only [sL_law_244, sL_law_245, sL_law_246, sL_law_248, sL_law_249, sL_law_250, hsc, Option.some.injEq, Sum.inr.injEq, Sum.inl.injEq, Prod.mk.injEq, true_and, and_true, exists_eq_left', exists_eq_left, exists_eq_right, exists_eq_right', exists_and_left, exists_and_right, List.getElem?_cons_succ, List.getElem?_cons_zero, List.length_cons, List.length_nil, List.set_cons_zero, List.set_cons_succ, Option.toList_some, Option.toList_none, List.nil_append, List.cons_append, mj_up_s, true_or, or_true, Nat.sub_zero, and_assoc, b10, not_true_eq_false, not_false_eq_true, false_implies, true_implies, implies_true, eq_self, and_self, rf_some, rf_none, e1, c1]
  refine And.intro v1_ ?_
  refine sL_law_251z hG.rf rfl (r_size (by omega) (by omega) hG.mhf hG.cm hO.1 (fun h2 hK2 => ?_))
  obtain ⟨X2, A2, C2, hG2, -⟩ := hG.ref hK2
  simp only [sL_law_254, Option.some.injEq, Sum.inr.injEq, Sum.inl.injEq, Prod.mk.injEq, true_and, and_true, exists_eq_left', exists_eq_left, exists_eq_right, exists_eq_right', exists_and_left, exists_and_right, List.getElem?_cons_succ, List.getElem?_cons_zero, List.length_cons, List.length_nil, List.set_cons_zero, List.set_cons_succ, Option.toList_some, Option.toList_none, List.nil_append, List.cons_append, mj_up_s, true_or, or_true, Nat.sub_zero, and_assoc, b10, not_true_eq_false, not_false_eq_true, false_implies, true_implies, implies_true, eq_self, and_self, rf_some, rf_none]
  exact hN _ _ _ _ _ _ _ _ _ _ _ _ hG2 hO (by unfold bc; omega) (by unfold bs; omega)
set_option maxRecDepth 100000 in
theorem t_in (hf : 7 ≤ f) (hw : 164 ≤ w) (hG : GX S S n h AD len sg X A og C) (hO : OK S) (hk : k + 4 ≤ len) (hlen : len ≤ 2048) (hc : bc k S ≤ rc) (hs : bs k S ≤ rs) (hN : NX f w Z Q len sg k) : mj_W f w 89 (mj_Zl Z) Q 327 (LSt AD k v5 v6) [] h n rc rs := by
  obtain ⟨fs5, h5⟩ := hG.os
  have hsc := hG.sc
  unfold bc at hc
  unfold bs at hs
  have e1 : nI k + 1 = nI (k + 1) := by rw [show (1 : Int32) = nI 1 from rfl, nI_add]
  have c1 := nI_cl (show k + 1 < 2147483648 by omega)
  have v1_ : vp_in (nI (k + 1)) len := vp_in_nI (by omega) (by omega)
  simp only [sL_law_327, sL_law_328, sL_law_329, sL_law_331, sL_law_332, sL_law_333, hsc, Option.some.injEq, Sum.inr.injEq, Sum.inl.injEq, Prod.mk.injEq, true_and, and_true, exists_eq_left', exists_eq_left, exists_eq_right, exists_eq_right', exists_and_left, exists_and_right, List.getElem?_cons_succ, List.getElem?_cons_zero, List.length_cons, List.length_nil, List.set_cons_zero, List.set_cons_succ, Option.toList_some, Option.toList_none, List.nil_append, List.cons_append, mj_up_s, true_or, or_true, Nat.sub_zero, and_assoc, b10, not_true_eq_false, not_false_eq_true, false_implies, true_implies, implies_true, eq_self, and_self, rf_some, rf_none, e1, c1]
  refine And.intro v1_ ?_
  refine sL_law_334z h5 rfl (m_in (by omega) (by omega) hG.mem hG.cc hO.1 ?_)
  simp only [sL_law_337, sL_law_338, sL_law_339, sL_law_341, sL_law_342, sL_law_343, hsc, Option.some.injEq, Sum.inr.injEq, Sum.inl.injEq, Prod.mk.injEq, true_and, and_true, exists_eq_left', exists_eq_left, exists_eq_right, exists_eq_right', exists_and_left, exists_and_right, List.getElem?_cons_succ, List.getElem?_cons_zero, List.length_cons, List.length_nil, List.set_cons_zero, List.set_cons_succ, Option.toList_some, Option.toList_none, List.nil_append, List.cons_append, mj_up_s, true_or, or_true, Nat.sub_zero, and_assoc, b10, not_true_eq_false, not_false_eq_true, false_implies, true_implies, implies_true, eq_self, and_self, rf_some, rf_none, e1, c1]
  refine And.intro v1_ ?_
  refine sL_law_344z hG.rf rfl (r_in (by omega) (by omega) hG.mhf hG.cm hO.1 (fun h2 hK2 => ?_))
  obtain ⟨X2, A2, C2, hG2, -⟩ := hG.ref hK2
  simp only [sL_law_347, Option.some.injEq, Sum.inr.injEq, Sum.inl.injEq, Prod.mk.injEq, true_and, and_true, exists_eq_left', exists_eq_left, exists_eq_right, exists_eq_right', exists_and_left, exists_and_right, List.getElem?_cons_succ, List.getElem?_cons_zero, List.length_cons, List.length_nil, List.set_cons_zero, List.set_cons_succ, Option.toList_some, Option.toList_none, List.nil_append, List.cons_append, mj_up_s, true_or, or_true, Nat.sub_zero, and_assoc, b10, not_true_eq_false, not_false_eq_true, false_implies, true_implies, implies_true, eq_self, and_self, rf_some, rf_none]
  exact hN _ _ _ _ _ _ _ _ _ _ _ _ hG2 hO (by unfold bc; omega) (by unfold bs; omega)
set_option maxRecDepth 100000 in
theorem t_raw (hf : 7 ≤ f) (hw : 164 ≤ w) (hG : GX S S n h AD len sg X A og C) (hO : OK S) (hk : k + 4 ≤ len) (hlen : len ≤ 2048) (hc : bc k S ≤ rc) (hs : bs k S ≤ rs) (hN : NX f w Z Q len sg k) : mj_W f w 89 (mj_Zl Z) Q 352 (LSt AD k v5 v6) [] h n rc rs := by
  obtain ⟨fs5, h5⟩ := hG.os
  have hsc := hG.sc
  unfold bc at hc
  unfold bs at hs
  have e1 : nI k + 1 = nI (k + 1) := by rw [show (1 : Int32) = nI 1 from rfl, nI_add]
  have c1 := nI_cl (show k + 1 < 2147483648 by omega)
  have v1_ : vp_in (nI (k + 1)) len := vp_in_nI (by omega) (by omega)
  have e2 : nI k + 2 = nI (k + 2) := by rw [show (2 : Int32) = nI 2 from rfl, nI_add]
  have c2 := nI_cl (show k + 2 < 2147483648 by omega)
  have v2_ : vp_in (nI (k + 2)) len := vp_in_nI (by omega) (by omega)
  simp only [sL_law_352, sL_law_353, sL_law_354, sL_law_356, sL_law_357, sL_law_358, sL_law_359, sL_law_360, sL_law_362, sL_law_363, sL_law_364, hsc, Option.some.injEq, Sum.inr.injEq, Sum.inl.injEq, Prod.mk.injEq, true_and, and_true, exists_eq_left', exists_eq_left, exists_eq_right, exists_eq_right', exists_and_left, exists_and_right, List.getElem?_cons_succ, List.getElem?_cons_zero, List.length_cons, List.length_nil, List.set_cons_zero, List.set_cons_succ, Option.toList_some, Option.toList_none, List.nil_append, List.cons_append, mj_up_s, true_or, or_true, Nat.sub_zero, and_assoc, b10, not_true_eq_false, not_false_eq_true, false_implies, true_implies, implies_true, eq_self, and_self, rf_some, rf_none, e1, c1, e2, c2]
  refine And.intro v1_ (And.intro v2_ ?_)
  refine sL_law_365 2 606 h5 rfl (by omega) (by omega) (m_raw (by omega) (by omega) hG.mem hG.cc hO.1 (by omega) (by omega) (fun h1 n1 AD1 _ _ hK1 => ?_))
  obtain ⟨⟨C1, hG1⟩, a5, a6, a7, a8⟩ := hG.clsA hK1
  have hsc1 := hG1.sc
  rw [← a5, ← a6, ← a7, ← a8]
  simp only [sL_law_368, sL_law_369, sL_law_370, sL_law_372, sL_law_373, sL_law_374, sL_law_375, sL_law_376, sL_law_378, sL_law_379, sL_law_380, hsc1, Option.some.injEq, Sum.inr.injEq, Sum.inl.injEq, Prod.mk.injEq, true_and, and_true, exists_eq_left', exists_eq_left, exists_eq_right, exists_eq_right', exists_and_left, exists_and_right, List.getElem?_cons_succ, List.getElem?_cons_zero, List.length_cons, List.length_nil, List.set_cons_zero, List.set_cons_succ, Option.toList_some, Option.toList_none, List.nil_append, List.cons_append, mj_up_s, true_or, or_true, Nat.sub_zero, and_assoc, b10, not_true_eq_false, not_false_eq_true, false_implies, true_implies, implies_true, eq_self, and_self, rf_some, rf_none, e1, c1, e2, c2]
  refine And.intro v1_ (And.intro v2_ ?_)
  refine sL_law_381z hG1.rf rfl (r_raw (by omega) (by omega) hG1.mhf hG1.cm hO.1 (fun h2 hK2 => ?_))
  obtain ⟨X2, A2, C2, hG2, -⟩ := hG1.ref hK2
  simp only [sL_law_384, Option.some.injEq, Sum.inr.injEq, Sum.inl.injEq, Prod.mk.injEq, true_and, and_true, exists_eq_left', exists_eq_left, exists_eq_right, exists_eq_right', exists_and_left, exists_and_right, List.getElem?_cons_succ, List.getElem?_cons_zero, List.length_cons, List.length_nil, List.set_cons_zero, List.set_cons_succ, Option.toList_some, Option.toList_none, List.nil_append, List.cons_append, mj_up_s, true_or, or_true, Nat.sub_zero, and_assoc, b10, not_true_eq_false, not_false_eq_true, false_implies, true_implies, implies_true, eq_self, and_self, rf_some, rf_none]
  have hnp : S_np S ≤ S_np (op_raw S (sg (k + 1)) (sg (k + 2))).2 := np_raw
  exact hN _ _ _ _ _ _ _ _ _ _ _ _ hG2 (OK_raw hO _ _) (by unfold bc; omega) (by unfold bs; omega)
set_option maxRecDepth 100000 in
theorem t_add (hf : 7 ≤ f) (hw : 164 ≤ w) (hG : GX S S n h AD len sg X A og C) (hO : OK S) (hk : k + 4 ≤ len) (hlen : len ≤ 2048) (hc : bc k S ≤ rc) (hs : bs k S ≤ rs) (hN : NX f w Z Q len sg k) : mj_W f w 89 (mj_Zl Z) Q 389 (LSt AD k v5 v6) [] h n rc rs := by
  obtain ⟨fs5, h5⟩ := hG.os
  have hsc := hG.sc
  unfold bc at hc
  unfold bs at hs
  have e1 : nI k + 1 = nI (k + 1) := by rw [show (1 : Int32) = nI 1 from rfl, nI_add]
  have c1 := nI_cl (show k + 1 < 2147483648 by omega)
  have v1_ : vp_in (nI (k + 1)) len := vp_in_nI (by omega) (by omega)
  have e2 : nI k + 2 = nI (k + 2) := by rw [show (2 : Int32) = nI 2 from rfl, nI_add]
  have c2 := nI_cl (show k + 2 < 2147483648 by omega)
  have v2_ : vp_in (nI (k + 2)) len := vp_in_nI (by omega) (by omega)
  obtain ⟨cb, hc256, ecb⟩ := byte_of (sg (k + 2))
  simp only [sL_law_389, sL_law_390, sL_law_391, sL_law_393, sL_law_394, sL_law_395, sL_law_396, sL_law_397, sL_law_399, sL_law_400, sL_law_401, sL_law_402, hsc, Option.some.injEq, Sum.inr.injEq, Sum.inl.injEq, Prod.mk.injEq, true_and, and_true, exists_eq_left', exists_eq_left, exists_eq_right, exists_eq_right', exists_and_left, exists_and_right, List.getElem?_cons_succ, List.getElem?_cons_zero, List.length_cons, List.length_nil, List.set_cons_zero, List.set_cons_succ, Option.toList_some, Option.toList_none, List.nil_append, List.cons_append, mj_up_s, true_or, or_true, Nat.sub_zero, and_assoc, b10, not_true_eq_false, not_false_eq_true, false_implies, true_implies, implies_true, eq_self, and_self, rf_some, rf_none, e1, c1, e2, c2, ecb]
  refine And.intro v1_ (And.intro v2_ ?_)
  refine sL_law_403z h5 rfl (m_add (c := cb) (by omega) (by omega) hG.mem hG.cc hO.1 (fun h1 hK1 => ?_))
  obtain ⟨C1, hG1⟩ := hG.cls hK1
  have hsc1 := hG1.sc
  simp only [sL_law_406, sL_law_407, sL_law_408, sL_law_410, sL_law_411, sL_law_412, sL_law_413, sL_law_414, sL_law_416, sL_law_417, sL_law_418, sL_law_419, hsc1, Option.some.injEq, Sum.inr.injEq, Sum.inl.injEq, Prod.mk.injEq, true_and, and_true, exists_eq_left', exists_eq_left, exists_eq_right, exists_eq_right', exists_and_left, exists_and_right, List.getElem?_cons_succ, List.getElem?_cons_zero, List.length_cons, List.length_nil, List.set_cons_zero, List.set_cons_succ, Option.toList_some, Option.toList_none, List.nil_append, List.cons_append, mj_up_s, true_or, or_true, Nat.sub_zero, and_assoc, b10, not_true_eq_false, not_false_eq_true, false_implies, true_implies, implies_true, eq_self, and_self, rf_some, rf_none, e1, c1, e2, c2, ecb]
  refine And.intro v1_ (And.intro v2_ ?_)
  refine sL_law_420z hG1.rf rfl (r_add (by omega) (by omega) hG1.mhf hG1.cm hO.1 hc256 (fun h2 hK2 => ?_))
  obtain ⟨X2, A2, C2, hG2, -⟩ := hG1.ref hK2
  simp only [sL_law_423, Option.some.injEq, Sum.inr.injEq, Sum.inl.injEq, Prod.mk.injEq, true_and, and_true, exists_eq_left', exists_eq_left, exists_eq_right, exists_eq_right', exists_and_left, exists_and_right, List.getElem?_cons_succ, List.getElem?_cons_zero, List.length_cons, List.length_nil, List.set_cons_zero, List.set_cons_succ, Option.toList_some, Option.toList_none, List.nil_append, List.cons_append, mj_up_s, true_or, or_true, Nat.sub_zero, and_assoc, b10, not_true_eq_false, not_false_eq_true, false_implies, true_implies, implies_true, eq_self, and_self, rf_some, rf_none]
  have hnp : S_np (op_add S (sg (k + 1)) cb).2 = S_np S := np_add
  exact hN _ _ _ _ _ _ _ _ _ _ _ _ hG2 (OK_add hO _ hc256) (by unfold bc; omega) (by unfold bs; omega)
set_option maxRecDepth 100000 in
theorem t_extend (hf : 7 ≤ f) (hw : 164 ≤ w) (hG : GX S S n h AD len sg X A og C) (hO : OK S) (hk : k + 4 ≤ len) (hlen : len ≤ 2048) (hc : bc k S ≤ rc) (hs : bs k S ≤ rs) (hN : NX f w Z Q len sg k) : mj_W f w 89 (mj_Zl Z) Q 496 (LSt AD k v5 v6) [] h n rc rs := by
  obtain ⟨fs5, h5⟩ := hG.os
  have hsc := hG.sc
  unfold bc at hc
  unfold bs at hs
  have e1 : nI k + 1 = nI (k + 1) := by rw [show (1 : Int32) = nI 1 from rfl, nI_add]
  have c1 := nI_cl (show k + 1 < 2147483648 by omega)
  have v1_ : vp_in (nI (k + 1)) len := vp_in_nI (by omega) (by omega)
  have e2 : nI k + 2 = nI (k + 2) := by rw [show (2 : Int32) = nI 2 from rfl, nI_add]
  have c2 := nI_cl (show k + 2 < 2147483648 by omega)
  have v2_ : vp_in (nI (k + 2)) len := vp_in_nI (by omega) (by omega)
  simp only [sL_law_496, sL_law_497, sL_law_498, sL_law_500, sL_law_501, sL_law_502, sL_law_503, sL_law_504, sL_law_506, sL_law_507, sL_law_508, hsc, Option.some.injEq, Sum.inr.injEq, Sum.inl.injEq, Prod.mk.injEq, true_and, and_true, exists_eq_left', exists_eq_left, exists_eq_right, exists_eq_right', exists_and_left, exists_and_right, List.getElem?_cons_succ, List.getElem?_cons_zero, List.length_cons, List.length_nil, List.set_cons_zero, List.set_cons_succ, Option.toList_some, Option.toList_none, List.nil_append, List.cons_append, mj_up_s, true_or, or_true, Nat.sub_zero, and_assoc, b10, not_true_eq_false, not_false_eq_true, false_implies, true_implies, implies_true, eq_self, and_self, rf_some, rf_none, e1, c1, e2, c2]
  refine And.intro v1_ (And.intro v2_ ?_)
  refine sL_law_509z h5 rfl (m_extend (by omega) (by omega) hG.mem hG.cc hO.1 (fun h1 hK1 => ?_))
  obtain ⟨C1, hG1⟩ := hG.cls hK1
  have hsc1 := hG1.sc
  simp only [sL_law_512, sL_law_513, sL_law_514, sL_law_516, sL_law_517, sL_law_518, sL_law_519, sL_law_520, sL_law_522, sL_law_523, sL_law_524, hsc1, Option.some.injEq, Sum.inr.injEq, Sum.inl.injEq, Prod.mk.injEq, true_and, and_true, exists_eq_left', exists_eq_left, exists_eq_right, exists_eq_right', exists_and_left, exists_and_right, List.getElem?_cons_succ, List.getElem?_cons_zero, List.length_cons, List.length_nil, List.set_cons_zero, List.set_cons_succ, Option.toList_some, Option.toList_none, List.nil_append, List.cons_append, mj_up_s, true_or, or_true, Nat.sub_zero, and_assoc, b10, not_true_eq_false, not_false_eq_true, false_implies, true_implies, implies_true, eq_self, and_self, rf_some, rf_none, e1, c1, e2, c2]
  refine And.intro v1_ (And.intro v2_ ?_)
  refine sL_law_525z hG1.rf rfl (r_extend (by omega) (by omega) hG1.mhf hG1.cm hO.1 hO.2 (fun h2 hK2 => ?_))
  obtain ⟨X2, A2, C2, hG2, -⟩ := hG1.ref hK2
  simp only [sL_law_528, Option.some.injEq, Sum.inr.injEq, Sum.inl.injEq, Prod.mk.injEq, true_and, and_true, exists_eq_left', exists_eq_left, exists_eq_right, exists_eq_right', exists_and_left, exists_and_right, List.getElem?_cons_succ, List.getElem?_cons_zero, List.length_cons, List.length_nil, List.set_cons_zero, List.set_cons_succ, Option.toList_some, Option.toList_none, List.nil_append, List.cons_append, mj_up_s, true_or, or_true, Nat.sub_zero, and_assoc, b10, not_true_eq_false, not_false_eq_true, false_implies, true_implies, implies_true, eq_self, and_self, rf_some, rf_none]
  have hnp : S_np (op_extend S (sg (k + 1)) (sg (k + 2))).2 = S_np S := np_extend
  exact hN _ _ _ _ _ _ _ _ _ _ _ _ hG2 (OK_extend hO _ _) (by unfold bc; omega) (by unfold bs; omega)
set_option maxRecDepth 100000 in
theorem t_row (hf : 7 ≤ f) (hw : 164 ≤ w) (hG : GX S S n h AD len sg X A og C) (hO : OK S) (hk : k + 4 ≤ len) (hlen : len ≤ 2048) (hc : bc k S ≤ rc) (hs : bs k S ≤ rs) (hN : NX f w Z Q len sg k) : mj_W f w 89 (mj_Zl Z) Q 533 (LSt AD k v5 v6) [] h n rc rs := by
  obtain ⟨fs5, h5⟩ := hG.os
  have hsc := hG.sc
  unfold bc at hc
  unfold bs at hs
  have e1 : nI k + 1 = nI (k + 1) := by rw [show (1 : Int32) = nI 1 from rfl, nI_add]
  have c1 := nI_cl (show k + 1 < 2147483648 by omega)
  have v1_ : vp_in (nI (k + 1)) len := vp_in_nI (by omega) (by omega)
  have e2 : nI k + 2 = nI (k + 2) := by rw [show (2 : Int32) = nI 2 from rfl, nI_add]
  have c2 := nI_cl (show k + 2 < 2147483648 by omega)
  have v2_ : vp_in (nI (k + 2)) len := vp_in_nI (by omega) (by omega)
  have e3 : nI k + 3 = nI (k + 3) := by rw [show (3 : Int32) = nI 3 from rfl, nI_add]
  have c3 := nI_cl (show k + 3 < 2147483648 by omega)
  have v3_ : vp_in (nI (k + 3)) len := vp_in_nI (by omega) (by omega)
  simp only [sL_law_533, sL_law_534, sL_law_535, sL_law_537, sL_law_538, sL_law_539, sL_law_540, sL_law_541, sL_law_543, sL_law_544, sL_law_545, sL_law_546, sL_law_547, sL_law_549, sL_law_550, sL_law_551, hsc, Option.some.injEq, Sum.inr.injEq, Sum.inl.injEq, Prod.mk.injEq, true_and, and_true, exists_eq_left', exists_eq_left, exists_eq_right, exists_eq_right', exists_and_left, exists_and_right, List.getElem?_cons_succ, List.getElem?_cons_zero, List.length_cons, List.length_nil, List.set_cons_zero, List.set_cons_succ, Option.toList_some, Option.toList_none, List.nil_append, List.cons_append, mj_up_s, true_or, or_true, Nat.sub_zero, and_assoc, b10, not_true_eq_false, not_false_eq_true, false_implies, true_implies, implies_true, eq_self, and_self, rf_some, rf_none, e1, c1, e2, c2, e3, c3]
  refine And.intro v1_ (And.intro v2_ (And.intro v3_ ?_))
  refine sL_law_552z h5 rfl (m_row (by omega) (by omega) hG.mem hG.cc hO.1 (fun h1 hK1 => ?_))
  obtain ⟨C1, hG1⟩ := hG.cls hK1
  have hsc1 := hG1.sc
  simp only [sL_law_555, sL_law_556, sL_law_557, sL_law_559, sL_law_560, sL_law_561, sL_law_562, sL_law_563, sL_law_565, sL_law_566, sL_law_567, sL_law_568, sL_law_569, sL_law_571, sL_law_572, sL_law_573, hsc1, Option.some.injEq, Sum.inr.injEq, Sum.inl.injEq, Prod.mk.injEq, true_and, and_true, exists_eq_left', exists_eq_left, exists_eq_right, exists_eq_right', exists_and_left, exists_and_right, List.getElem?_cons_succ, List.getElem?_cons_zero, List.length_cons, List.length_nil, List.set_cons_zero, List.set_cons_succ, Option.toList_some, Option.toList_none, List.nil_append, List.cons_append, mj_up_s, true_or, or_true, Nat.sub_zero, and_assoc, b10, not_true_eq_false, not_false_eq_true, false_implies, true_implies, implies_true, eq_self, and_self, rf_some, rf_none, e1, c1, e2, c2, e3, c3]
  refine And.intro v1_ (And.intro v2_ (And.intro v3_ ?_))
  refine sL_law_574z hG1.rf rfl (r_row (by omega) (by omega) hG1.mhf hG1.cm hO.1 (fun h2 hK2 => ?_))
  obtain ⟨X2, A2, C2, hG2, -⟩ := hG1.ref hK2
  simp only [sL_law_577, Option.some.injEq, Sum.inr.injEq, Sum.inl.injEq, Prod.mk.injEq, true_and, and_true, exists_eq_left', exists_eq_left, exists_eq_right, exists_eq_right', exists_and_left, exists_and_right, List.getElem?_cons_succ, List.getElem?_cons_zero, List.length_cons, List.length_nil, List.set_cons_zero, List.set_cons_succ, Option.toList_some, Option.toList_none, List.nil_append, List.cons_append, mj_up_s, true_or, or_true, Nat.sub_zero, and_assoc, b10, not_true_eq_false, not_false_eq_true, false_implies, true_implies, implies_true, eq_self, and_self, rf_some, rf_none]
  have hnp : S_np (op_row S (sg (k + 1)) (sg (k + 2)) (sg (k + 3))).2 = S_np S := np_row
  exact hN _ _ _ _ _ _ _ _ _ _ _ _ hG2 (OK_row hO _ _ _) (by unfold bc; omega) (by unfold bs; omega)
set_option maxRecDepth 100000 in
theorem t_read (hf : 7 ≤ f) (hw : 164 ≤ w) (hG : GX S S n h AD len sg X A og C) (hO : OK S) (hk : k + 4 ≤ len) (hlen : len ≤ 2048) (hc : bc k S ≤ rc) (hs : bs k S ≤ rs) (hN : NX f w Z Q len sg k) : mj_W f w 89 (mj_Zl Z) Q 582 (LSt AD k v5 v6) [] h n rc rs := by
  obtain ⟨fs5, h5⟩ := hG.os
  have hsc := hG.sc
  unfold bc at hc
  unfold bs at hs
  have e1 : nI k + 1 = nI (k + 1) := by rw [show (1 : Int32) = nI 1 from rfl, nI_add]
  have c1 := nI_cl (show k + 1 < 2147483648 by omega)
  have v1_ : vp_in (nI (k + 1)) len := vp_in_nI (by omega) (by omega)
  simp only [sL_law_582, sL_law_583, sL_law_584, sL_law_586, sL_law_587, sL_law_588, hsc, Option.some.injEq, Sum.inr.injEq, Sum.inl.injEq, Prod.mk.injEq, true_and, and_true, exists_eq_left', exists_eq_left, exists_eq_right, exists_eq_right', exists_and_left, exists_and_right, List.getElem?_cons_succ, List.getElem?_cons_zero, List.length_cons, List.length_nil, List.set_cons_zero, List.set_cons_succ, Option.toList_some, Option.toList_none, List.nil_append, List.cons_append, mj_up_s, true_or, or_true, Nat.sub_zero, and_assoc, b10, not_true_eq_false, not_false_eq_true, false_implies, true_implies, implies_true, eq_self, and_self, rf_some, rf_none, e1, c1]
  refine And.intro v1_ ?_
  refine sL_law_589z h5 rfl (m_read (by omega) (by omega) hG.mem hG.cc hO.1 (fun h1 hK1 => ?_))
  obtain ⟨C1, hG1⟩ := hG.cls hK1
  have hsc1 := hG1.sc
  simp only [sL_law_592, sL_law_593, sL_law_594, sL_law_596, sL_law_597, sL_law_598, hsc1, Option.some.injEq, Sum.inr.injEq, Sum.inl.injEq, Prod.mk.injEq, true_and, and_true, exists_eq_left', exists_eq_left, exists_eq_right, exists_eq_right', exists_and_left, exists_and_right, List.getElem?_cons_succ, List.getElem?_cons_zero, List.length_cons, List.length_nil, List.set_cons_zero, List.set_cons_succ, Option.toList_some, Option.toList_none, List.nil_append, List.cons_append, mj_up_s, true_or, or_true, Nat.sub_zero, and_assoc, b10, not_true_eq_false, not_false_eq_true, false_implies, true_implies, implies_true, eq_self, and_self, rf_some, rf_none, e1, c1]
  refine And.intro v1_ ?_
  refine sL_law_599z hG1.rf rfl (r_read (by omega) (by omega) hG1.mhf hG1.cm hO.1 (fun h2 hK2 => ?_))
  obtain ⟨X2, A2, C2, hG2, -⟩ := hG1.ref hK2
  simp only [sL_law_602, Option.some.injEq, Sum.inr.injEq, Sum.inl.injEq, Prod.mk.injEq, true_and, and_true, exists_eq_left', exists_eq_left, exists_eq_right, exists_eq_right', exists_and_left, exists_and_right, List.getElem?_cons_succ, List.getElem?_cons_zero, List.length_cons, List.length_nil, List.set_cons_zero, List.set_cons_succ, Option.toList_some, Option.toList_none, List.nil_append, List.cons_append, mj_up_s, true_or, or_true, Nat.sub_zero, and_assoc, b10, not_true_eq_false, not_false_eq_true, false_implies, true_implies, implies_true, eq_self, and_self, rf_some, rf_none]
  have hnp : S_np (op_read S (sg (k + 1))).2 = S_np S := np_read
  exact hN _ _ _ _ _ _ _ _ _ _ _ _ hG2 (OK_read hO _) (by unfold bc; omega) (by unfold bs; omega)
set_option maxRecDepth 100000 in
theorem t_told (hf : 7 ≤ f) (hw : 164 ≤ w) (hG : GX S S n h AD len sg X A og C) (hO : OK S) (hk : k + 4 ≤ len) (hlen : len ≤ 2048) (hc : bc k S ≤ rc) (hs : bs k S ≤ rs) (hN : NX f w Z Q len sg k) : mj_W f w 89 (mj_Zl Z) Q 607 (LSt AD k v5 v6) [] h n rc rs := by
  obtain ⟨fs5, h5⟩ := hG.os
  have hsc := hG.sc
  unfold bc at hc
  unfold bs at hs
  have e1 : nI k + 1 = nI (k + 1) := by rw [show (1 : Int32) = nI 1 from rfl, nI_add]
  have c1 := nI_cl (show k + 1 < 2147483648 by omega)
  have v1_ : vp_in (nI (k + 1)) len := vp_in_nI (by omega) (by omega)
  have e2 : nI k + 2 = nI (k + 2) := by rw [show (2 : Int32) = nI 2 from rfl, nI_add]
  have c2 := nI_cl (show k + 2 < 2147483648 by omega)
  have v2_ : vp_in (nI (k + 2)) len := vp_in_nI (by omega) (by omega)
  simp only [sL_law_607, sL_law_608, sL_law_609, sL_law_611, sL_law_612, sL_law_613, sL_law_614, sL_law_615, sL_law_617, sL_law_618, sL_law_619, hsc, Option.some.injEq, Sum.inr.injEq, Sum.inl.injEq, Prod.mk.injEq, true_and, and_true, exists_eq_left', exists_eq_left, exists_eq_right, exists_eq_right', exists_and_left, exists_and_right, List.getElem?_cons_succ, List.getElem?_cons_zero, List.length_cons, List.length_nil, List.set_cons_zero, List.set_cons_succ, Option.toList_some, Option.toList_none, List.nil_append, List.cons_append, mj_up_s, true_or, or_true, Nat.sub_zero, and_assoc, b10, not_true_eq_false, not_false_eq_true, false_implies, true_implies, implies_true, eq_self, and_self, rf_some, rf_none, e1, c1, e2, c2]
  refine And.intro v1_ (And.intro v2_ ?_)
  refine sL_law_620z h5 rfl (m_told (by omega) (by omega) hG.mem hG.cc hO.1 ?_)
  simp only [sL_law_623, sL_law_624, sL_law_625, sL_law_627, sL_law_628, sL_law_629, sL_law_630, sL_law_631, sL_law_633, sL_law_634, sL_law_635, hsc, Option.some.injEq, Sum.inr.injEq, Sum.inl.injEq, Prod.mk.injEq, true_and, and_true, exists_eq_left', exists_eq_left, exists_eq_right, exists_eq_right', exists_and_left, exists_and_right, List.getElem?_cons_succ, List.getElem?_cons_zero, List.length_cons, List.length_nil, List.set_cons_zero, List.set_cons_succ, Option.toList_some, Option.toList_none, List.nil_append, List.cons_append, mj_up_s, true_or, or_true, Nat.sub_zero, and_assoc, b10, not_true_eq_false, not_false_eq_true, false_implies, true_implies, implies_true, eq_self, and_self, rf_some, rf_none, e1, c1, e2, c2]
  refine And.intro v1_ (And.intro v2_ ?_)
  refine sL_law_636z hG.rf rfl (r_told (by omega) (by omega) hG.mhf hG.cm hO.1 (fun h2 hK2 => ?_))
  obtain ⟨X2, A2, C2, hG2, -⟩ := hG.ref hK2
  simp only [sL_law_639, Option.some.injEq, Sum.inr.injEq, Sum.inl.injEq, Prod.mk.injEq, true_and, and_true, exists_eq_left', exists_eq_left, exists_eq_right, exists_eq_right', exists_and_left, exists_and_right, List.getElem?_cons_succ, List.getElem?_cons_zero, List.length_cons, List.length_nil, List.set_cons_zero, List.set_cons_succ, Option.toList_some, Option.toList_none, List.nil_append, List.cons_append, mj_up_s, true_or, or_true, Nat.sub_zero, and_assoc, b10, not_true_eq_false, not_false_eq_true, false_implies, true_implies, implies_true, eq_self, and_self, rf_some, rf_none]
  exact hN _ _ _ _ _ _ _ _ _ _ _ _ hG2 hO (by unfold bc; omega) (by unfold bs; omega)
set_option maxRecDepth 100000 in
theorem t_pair (hf : 7 ≤ f) (hw : 164 ≤ w) (hG : GX S S n h AD len sg X A og C) (hO : OK S) (hk : k + 4 ≤ len) (hlen : len ≤ 2048) (hc : bc k S ≤ rc) (hs : bs k S ≤ rs) (hN : NX f w Z Q len sg k) : mj_W f w 89 (mj_Zl Z) Q 644 (LSt AD k v5 v6) [] h n rc rs := by
  obtain ⟨fs5, h5⟩ := hG.os
  have hsc := hG.sc
  unfold bc at hc
  unfold bs at hs
  have e1 : nI k + 1 = nI (k + 1) := by rw [show (1 : Int32) = nI 1 from rfl, nI_add]
  have c1 := nI_cl (show k + 1 < 2147483648 by omega)
  have v1_ : vp_in (nI (k + 1)) len := vp_in_nI (by omega) (by omega)
  have e2 : nI k + 2 = nI (k + 2) := by rw [show (2 : Int32) = nI 2 from rfl, nI_add]
  have c2 := nI_cl (show k + 2 < 2147483648 by omega)
  have v2_ : vp_in (nI (k + 2)) len := vp_in_nI (by omega) (by omega)
  have e3 : nI k + 3 = nI (k + 3) := by rw [show (3 : Int32) = nI 3 from rfl, nI_add]
  have c3 := nI_cl (show k + 3 < 2147483648 by omega)
  have v3_ : vp_in (nI (k + 3)) len := vp_in_nI (by omega) (by omega)
  simp only [sL_law_644, sL_law_645, sL_law_646, sL_law_648, sL_law_649, sL_law_650, sL_law_651, sL_law_652, sL_law_654, sL_law_655, sL_law_656, sL_law_657, sL_law_658, sL_law_660, sL_law_661, sL_law_662, hsc, Option.some.injEq, Sum.inr.injEq, Sum.inl.injEq, Prod.mk.injEq, true_and, and_true, exists_eq_left', exists_eq_left, exists_eq_right, exists_eq_right', exists_and_left, exists_and_right, List.getElem?_cons_succ, List.getElem?_cons_zero, List.length_cons, List.length_nil, List.set_cons_zero, List.set_cons_succ, Option.toList_some, Option.toList_none, List.nil_append, List.cons_append, mj_up_s, true_or, or_true, Nat.sub_zero, and_assoc, b10, not_true_eq_false, not_false_eq_true, false_implies, true_implies, implies_true, eq_self, and_self, rf_some, rf_none, e1, c1, e2, c2, e3, c3]
  refine And.intro v1_ (And.intro v2_ (And.intro v3_ ?_))
  refine sL_law_663z h5 rfl (m_pair (by omega) (by omega) hG.mem hG.cc hO.1 ?_)
  simp only [sL_law_666, sL_law_667, sL_law_668, sL_law_670, sL_law_671, sL_law_672, sL_law_673, sL_law_674, sL_law_676, sL_law_677, sL_law_678, sL_law_679, sL_law_680, sL_law_682, sL_law_683, sL_law_684, hsc, Option.some.injEq, Sum.inr.injEq, Sum.inl.injEq, Prod.mk.injEq, true_and, and_true, exists_eq_left', exists_eq_left, exists_eq_right, exists_eq_right', exists_and_left, exists_and_right, List.getElem?_cons_succ, List.getElem?_cons_zero, List.length_cons, List.length_nil, List.set_cons_zero, List.set_cons_succ, Option.toList_some, Option.toList_none, List.nil_append, List.cons_append, mj_up_s, true_or, or_true, Nat.sub_zero, and_assoc, b10, not_true_eq_false, not_false_eq_true, false_implies, true_implies, implies_true, eq_self, and_self, rf_some, rf_none, e1, c1, e2, c2, e3, c3]
  refine And.intro v1_ (And.intro v2_ (And.intro v3_ ?_))
  refine sL_law_685z hG.rf rfl (r_pair (by omega) (by omega) hG.mhf hG.cm hO.1 (fun h2 hK2 => ?_))
  obtain ⟨X2, A2, C2, hG2, -⟩ := hG.ref hK2
  simp only [sL_law_688, Option.some.injEq, Sum.inr.injEq, Sum.inl.injEq, Prod.mk.injEq, true_and, and_true, exists_eq_left', exists_eq_left, exists_eq_right, exists_eq_right', exists_and_left, exists_and_right, List.getElem?_cons_succ, List.getElem?_cons_zero, List.length_cons, List.length_nil, List.set_cons_zero, List.set_cons_succ, Option.toList_some, Option.toList_none, List.nil_append, List.cons_append, mj_up_s, true_or, or_true, Nat.sub_zero, and_assoc, b10, not_true_eq_false, not_false_eq_true, false_implies, true_implies, implies_true, eq_self, and_self, rf_some, rf_none]
  exact hN _ _ _ _ _ _ _ _ _ _ _ _ hG2 hO (by unfold bc; omega) (by unfold bs; omega)
set_option maxRecDepth 100000 in
theorem t_find (hf : 7 ≤ f) (hw : 164 ≤ w) (hG : GX S S n h AD len sg X A og C) (hO : OK S) (hk : k + 4 ≤ len) (hlen : len ≤ 2048) (hc : bc k S ≤ rc) (hs : bs k S ≤ rs) (hN : NX f w Z Q len sg k) : mj_W f w 89 (mj_Zl Z) Q 693 (LSt AD k v5 v6) [] h n rc rs := by
  obtain ⟨fs5, h5⟩ := hG.os
  have hsc := hG.sc
  unfold bc at hc
  unfold bs at hs
  have e1 : nI k + 1 = nI (k + 1) := by rw [show (1 : Int32) = nI 1 from rfl, nI_add]
  have c1 := nI_cl (show k + 1 < 2147483648 by omega)
  have v1_ : vp_in (nI (k + 1)) len := vp_in_nI (by omega) (by omega)
  have e2 : nI k + 2 = nI (k + 2) := by rw [show (2 : Int32) = nI 2 from rfl, nI_add]
  have c2 := nI_cl (show k + 2 < 2147483648 by omega)
  have v2_ : vp_in (nI (k + 2)) len := vp_in_nI (by omega) (by omega)
  simp only [sL_law_693, sL_law_694, sL_law_695, sL_law_697, sL_law_698, sL_law_699, sL_law_700, sL_law_701, sL_law_703, sL_law_704, sL_law_705, hsc, Option.some.injEq, Sum.inr.injEq, Sum.inl.injEq, Prod.mk.injEq, true_and, and_true, exists_eq_left', exists_eq_left, exists_eq_right, exists_eq_right', exists_and_left, exists_and_right, List.getElem?_cons_succ, List.getElem?_cons_zero, List.length_cons, List.length_nil, List.set_cons_zero, List.set_cons_succ, Option.toList_some, Option.toList_none, List.nil_append, List.cons_append, mj_up_s, true_or, or_true, Nat.sub_zero, and_assoc, b10, not_true_eq_false, not_false_eq_true, false_implies, true_implies, implies_true, eq_self, and_self, rf_some, rf_none, e1, c1, e2, c2]
  refine And.intro v1_ (And.intro v2_ ?_)
  refine sL_law_706z h5 rfl (m_find (by omega) (by omega) hG.mem hG.cc hO.1 ?_)
  simp only [sL_law_709, sL_law_710, sL_law_711, sL_law_713, sL_law_714, sL_law_715, sL_law_716, sL_law_717, sL_law_719, sL_law_720, sL_law_721, hsc, Option.some.injEq, Sum.inr.injEq, Sum.inl.injEq, Prod.mk.injEq, true_and, and_true, exists_eq_left', exists_eq_left, exists_eq_right, exists_eq_right', exists_and_left, exists_and_right, List.getElem?_cons_succ, List.getElem?_cons_zero, List.length_cons, List.length_nil, List.set_cons_zero, List.set_cons_succ, Option.toList_some, Option.toList_none, List.nil_append, List.cons_append, mj_up_s, true_or, or_true, Nat.sub_zero, and_assoc, b10, not_true_eq_false, not_false_eq_true, false_implies, true_implies, implies_true, eq_self, and_self, rf_some, rf_none, e1, c1, e2, c2]
  refine And.intro v1_ (And.intro v2_ ?_)
  refine sL_law_722z hG.rf rfl (r_find (by omega) (by omega) hG.mhf hG.cm hO.1 hO.2 (fun h2 hK2 => ?_))
  obtain ⟨X2, A2, C2, hG2, -⟩ := hG.ref hK2
  simp only [sL_law_725, Option.some.injEq, Sum.inr.injEq, Sum.inl.injEq, Prod.mk.injEq, true_and, and_true, exists_eq_left', exists_eq_left, exists_eq_right, exists_eq_right', exists_and_left, exists_and_right, List.getElem?_cons_succ, List.getElem?_cons_zero, List.length_cons, List.length_nil, List.set_cons_zero, List.set_cons_succ, Option.toList_some, Option.toList_none, List.nil_append, List.cons_append, mj_up_s, true_or, or_true, Nat.sub_zero, and_assoc, b10, not_true_eq_false, not_false_eq_true, false_implies, true_implies, implies_true, eq_self, and_self, rf_some, rf_none]
  exact hN _ _ _ _ _ _ _ _ _ _ _ _ hG2 hO (by unfold bc; omega) (by unfold bs; omega)
set_option maxRecDepth 100000 in
theorem t_count (hf : 7 ≤ f) (hw : 164 ≤ w) (hG : GX S S n h AD len sg X A og C) (hO : OK S) (hk : k + 4 ≤ len) (hlen : len ≤ 2048) (hc : bc k S ≤ rc) (hs : bs k S ≤ rs) (hN : NX f w Z Q len sg k) : mj_W f w 89 (mj_Zl Z) Q 730 (LSt AD k v5 v6) [] h n rc rs := by
  obtain ⟨fs5, h5⟩ := hG.os
  have hsc := hG.sc
  unfold bc at hc
  unfold bs at hs
  have e1 : nI k + 1 = nI (k + 1) := by rw [show (1 : Int32) = nI 1 from rfl, nI_add]
  have c1 := nI_cl (show k + 1 < 2147483648 by omega)
  have v1_ : vp_in (nI (k + 1)) len := vp_in_nI (by omega) (by omega)
  simp only [sL_law_730, sL_law_731, sL_law_732, sL_law_734, sL_law_735, sL_law_736, hsc, Option.some.injEq, Sum.inr.injEq, Sum.inl.injEq, Prod.mk.injEq, true_and, and_true, exists_eq_left', exists_eq_left, exists_eq_right, exists_eq_right', exists_and_left, exists_and_right, List.getElem?_cons_succ, List.getElem?_cons_zero, List.length_cons, List.length_nil, List.set_cons_zero, List.set_cons_succ, Option.toList_some, Option.toList_none, List.nil_append, List.cons_append, mj_up_s, true_or, or_true, Nat.sub_zero, and_assoc, b10, not_true_eq_false, not_false_eq_true, false_implies, true_implies, implies_true, eq_self, and_self, rf_some, rf_none, e1, c1]
  refine And.intro v1_ ?_
  refine sL_law_737z h5 rfl (m_count (by omega) (by omega) hG.mem hG.cc hO.1 ?_)
  simp only [sL_law_740, sL_law_741, sL_law_742, sL_law_744, sL_law_745, sL_law_746, hsc, Option.some.injEq, Sum.inr.injEq, Sum.inl.injEq, Prod.mk.injEq, true_and, and_true, exists_eq_left', exists_eq_left, exists_eq_right, exists_eq_right', exists_and_left, exists_and_right, List.getElem?_cons_succ, List.getElem?_cons_zero, List.length_cons, List.length_nil, List.set_cons_zero, List.set_cons_succ, Option.toList_some, Option.toList_none, List.nil_append, List.cons_append, mj_up_s, true_or, or_true, Nat.sub_zero, and_assoc, b10, not_true_eq_false, not_false_eq_true, false_implies, true_implies, implies_true, eq_self, and_self, rf_some, rf_none, e1, c1]
  refine And.intro v1_ ?_
  refine sL_law_747z hG.rf rfl (r_count (by omega) (by omega) hG.mhf hG.cm hO.1 (fun h2 hK2 => ?_))
  obtain ⟨X2, A2, C2, hG2, -⟩ := hG.ref hK2
  simp only [sL_law_750, Option.some.injEq, Sum.inr.injEq, Sum.inl.injEq, Prod.mk.injEq, true_and, and_true, exists_eq_left', exists_eq_left, exists_eq_right, exists_eq_right', exists_and_left, exists_and_right, List.getElem?_cons_succ, List.getElem?_cons_zero, List.length_cons, List.length_nil, List.set_cons_zero, List.set_cons_succ, Option.toList_some, Option.toList_none, List.nil_append, List.cons_append, mj_up_s, true_or, or_true, Nat.sub_zero, and_assoc, b10, not_true_eq_false, not_false_eq_true, false_implies, true_implies, implies_true, eq_self, and_self, rf_some, rf_none]
  exact hN _ _ _ _ _ _ _ _ _ _ _ _ hG2 hO (by unfold bc; omega) (by unfold bs; omega)
end
