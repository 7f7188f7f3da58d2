/-! ===== at and octet, where there is no such byte: as far as what they throw ===== -/
section
variable {f w : Nat} {Z : mj_K} {Q : mj_Q} {h : mj_H} {n mc ms : Nat} {S : St} {AD : Ad} {C : Ct}
set_option maxRecDepth 100000 in
theorem n_at (hf : 5 ≤ f) (hw : 113 ≤ w) (hM : MEM h n AD (VS S) C) (hC : CC S AD C) (hW : WF S) {o i : Int32} (ho : op_at S o i = none) (hZ : ∀ v3, Z 22 [.ref (AD 5 0), .int o, .int i, v3] [] h n mc ms) : mj_W f w 26 (mj_Zl Z) Q 0 [.ref (AD 5 0), .int o, .int i, .retAddr 0] [] h n mc ms := by
  obtain ⟨plc, hO⟩ := hC.os hM
  simp only [zX2_at_0, zX2_at_1, Option.some.injEq, Sum.inr.injEq, Sum.inl.injEq, Prod.mk.injEq, true_and, and_true, exists_eq_left', exists_eq_left, exists_eq_right, exists_eq_right', exists_and_left, exists_and_right, List.getElem?_cons_succ, List.getElem?_cons_zero, List.length_cons, List.length_nil, List.set_cons_zero, List.set_cons_succ, Option.toList_some, Option.toList_none, List.nil_append, List.cons_append, mj_up_s, true_or, or_true, Nat.sub_zero, and_assoc, b10, not_true_eq_false, not_false_eq_true, false_implies, true_implies, implies_true, eq_self, and_self, rf_some, rf_none]
  refine zX2_at_2z hO rfl (m_itemOf (by omega) (by omega) hM hC hW ?_)
  unfold op_at at ho
  by_cases hc : obI S o = true
  · rw [if_pos hc]
    obtain ⟨j, rfl, j1, j2⟩ := cl_iff.mp hc
    rw [nI_cl j1] at ho ⊢
    obtain ⟨wt, hx⟩ := hC.it hM j2
    simp only [zX2_at_5, zX2_at_6, zX2_at_7, zX2_at_10, zX2_at_11, Option.some.injEq, Sum.inr.injEq, Sum.inl.injEq, Prod.mk.injEq, true_and, and_true, exists_eq_left', exists_eq_left, exists_eq_right, exists_eq_right', exists_and_left, exists_and_right, List.getElem?_cons_succ, List.getElem?_cons_zero, List.length_cons, List.length_nil, List.set_cons_zero, List.set_cons_succ, Option.toList_some, Option.toList_none, List.nil_append, List.cons_append, mj_up_s, true_or, or_true, Nat.sub_zero, and_assoc, b10, not_true_eq_false, not_false_eq_true, false_implies, true_implies, implies_true, eq_self, and_self, rf_some, rf_none]
    refine And.intro (fun _ => mj_cut rfl (hZ _)) (fun c => ?_)
    simp only [zX2_at_14, zX2_at_15]
    refine zX2_at_16z hx rfl (m_length (by omega) (by omega) hM hC hW j2 ?_)
    simp only [zX2_at_19, Option.some.injEq, Sum.inr.injEq, Sum.inl.injEq, Prod.mk.injEq, true_and, and_true, exists_eq_left', exists_eq_left, exists_eq_right, exists_eq_right', exists_and_left, exists_and_right, List.getElem?_cons_succ, List.getElem?_cons_zero, List.length_cons, List.length_nil, List.set_cons_zero, List.set_cons_succ, Option.toList_some, Option.toList_none, List.nil_append, List.cons_append, mj_up_s, true_or, or_true, Nat.sub_zero, and_assoc, b10, not_true_eq_false, not_false_eq_true, false_implies, true_implies, implies_true, eq_self, and_self, rf_some, rf_none]
    refine And.intro (fun c2 => ?_) (fun _ => mj_cut rfl (hZ _))
    exfalso
    rw [if_pos ⟨hc, by clear hM hC hO hx ho hZ; (simp only [Int32.le_iff_toInt_le, Int32.lt_iff_toInt_lt, i32_eq, i32_0, i32_m1, i32_600, i32_60, i32_20, i32_99, i32_10, i32_1, i32_2] at *; omega), c2⟩] at ho
    cases ho
  · rw [if_neg hc]
    simp only [zX2_at_5n, zX2_at_6n, zX2_at_7n, Option.some.injEq, Sum.inr.injEq, Sum.inl.injEq, Prod.mk.injEq, true_and, and_true, exists_eq_left', exists_eq_left, exists_eq_right, exists_eq_right', exists_and_left, exists_and_right, List.getElem?_cons_succ, List.getElem?_cons_zero, List.length_cons, List.length_nil, List.set_cons_zero, List.set_cons_succ, Option.toList_some, Option.toList_none, List.nil_append, List.cons_append, mj_up_s, true_or, or_true, Nat.sub_zero, and_assoc, b10, not_true_eq_false, not_false_eq_true, false_implies, true_implies, implies_true, eq_self, and_self, rf_some, rf_none]
    exact mj_cut rfl (hZ _)
set_option maxRecDepth 100000 in
theorem n_octet (hf : 5 ≤ f) (hw : 113 ≤ w) (hM : MEM h n AD (VS S) C) (hC : CC S AD C) (hW : WF S) {p i : Int32} (ho : op_oct S p i = none) (hZ : ∀ v3, Z 18 [.ref (AD 5 0), .int p, .int i, v3] [] h n mc ms) : mj_W f w 30 (mj_Zl Z) Q 0 [.ref (AD 5 0), .int p, .int i, .retAddr 0] [] h n mc ms := by
  obtain ⟨plc, hO⟩ := hC.os hM
  simp only [zX2_octet_0, zX2_octet_1, Option.some.injEq, Sum.inr.injEq, Sum.inl.injEq, Prod.mk.injEq, true_and, and_true, exists_eq_left', exists_eq_left, exists_eq_right, exists_eq_right', exists_and_left, exists_and_right, List.getElem?_cons_succ, List.getElem?_cons_zero, List.length_cons, List.length_nil, List.set_cons_zero, List.set_cons_succ, Option.toList_some, Option.toList_none, List.nil_append, List.cons_append, mj_up_s, true_or, or_true, Nat.sub_zero, and_assoc, b10, not_true_eq_false, not_false_eq_true, false_implies, true_implies, implies_true, eq_self, and_self, rf_some, rf_none]
  refine zX2_octet_2z hO rfl (m_packOf (by omega) (by omega) hM hC hW ?_)
  unfold op_oct at ho
  by_cases hc : pkI S p = true
  · rw [if_pos hc]
    obtain ⟨j, rfl, j1, j2⟩ := cl_iff.mp hc
    rw [nI_cl j1] at ho ⊢
    have hP := hC.pk hM hW j2
    have hP1 := hC.pkc hM j2
    simp only [zX2_octet_5, zX2_octet_6, zX2_octet_7, zX2_octet_10, zX2_octet_11, Option.some.injEq, Sum.inr.injEq, Sum.inl.injEq, Prod.mk.injEq, true_and, and_true, exists_eq_left', exists_eq_left, exists_eq_right, exists_eq_right', exists_and_left, exists_and_right, List.getElem?_cons_succ, List.getElem?_cons_zero, List.length_cons, List.length_nil, List.set_cons_zero, List.set_cons_succ, Option.toList_some, Option.toList_none, List.nil_append, List.cons_append, mj_up_s, true_or, or_true, Nat.sub_zero, and_assoc, b10, not_true_eq_false, not_false_eq_true, false_implies, true_implies, implies_true, eq_self, and_self, rf_some, rf_none]
    refine zX2_octet_12z hP1 rfl (c_holds (by omega) (by omega) hP ?_)
    rw [if_neg (fun z => by rw [if_pos ⟨hc, z.1, z.2⟩] at ho; cases ho)]
    simp only [zX2_octet_15, Option.some.injEq, Sum.inr.injEq, Sum.inl.injEq, Prod.mk.injEq, true_and, and_true, exists_eq_left', exists_eq_left, exists_eq_right, exists_eq_right', exists_and_left, exists_and_right, List.getElem?_cons_succ, List.getElem?_cons_zero, List.length_cons, List.length_nil, List.set_cons_zero, List.set_cons_succ, Option.toList_some, Option.toList_none, List.nil_append, List.cons_append, mj_up_s, true_or, or_true, Nat.sub_zero, and_assoc, b10, not_true_eq_false, not_false_eq_true, false_implies, true_implies, implies_true, eq_self, and_self, rf_some, rf_none]
    exact mj_cut rfl (hZ _)
  · rw [if_neg hc]
    simp only [zX2_octet_5n, zX2_octet_6n, zX2_octet_7n, Option.some.injEq, Sum.inr.injEq, Sum.inl.injEq, Prod.mk.injEq, true_and, and_true, exists_eq_left', exists_eq_left, exists_eq_right, exists_eq_right', exists_and_left, exists_and_right, List.getElem?_cons_succ, List.getElem?_cons_zero, List.length_cons, List.length_nil, List.set_cons_zero, List.set_cons_succ, Option.toList_some, Option.toList_none, List.nil_append, List.cons_append, mj_up_s, true_or, or_true, Nat.sub_zero, and_assoc, b10, not_true_eq_false, not_false_eq_true, false_implies, true_implies, implies_true, eq_self, and_self, rf_some, rf_none]
    exact mj_cut rfl (hZ _)
end
