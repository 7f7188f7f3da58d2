/-! ===== Pack: what only reads ===== -/
section
variable {f w : Nat} {Q : mj_Q} {h : mj_H} {n mc ms a p : Nat} {S : St}
set_option maxRecDepth 100000 in
theorem c_holds (hf : 1 ≤ f) (hw : 21 ≤ w) (hP : PK h a p S) {i : Int32} (hQ : Q (some (.int (if 0 ≤ i ∧ i < nI (S_pz S p) then 1 else 0))) h n) : mj_bk f w 12 [.ref a, .int i] h n mc ms Q := by
  obtain ⟨q, g, b, ha, hq, hg, hok⟩ := hP
  have hz := nI_tI (n := S_pz S p) (by have := hok.2.2.1; omega)
  have hz2 := hok.2.2.1
  refine mj_begin hf (by decide) hw rfl ?_
  show mj_W _ _ 12 mj_noZ Q 0 [.ref a, .int i] [] h n mc ms
  simp only [sX1_holds_0, sX1_holds_1, sX1_holds_4, sX1_holds_5, sX1_holds_6, sX1_holds_9, sX1_holds_12, sX1_holds_13, sX1_holds_16, sX1_holds_19, sX1_holds_20, sX1_holds_23, sX1_holds_24, ha, Option.some.injEq, Sum.inr.injEq, Sum.inl.injEq, Prod.mk.injEq, true_and, and_true, exists_eq_left', exists_eq_left, exists_eq_right, exists_eq_right', exists_and_left, exists_and_right, List.getElem?_cons_succ, List.getElem?_cons_zero, List.length_cons, List.length_nil, List.set_cons_zero, List.set_cons_succ, Option.toList_some, Option.toList_none, List.nil_append, List.cons_append, mj_up_s, true_or, or_true, Nat.sub_zero, and_assoc, b10, not_true_eq_false, not_false_eq_true, false_implies, true_implies, implies_true, eq_self, and_self, rf_some, rf_none, nar_b0, nar_b1]
  clear ha hq hg hok
  by_cases hc : 0 ≤ i ∧ i < nI (S_pz S p)
  · rw [if_pos hc] at hQ
    repeat' refine And.intro (fun _ => ?_) (fun _ => ?_)
    all_goals first | exact hQ | (exfalso; (simp only [Int32.le_iff_toInt_le, Int32.lt_iff_toInt_lt, i32_eq, i32_0, i32_m1, i32_600, i32_60, i32_20, i32_99, i32_10, i32_1, i32_2] at *; omega))
  · rw [if_neg hc] at hQ
    repeat' refine And.intro (fun _ => ?_) (fun _ => ?_)
    all_goals first | exact hQ | (exfalso; (simp only [Int32.le_iff_toInt_le, Int32.lt_iff_toInt_lt, i32_eq, i32_0, i32_m1, i32_600, i32_60, i32_20, i32_99, i32_10, i32_1, i32_2] at *; omega))
set_option maxRecDepth 100000 in
theorem c_isThere (hf : 1 ≤ f) (hw : 22 ≤ w) (hP : PK h a p S) {k : Int32} (hQ : Q (some (.int (if S_thI S p k = true then 1 else 0))) h n) : mj_bk f w 14 [.ref a, .int k] h n mc ms Q := by
  obtain ⟨q, g, b, ha, hq, hg, hok⟩ := hP
  obtain ⟨k1, k2, k3, k4⟩ := hok
  refine mj_begin hf (by decide) hw rfl ?_
  show mj_W _ _ 14 mj_noZ Q 0 [.ref a, .int k, .retAddr 0] [] h n mc ms
  simp only [sX1_isThere_0, sX1_isThere_1, sX1_isThere_4, sX1_isThere_5, sX1_isThere_6, sX1_isThere_9, sX1_isThere_12, sX1_isThere_13, sX1_isThere_14, sX1_isThere_15, sX1_isThere_16, sX1_isThere_17, sX1_isThere_18, sX1_isThere_19, sX1_isThere_20, sX1_isThere_21, sX1_isThere_22, sX1_isThere_25, sX1_isThere_28, sX1_isThere_29, sX1_isThere_30, sX1_isThere_33, sX1_isThere_36, sX1_isThere_37, sX1_isThere_40, sX1_isThere_41, ha, Option.some.injEq, Sum.inr.injEq, Sum.inl.injEq, Prod.mk.injEq, true_and, and_true, exists_eq_left', exists_eq_left, exists_eq_right, exists_eq_right', exists_and_left, exists_and_right, List.getElem?_cons_succ, List.getElem?_cons_zero, List.length_cons, List.length_nil, List.set_cons_zero, List.set_cons_succ, Option.toList_some, Option.toList_none, List.nil_append, List.cons_append, mj_up_s, true_or, or_true, Nat.sub_zero, and_assoc, b10, not_true_eq_false, not_false_eq_true, false_implies, true_implies, implies_true, eq_self, and_self, rf_some, rf_none, nar_b0, nar_b1]
  clear ha hq hg
  have z1 := nI_tI (n := S_ct S p) (by omega)
  have z2 := nI_tI (n := S_pz S p) (by omega)
  have z3 := nI_tI (n := S_fs S p) (by omega)
  by_cases hr : 0 ≤ k.toInt ∧ k.toInt < S_ct S p
  · obtain ⟨j, j1, rfl, j3⟩ := i32_of hr.1
    have e : (4 : Int32) * nI j + 4 = nI (4 * j + 4) := by rw [show (4 : Int32) = nI 4 from rfl, pk_mul, nI_add]
    have z4 := nI_tI (n := 4 * j + 4) (by omega)
    rw [e]
    by_cases hc : S_thI S p (nI j) = true
    · rw [if_pos hc] at hQ
      simp only [S_thI, Bool.and_eq_true, S_th_iff, nI_cl j1] at hc
      repeat' refine And.intro (fun _ => ?_) (fun _ => ?_)
      all_goals first | exact hQ | (exfalso; (simp only [Int32.le_iff_toInt_le, Int32.lt_iff_toInt_lt, i32_eq, i32_0, i32_m1, i32_600, i32_60, i32_20, i32_99, i32_10, i32_1, i32_2] at *; omega))
    · rw [if_neg hc] at hQ
      simp only [S_thI, Bool.and_eq_true, S_th_iff, nI_cl j1, decide_eq_true_eq] at hc
      repeat' refine And.intro (fun _ => ?_) (fun _ => ?_)
      all_goals first | exact hQ | (exfalso; (simp only [Int32.le_iff_toInt_le, Int32.lt_iff_toInt_lt, i32_eq, i32_0, i32_m1, i32_600, i32_60, i32_20, i32_99, i32_10, i32_1, i32_2] at *; omega))
  · have hc : ¬ S_thI S p k = true := by
      intro hc
      simp only [S_thI, Bool.and_eq_true, S_th_iff, decide_eq_true_eq] at hc
      have := i32_cl (x := k) (by (simp only [Int32.le_iff_toInt_le, Int32.lt_iff_toInt_lt, i32_eq, i32_0, i32_m1, i32_600, i32_60, i32_20, i32_99, i32_10, i32_1, i32_2] at *; omega))
      (simp only [Int32.le_iff_toInt_le, Int32.lt_iff_toInt_lt, i32_eq, i32_0, i32_m1, i32_600, i32_60, i32_20, i32_99, i32_10, i32_1, i32_2] at *; omega)
    rw [if_neg hc] at hQ
    clear hc
    repeat' refine And.intro (fun _ => ?_) (fun _ => ?_)
    all_goals first | exact hQ | (exfalso; (simp only [Int32.le_iff_toInt_le, Int32.lt_iff_toInt_lt, i32_eq, i32_0, i32_m1, i32_600, i32_60, i32_20, i32_99, i32_10, i32_1, i32_2] at *; omega))
theorem S_thI_n {S : St} {p j : Nat} (hj : j < 2147483648) : S_thI S p (nI j) = S_th S p j := by
  have : decide (0 ≤ nI j) = true := decide_eq_true (nI_pos' hj)
  simp only [S_thI, this, Bool.true_and, nI_cl hj]
theorem S_thI_iff {S : St} {p : Nat} {k : Int32} : S_thI S p k = true ↔ ∃ j : Nat, k = nI j ∧ j < 2147483648 ∧ S_th S p j = true := by
  constructor
  · intro h
    simp only [S_thI, Bool.and_eq_true, decide_eq_true_eq] at h
    obtain ⟨j, j1, rfl, -⟩ := i32_of (x := k) (by have := h.1; simpa only [Int32.le_iff_toInt_le, i32_0] using this)
    rw [nI_cl j1] at h
    exact ⟨j, rfl, j1, h.2⟩
  · rintro ⟨j, rfl, h1, h2⟩
    rw [S_thI_n h1]; exact h2
theorem hold_n {j z : Nat} (hj : j < 2147483648) (hz : z < 2147483648) : (0 ≤ nI j ∧ nI j < nI z) ↔ j < z := by
  have h1 := nI_tI hj
  have h2 := nI_tI hz
  constructor
  · intro h; (simp only [Int32.le_iff_toInt_le, Int32.lt_iff_toInt_lt, i32_eq, i32_0, i32_m1, i32_600, i32_60, i32_20, i32_99, i32_10, i32_1, i32_2] at *; omega)
  · intro h; constructor <;> (simp only [Int32.le_iff_toInt_le, Int32.lt_iff_toInt_lt, i32_eq, i32_0, i32_m1, i32_600, i32_60, i32_20, i32_99, i32_10, i32_1, i32_2] at *; omega)
set_option maxRecDepth 100000 in
theorem c_byteAt (hf : 2 ≤ f) (hw : 42 ≤ w) (hP : PK h a p S) {j : Nat} (hj : j < 2147483648) (hQ : Q (some (.int (if j < S_pz S p then bS (S_pb S p j) else 0))) h n) : mj_bk f w 13 [.ref a, .int (nI j)] h n mc ms Q := by
  obtain ⟨q, g, b, ha, hq, hg, hok⟩ := id hP
  have hz2 := hok.2.2.1
  refine mj_begin (by omega) (by decide) (by show 21 ≤ w; omega) rfl ?_
  show mj_W _ _ 13 mj_noZ Q 0 [.ref a, .int (nI j)] [] h n mc ms
  simp only [sX1_byteAt_0, sX1_byteAt_1, sX1_byteAt_5, sX1_byteAt_8, sX1_byteAt_9, sX1_byteAt_12, sX1_byteAt_13, sX1_byteAt_14, sX1_byteAt_17, sX1_byteAt_18, ha, Option.some.injEq, Sum.inr.injEq, Sum.inl.injEq, Prod.mk.injEq, true_and, and_true, exists_eq_left', exists_eq_left, exists_eq_right, exists_eq_right', exists_and_left, exists_and_right, List.getElem?_cons_succ, List.getElem?_cons_zero, List.length_cons, List.length_nil, List.set_cons_zero, List.set_cons_succ, Option.toList_some, Option.toList_none, List.nil_append, List.cons_append, mj_up_s, true_or, or_true, Nat.sub_zero, and_assoc, b10, not_true_eq_false, not_false_eq_true, false_implies, true_implies, implies_true, eq_self, and_self, rf_some, rf_none]
  refine sX1_byteAt_2z ha rfl (c_holds (by omega) (by show 21 ≤ w - 21; omega) hP ?_)
  simp only [hold_n hj (show S_pz S p < 2147483648 by omega)]
  by_cases hc : j < S_pz S p
  · rw [if_pos hc] at hQ ⊢
    have hg1 := hg j hc
    simp only [sX1_byteAt_0, sX1_byteAt_1, sX1_byteAt_5, sX1_byteAt_8, sX1_byteAt_9, sX1_byteAt_12, sX1_byteAt_13, sX1_byteAt_14, sX1_byteAt_17, sX1_byteAt_18, ha, hq, Option.some.injEq, Sum.inr.injEq, Sum.inl.injEq, Prod.mk.injEq, true_and, and_true, exists_eq_left', exists_eq_left, exists_eq_right, exists_eq_right', exists_and_left, exists_and_right, List.getElem?_cons_succ, List.getElem?_cons_zero, List.length_cons, List.length_nil, List.set_cons_zero, List.set_cons_succ, Option.toList_some, Option.toList_none, List.nil_append, List.cons_append, mj_up_s, true_or, or_true, Nat.sub_zero, and_assoc, b10, not_true_eq_false, not_false_eq_true, false_implies, true_implies, implies_true, eq_self, and_self, rf_some, rf_none, nI_cl hj, hg1, bS_narrow]
    exact And.intro (vp_in_nI (by omega) (by decide)) hQ
  · rw [if_neg hc] at hQ ⊢
    simp only [sX1_byteAt_0, sX1_byteAt_1, sX1_byteAt_5, sX1_byteAt_8, sX1_byteAt_9, sX1_byteAt_12, sX1_byteAt_13, sX1_byteAt_14, sX1_byteAt_17, sX1_byteAt_18, Option.some.injEq, Sum.inr.injEq, Sum.inl.injEq, Prod.mk.injEq, true_and, and_true, exists_eq_left', exists_eq_left, exists_eq_right, exists_eq_right', exists_and_left, exists_and_right, List.getElem?_cons_succ, List.getElem?_cons_zero, List.length_cons, List.length_nil, List.set_cons_zero, List.set_cons_succ, Option.toList_some, Option.toList_none, List.nil_append, List.cons_append, mj_up_s, true_or, or_true, Nat.sub_zero, and_assoc, b10, not_true_eq_false, not_false_eq_true, false_implies, true_implies, implies_true, eq_self, and_self, rf_some, rf_none, nar_y0]
    exact hQ
set_option maxRecDepth 100000 in
theorem c_numberOf (hf : 2 ≤ f) (hw : 45 ≤ w) (hP : PK h a p S) {k : Int32} {wh : Nat} (hwh : wh ≤ 1) (hQ : Q (some (.int (if S_thI S p k = true then nI (S_num S p k.toNatClampNeg wh) else -1))) h n) : mj_bk f w 15 [.ref a, .int k, .int (nI wh)] h n mc ms Q := by
  obtain ⟨q, g, b, ha, hq, hg, hok⟩ := id hP
  obtain ⟨k1, k2, k3, k4⟩ := hok
  refine mj_begin (by omega) (by decide) (by show 23 ≤ w; omega) rfl ?_
  show mj_W _ _ 15 mj_noZ Q 0 [.ref a, .int k, .int (nI wh), .retAddr 0] [] h n mc ms
  simp only [sX1_numberOf_0, sX1_numberOf_1, sX1_numberOf_5, sX1_numberOf_8, sX1_numberOf_9, sX1_numberOf_12, sX1_numberOf_13, sX1_numberOf_14, sX1_numberOf_17, sX1_numberOf_18, sX1_numberOf_19, sX1_numberOf_20, sX1_numberOf_21, sX1_numberOf_22, sX1_numberOf_23, sX1_numberOf_24, sX1_numberOf_25, sX1_numberOf_26, sX1_numberOf_27, sX1_numberOf_28, sX1_numberOf_31, sX1_numberOf_32, sX1_numberOf_33, sX1_numberOf_36, sX1_numberOf_37, sX1_numberOf_39, sX1_numberOf_40, sX1_numberOf_41, sX1_numberOf_44, sX1_numberOf_45, sX1_numberOf_46, sX1_numberOf_47, sX1_numberOf_48, sX1_numberOf_51, sX1_numberOf_52, sX1_numberOf_53, Option.some.injEq, Sum.inr.injEq, Sum.inl.injEq, Prod.mk.injEq, true_and, and_true, exists_eq_left', exists_eq_left, exists_eq_right, exists_eq_right', exists_and_left, exists_and_right, List.getElem?_cons_succ, List.getElem?_cons_zero, List.length_cons, List.length_nil, List.set_cons_zero, List.set_cons_succ, Option.toList_some, Option.toList_none, List.nil_append, List.cons_append, mj_up_s, true_or, or_true, Nat.sub_zero, and_assoc, b10, not_true_eq_false, not_false_eq_true, false_implies, true_implies, implies_true, eq_self, and_self, rf_some, rf_none]
  refine sX1_numberOf_2z ha rfl (c_isThere (by omega) (by show 22 ≤ w - 23; omega) hP ?_)
  by_cases hc : S_thI S p k = true
  · rw [if_pos hc] at hQ ⊢
    obtain ⟨j, rfl, j1, j2⟩ := S_thI_iff.mp hc
    rw [nI_cl j1] at hQ
    obtain ⟨j3, j4, j5⟩ := S_th_iff.mp j2
    have e : (4 : Int32) * nI j + 2 * nI wh = nI (4 * j + 2 * wh) := by rw [show (4 : Int32) = nI 4 from rfl, show (2 : Int32) = nI 2 from rfl, pk_mul, pk_mul, nI_add]
    have e2 : nI (4 * j + 2 * wh) + 1 = nI (4 * j + 2 * wh + 1) := nI_1 _
    simp only [sX1_numberOf_0, sX1_numberOf_1, sX1_numberOf_5, sX1_numberOf_8, sX1_numberOf_9, sX1_numberOf_12, sX1_numberOf_13, sX1_numberOf_14, sX1_numberOf_17, sX1_numberOf_18, sX1_numberOf_19, sX1_numberOf_20, sX1_numberOf_21, sX1_numberOf_22, sX1_numberOf_23, sX1_numberOf_24, sX1_numberOf_25, sX1_numberOf_26, sX1_numberOf_27, sX1_numberOf_28, sX1_numberOf_31, sX1_numberOf_32, sX1_numberOf_33, sX1_numberOf_36, sX1_numberOf_37, sX1_numberOf_39, sX1_numberOf_40, sX1_numberOf_41, sX1_numberOf_44, sX1_numberOf_45, sX1_numberOf_46, sX1_numberOf_47, sX1_numberOf_48, sX1_numberOf_51, sX1_numberOf_52, sX1_numberOf_53, ha, hq, Option.some.injEq, Sum.inr.injEq, Sum.inl.injEq, Prod.mk.injEq, true_and, and_true, exists_eq_left', exists_eq_left, exists_eq_right, exists_eq_right', exists_and_left, exists_and_right, List.getElem?_cons_succ, List.getElem?_cons_zero, List.length_cons, List.length_nil, List.set_cons_zero, List.set_cons_succ, Option.toList_some, Option.toList_none, List.nil_append, List.cons_append, mj_up_s, true_or, or_true, Nat.sub_zero, and_assoc, b10, not_true_eq_false, not_false_eq_true, false_implies, true_implies, implies_true, eq_self, and_self, rf_some, rf_none, e, e2, nI_cl (show 4 * j + 2 * wh < 2147483648 by omega), nI_cl (show 4 * j + 2 * wh + 1 < 2147483648 by omega), hg (4 * j + 2 * wh) (by omega), hg (4 * j + 2 * wh + 1) (by omega), bS_and _ (k4 _), bS_two (k4 _) (k4 _)]
    refine And.intro (fun c => absurd c (nI_pos (by omega))) (fun _ => And.intro (fun _ => ?_) (fun c => absurd (show nI wh ≤ nI 1 from nI_le hwh (by decide)) c))
    exact And.intro (vp_in_nI (by omega) (by decide)) (And.intro (vp_in_nI (by omega) (by decide)) hQ)
  · rw [if_neg hc] at hQ ⊢
    simp only [sX1_numberOf_0, sX1_numberOf_1, sX1_numberOf_5, sX1_numberOf_8, sX1_numberOf_9, sX1_numberOf_12, sX1_numberOf_13, sX1_numberOf_14, sX1_numberOf_17, sX1_numberOf_18, sX1_numberOf_19, sX1_numberOf_20, sX1_numberOf_21, sX1_numberOf_22, sX1_numberOf_23, sX1_numberOf_24, sX1_numberOf_25, sX1_numberOf_26, sX1_numberOf_27, sX1_numberOf_28, sX1_numberOf_31, sX1_numberOf_32, sX1_numberOf_33, sX1_numberOf_36, sX1_numberOf_37, sX1_numberOf_39, sX1_numberOf_40, sX1_numberOf_41, sX1_numberOf_44, sX1_numberOf_45, sX1_numberOf_46, sX1_numberOf_47, sX1_numberOf_48, sX1_numberOf_51, sX1_numberOf_52, sX1_numberOf_53, Option.some.injEq, Sum.inr.injEq, Sum.inl.injEq, Prod.mk.injEq, true_and, and_true, exists_eq_left', exists_eq_left, exists_eq_right, exists_eq_right', exists_and_left, exists_and_right, List.getElem?_cons_succ, List.getElem?_cons_zero, List.length_cons, List.length_nil, List.set_cons_zero, List.set_cons_succ, Option.toList_some, Option.toList_none, List.nil_append, List.cons_append, mj_up_s, true_or, or_true, Nat.sub_zero, and_assoc, b10, not_true_eq_false, not_false_eq_true, false_implies, true_implies, implies_true, eq_self, and_self, rf_some, rf_none]
    exact hQ
end
