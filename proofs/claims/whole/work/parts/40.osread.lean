/-! ===== ObjectStreams: what only reads ===== -/
theorem thI_n {S : St} {p j : Nat} (hj : j < 2147483648) : S_thI S p (nI j) = S_th S p j := S_thI_n hj
theorem obI_n {S : St} {j : Nat} (hj : j < 2147483648) : obI S (nI j) = decide (j < S_no S) := by
  have : decide (0 ≤ nI j) = true := decide_eq_true (nI_pos' hj)
  simp only [obI, this, Bool.true_and, nI_cl hj]
theorem pkI_n {S : St} {j : Nat} (hj : j < 2147483648) : pkI S (nI j) = decide (j < S_np S) := by
  have : decide (0 ≤ nI j) = true := decide_eq_true (nI_pos' hj)
  simp only [pkI, this, Bool.true_and, nI_cl hj]
def op_size (S : St) (o : Int32) : Int32 := if obI S o = true then oI (S_size S o.toNatClampNeg) else -2
def op_in (S : St) (o : Int32) : Int32 := if obI S o = true then (if S_pk S o.toNatClampNeg = 0 then -1 else nI (100 * (S_pk S o.toNatClampNeg - 1) + S_ix S o.toNatClampNeg)) else -2
def op_pair (S : St) (p k wh : Int32) : Int32 := if pkI S p = true ∧ 0 ≤ wh ∧ wh ≤ 2 then (if S_thI S p.toNatClampNeg k = true then (if wh = 2 then oI (S_cl S p.toNatClampNeg k.toNatClampNeg) else nI (S_num S p.toNatClampNeg k.toNatClampNeg wh.toNatClampNeg)) else -1) else -2
def op_told (S : St) (i wh : Int32) : Int32 := if i = -1 then nI (S_nt S) else if (0 ≤ i ∧ i < nI (S_nt S)) ∧ 0 ≤ wh ∧ wh ≤ 1 then (if wh = 0 then nI (S_tf S i.toNatClampNeg) else nI (S_tp S i.toNatClampNeg)) else -1
section
variable {f w : Nat} {Q : mj_Q} {h : mj_H} {n mc ms : Nat} {S : St} {AD : Ad} {C : Ct}
theorem m_length (hf : 5 ≤ f) (hw : 113 ≤ w) (hM : MEM h n AD (VS S) C) (hC : CC S AD C) (hW : WF S) {i : Nat} (hi : i < S_no S) (hQ : Q (some (.int (oI (S_size S i)))) h n) : mj_bk f w 2 [.ref (AD 1 i)] h n mc ms Q := by
  obtain ⟨wt, hx⟩ := hC.it hM hi
  obtain ⟨w1, w2, w3, w4, w5⟩ := hW.2.2.2.1 i hi
  have w0 := hW.1
  cases hp : S_pk S i with
  | zero =>
    rw [hp] at hx
    have e : S_size S i = some (S_sz S i) := if_pos hp
    rw [e] at hQ
    exact c_lengthO (by omega) (by omega) hx hQ
  | succ p =>
    rw [hp] at hx
    have e : S_size S i = if S_th S p (S_ix S i) = true ∧ S_num S p (S_ix S i) 0 = i then S_cl S p (S_ix S i) else none := by
      unfold S_size; rw [if_neg (by omega), hp]; rfl
    rw [e] at hQ
    exact c_lengthI hf hw hx (hC.pk hM hW (by omega)) (by omega) w4 hQ
set_option maxRecDepth 100000 in
theorem m_size (hf : 6 ≤ f) (hw : 135 ≤ w) (hM : MEM h n AD (VS S) C) (hC : CC S AD C) (hW : WF S) {o : Int32} (hQ : Q (some (.int (op_size S o))) h n) : mj_bk f w 25 [.ref (AD 5 0), .int o] h n mc ms Q := by
  obtain ⟨plc, hO⟩ := hC.os hM
  refine mj_begin (by omega) (by decide) (by show 22 ≤ w; omega) rfl ?_
  show mj_W _ _ 25 mj_noZ Q 0 [.ref (AD 5 0), .int o, .retAddr 0] [] h n mc ms
  simp only [sX2_size_0, sX2_size_1, sX2_size_5, sX2_size_5n, sX2_size_6, sX2_size_6n, sX2_size_7, sX2_size_7n, sX2_size_10, sX2_size_12, sX2_size_15, sX2_size_15n, sX2_size_19, Option.some.injEq, Sum.inr.injEq, Sum.inl.injEq, Prod.mk.injEq, true_and, and_true, exists_eq_left', exists_eq_left, exists_eq_right, exists_eq_right', exists_and_left, exists_and_right, List.getElem?_cons_succ, List.getElem?_cons_zero, List.length_cons, List.length_nil, List.set_cons_zero, List.set_cons_succ, Option.toList_some, Option.toList_none, List.nil_append, List.cons_append, mj_up_s, true_or, or_true, Nat.sub_zero, and_assoc, b10, not_true_eq_false, not_false_eq_true, false_implies, true_implies, implies_true, eq_self, and_self, rf_some, rf_none]
  refine sX2_size_2z hO rfl (m_itemOf (by omega) (by show 21 ≤ w - 22; omega) hM hC hW ?_)
  unfold op_size at hQ
  by_cases hc : obI S o = true
  · rw [if_pos hc] at hQ ⊢
    obtain ⟨j, rfl, j1, j2⟩ := cl_iff.mp hc
    rw [nI_cl j1] at hQ ⊢
    obtain ⟨wt, hx⟩ := hC.it hM j2
    simp only [sX2_size_0, sX2_size_1, sX2_size_5, sX2_size_5n, sX2_size_6, sX2_size_6n, sX2_size_7, sX2_size_7n, sX2_size_10, sX2_size_12, sX2_size_15, sX2_size_15n, sX2_size_19, Option.some.injEq, Sum.inr.injEq, Sum.inl.injEq, Prod.mk.injEq, true_and, and_true, exists_eq_left', exists_eq_left, exists_eq_right, exists_eq_right', exists_and_left, exists_and_right, List.getElem?_cons_succ, List.getElem?_cons_zero, List.length_cons, List.length_nil, List.set_cons_zero, List.set_cons_succ, Option.toList_some, Option.toList_none, List.nil_append, List.cons_append, mj_up_s, true_or, or_true, Nat.sub_zero, and_assoc, b10, not_true_eq_false, not_false_eq_true, false_implies, true_implies, implies_true, eq_self, and_self, rf_some, rf_none]
    refine sX2_size_16z hx rfl (m_length (by omega) (by show 113 ≤ w - 22; omega) hM hC hW j2 ?_)
    simp only [sX2_size_0, sX2_size_1, sX2_size_5, sX2_size_5n, sX2_size_6, sX2_size_6n, sX2_size_7, sX2_size_7n, sX2_size_10, sX2_size_12, sX2_size_15, sX2_size_15n, sX2_size_19, Option.some.injEq, Sum.inr.injEq, Sum.inl.injEq, Prod.mk.injEq, true_and, and_true, exists_eq_left', exists_eq_left, exists_eq_right, exists_eq_right', exists_and_left, exists_and_right, List.getElem?_cons_succ, List.getElem?_cons_zero, List.length_cons, List.length_nil, List.set_cons_zero, List.set_cons_succ, Option.toList_some, Option.toList_none, List.nil_append, List.cons_append, mj_up_s, true_or, or_true, Nat.sub_zero, and_assoc, b10, not_true_eq_false, not_false_eq_true, false_implies, true_implies, implies_true, eq_self, and_self, rf_some, rf_none]
    exact hQ
  · rw [if_neg hc] at hQ ⊢
    simp only [sX2_size_0, sX2_size_1, sX2_size_5, sX2_size_5n, sX2_size_6, sX2_size_6n, sX2_size_7, sX2_size_7n, sX2_size_10, sX2_size_12, sX2_size_15, sX2_size_15n, sX2_size_19, Option.some.injEq, Sum.inr.injEq, Sum.inl.injEq, Prod.mk.injEq, true_and, and_true, exists_eq_left', exists_eq_left, exists_eq_right, exists_eq_right', exists_and_left, exists_and_right, List.getElem?_cons_succ, List.getElem?_cons_zero, List.length_cons, List.length_nil, List.set_cons_zero, List.set_cons_succ, Option.toList_some, Option.toList_none, List.nil_append, List.cons_append, mj_up_s, true_or, or_true, Nat.sub_zero, and_assoc, b10, not_true_eq_false, not_false_eq_true, false_implies, true_implies, implies_true, eq_self, and_self, rf_some, rf_none]
    exact hQ
set_option maxRecDepth 100000 in
theorem m_in (hf : 2 ≤ f) (hw : 43 ≤ w) (hM : MEM h n AD (VS S) C) (hC : CC S AD C) (hW : WF S) {o : Int32} (hQ : Q (some (.int (op_in S o))) h n) : mj_bk f w 27 [.ref (AD 5 0), .int o] h n mc ms Q := by
  obtain ⟨plc, hO⟩ := hC.os hM
  refine mj_begin (by omega) (by decide) (by show 22 ≤ w; omega) rfl ?_
  show mj_W _ _ 27 mj_noZ Q 0 [.ref (AD 5 0), .int o, .retAddr 0] [] h n mc ms
  simp only [sX2_in_0, sX2_in_1, sX2_in_5, sX2_in_5n, sX2_in_6, sX2_in_6n, sX2_in_7, sX2_in_7n, sX2_in_10, sX2_in_12, sX2_in_13, sX2_in_13n, sX2_in_14, sX2_in_17, sX2_in_17n, sX2_in_20, sX2_in_21, sX2_in_24, sX2_in_26, sX2_in_26n, sX2_in_27, sX2_in_30, sX2_in_33, sX2_in_34, sX2_in_34n, sX2_in_35, sX2_in_38, sX2_in_39, Option.some.injEq, Sum.inr.injEq, Sum.inl.injEq, Prod.mk.injEq, true_and, and_true, exists_eq_left', exists_eq_left, exists_eq_right, exists_eq_right', exists_and_left, exists_and_right, List.getElem?_cons_succ, List.getElem?_cons_zero, List.length_cons, List.length_nil, List.set_cons_zero, List.set_cons_succ, Option.toList_some, Option.toList_none, List.nil_append, List.cons_append, mj_up_s, true_or, or_true, Nat.sub_zero, and_assoc, b10, not_true_eq_false, not_false_eq_true, false_implies, true_implies, implies_true, eq_self, and_self, rf_some, rf_none]
  refine sX2_in_2z hO rfl (m_itemOf (by omega) (by show 21 ≤ w - 22; omega) hM hC hW ?_)
  unfold op_in at hQ
  by_cases hc : obI S o = true
  · rw [if_pos hc] at hQ ⊢
    obtain ⟨j, rfl, j1, j2⟩ := cl_iff.mp hc
    rw [nI_cl j1] at hQ ⊢
    obtain ⟨wt, hx⟩ := hC.it hM j2
    obtain ⟨w1, w2, w3, w4, w5⟩ := hW.2.2.2.1 j j2
    cases hp : S_pk S j with
    | zero =>
      rw [hp] at hx hQ
      simp only [sX2_in_0, sX2_in_1, sX2_in_5, sX2_in_5n, sX2_in_6, sX2_in_6n, sX2_in_7, sX2_in_7n, sX2_in_10, sX2_in_12, sX2_in_13, sX2_in_13n, sX2_in_14, sX2_in_17, sX2_in_17n, sX2_in_20, sX2_in_21, sX2_in_24, sX2_in_26, sX2_in_26n, sX2_in_27, sX2_in_30, sX2_in_33, sX2_in_34, sX2_in_34n, sX2_in_35, sX2_in_38, sX2_in_39, hx, hmv, Option.some.injEq, Sum.inr.injEq, Sum.inl.injEq, Prod.mk.injEq, true_and, and_true, exists_eq_left', exists_eq_left, exists_eq_right, exists_eq_right', exists_and_left, exists_and_right, List.getElem?_cons_succ, List.getElem?_cons_zero, List.length_cons, List.length_nil, List.set_cons_zero, List.set_cons_succ, Option.toList_some, Option.toList_none, List.nil_append, List.cons_append, mj_up_s, true_or, or_true, Nat.sub_zero, and_assoc, b10, not_true_eq_false, not_false_eq_true, false_implies, true_implies, implies_true, eq_self, and_self, rf_some, rf_none]
      exact hQ
    | succ p =>
      rw [hp] at hx hQ
      have hP := hC.pkc hM (p := p) (by omega)
      simp only [sX2_in_0, sX2_in_1, sX2_in_5, sX2_in_5n, sX2_in_6, sX2_in_6n, sX2_in_7, sX2_in_7n, sX2_in_10, sX2_in_12, sX2_in_13, sX2_in_13n, sX2_in_14, sX2_in_17, sX2_in_17n, sX2_in_20, sX2_in_21, sX2_in_24, sX2_in_26, sX2_in_26n, sX2_in_27, sX2_in_30, sX2_in_33, sX2_in_34, sX2_in_34n, sX2_in_35, sX2_in_38, sX2_in_39, hx, hmv, hP, Option.some.injEq, Sum.inr.injEq, Sum.inl.injEq, Prod.mk.injEq, true_and, and_true, exists_eq_left', exists_eq_left, exists_eq_right, exists_eq_right', exists_and_left, exists_and_right, List.getElem?_cons_succ, List.getElem?_cons_zero, List.length_cons, List.length_nil, List.set_cons_zero, List.set_cons_succ, Option.toList_some, Option.toList_none, List.nil_append, List.cons_append, mj_up_s, true_or, or_true, Nat.sub_zero, and_assoc, b10, not_true_eq_false, not_false_eq_true, false_implies, true_implies, implies_true, eq_self, and_self, rf_some, rf_none]
      have e : (100 : Int32) * nI p + nI (S_ix S j) = nI (100 * (p + 1 - 1) + S_ix S j) := by
        rw [show (100 : Int32) = nI 100 from rfl, pk_mul, nI_add]; rfl
      rw [e]
      rw [if_neg (by omega)] at hQ
      exact hQ
  · rw [if_neg hc] at hQ ⊢
    simp only [sX2_in_0, sX2_in_1, sX2_in_5, sX2_in_5n, sX2_in_6, sX2_in_6n, sX2_in_7, sX2_in_7n, sX2_in_10, sX2_in_12, sX2_in_13, sX2_in_13n, sX2_in_14, sX2_in_17, sX2_in_17n, sX2_in_20, sX2_in_21, sX2_in_24, sX2_in_26, sX2_in_26n, sX2_in_27, sX2_in_30, sX2_in_33, sX2_in_34, sX2_in_34n, sX2_in_35, sX2_in_38, sX2_in_39, Option.some.injEq, Sum.inr.injEq, Sum.inl.injEq, Prod.mk.injEq, true_and, and_true, exists_eq_left', exists_eq_left, exists_eq_right, exists_eq_right', exists_and_left, exists_and_right, List.getElem?_cons_succ, List.getElem?_cons_zero, List.length_cons, List.length_nil, List.set_cons_zero, List.set_cons_succ, Option.toList_some, Option.toList_none, List.nil_append, List.cons_append, mj_up_s, true_or, or_true, Nat.sub_zero, and_assoc, b10, not_true_eq_false, not_false_eq_true, false_implies, true_implies, implies_true, eq_self, and_self, rf_some, rf_none]
    exact hQ
set_option maxRecDepth 100000 in
theorem m_pair (hf : 5 ≤ f) (hw : 117 ≤ w) (hM : MEM h n AD (VS S) C) (hC : CC S AD C) (hW : WF S) {p k wh : Int32} (hQ : Q (some (.int (op_pair S p k wh))) h n) : mj_bk f w 35 [.ref (AD 5 0), .int p, .int k, .int wh] h n mc ms Q := by
  obtain ⟨plc, hO⟩ := hC.os hM
  refine mj_begin (by omega) (by decide) (by show 24 ≤ w; omega) rfl ?_
  show mj_W _ _ 35 mj_noZ Q 0 [.ref (AD 5 0), .int p, .int k, .int wh, .retAddr 0] [] h n mc ms
  simp only [sX2_pair_0, sX2_pair_1, sX2_pair_5, sX2_pair_5n, sX2_pair_7, sX2_pair_7n, sX2_pair_9, sX2_pair_9n, sX2_pair_12, sX2_pair_13, sX2_pair_16, sX2_pair_17, sX2_pair_18, sX2_pair_21, sX2_pair_23, sX2_pair_24, sX2_pair_25, sX2_pair_26, sX2_pair_29, sX2_pair_29n, sX2_pair_31, sX2_pair_35, sX2_pair_38, sX2_pair_38n, sX2_pair_40, sX2_pair_41, sX2_pair_45, Option.some.injEq, Sum.inr.injEq, Sum.inl.injEq, Prod.mk.injEq, true_and, and_true, exists_eq_left', exists_eq_left, exists_eq_right, exists_eq_right', exists_and_left, exists_and_right, List.getElem?_cons_succ, List.getElem?_cons_zero, List.length_cons, List.length_nil, List.set_cons_zero, List.set_cons_succ, Option.toList_some, Option.toList_none, List.nil_append, List.cons_append, mj_up_s, true_or, or_true, Nat.sub_zero, and_assoc, b10, not_true_eq_false, not_false_eq_true, false_implies, true_implies, implies_true, eq_self, and_self, rf_some, rf_none]
  refine sX2_pair_2z hO rfl (m_packOf (by omega) (by show 21 ≤ w - 24; omega) hM hC hW ?_)
  unfold op_pair at hQ
  by_cases hc : pkI S p = true
  · rw [if_pos hc]
    obtain ⟨j, rfl, j1, j2⟩ := cl_iff.mp hc
    rw [nI_cl j1] at hQ ⊢
    have hP := hC.pk hM hW j2
    have hP1 := hC.pkc hM j2
    simp only [sX2_pair_0, sX2_pair_1, sX2_pair_5, sX2_pair_5n, sX2_pair_7, sX2_pair_7n, sX2_pair_9, sX2_pair_9n, sX2_pair_12, sX2_pair_13, sX2_pair_16, sX2_pair_17, sX2_pair_18, sX2_pair_21, sX2_pair_23, sX2_pair_24, sX2_pair_25, sX2_pair_26, sX2_pair_29, sX2_pair_29n, sX2_pair_31, sX2_pair_35, sX2_pair_38, sX2_pair_38n, sX2_pair_40, sX2_pair_41, sX2_pair_45, Option.some.injEq, Sum.inr.injEq, Sum.inl.injEq, Prod.mk.injEq, true_and, and_true, exists_eq_left', exists_eq_left, exists_eq_right, exists_eq_right', exists_and_left, exists_and_right, List.getElem?_cons_succ, List.getElem?_cons_zero, List.length_cons, List.length_nil, List.set_cons_zero, List.set_cons_succ, Option.toList_some, Option.toList_none, List.nil_append, List.cons_append, mj_up_s, true_or, or_true, Nat.sub_zero, and_assoc, b10, not_true_eq_false, not_false_eq_true, false_implies, true_implies, implies_true, eq_self, and_self, rf_some, rf_none]
    refine And.intro (fun c => ?_) (fun c1 => And.intro (fun c2 => And.intro (fun c3 => ?_) (fun c3 => ?_)) (fun c2 => ?_))
    · rw [if_neg (fun z => by have := z.2.1; clear hQ hP hP1 hO; (simp only [Int32.le_iff_toInt_le, Int32.lt_iff_toInt_lt, i32_eq, i32_0, i32_m1, i32_600, i32_60, i32_20, i32_99, i32_10, i32_1, i32_2] at *; omega))] at hQ; exact hQ
    · rw [if_pos ⟨hc, by clear hQ hP hP1 hO; (simp only [Int32.le_iff_toInt_le, Int32.lt_iff_toInt_lt, i32_eq, i32_0, i32_m1, i32_600, i32_60, i32_20, i32_99, i32_10, i32_1, i32_2] at *; omega), c2⟩] at hQ
      obtain ⟨t, t1, rfl, t3⟩ := i32_of (x := wh) (by clear hQ hP hP1 hO; (simp only [Int32.le_iff_toInt_le, Int32.lt_iff_toInt_lt, i32_eq, i32_0, i32_m1, i32_600, i32_60, i32_20, i32_99, i32_10, i32_1, i32_2] at *; omega))
      have t4 : t ≤ 1 := by clear hQ hP hP1 hO; (simp only [Int32.le_iff_toInt_le, Int32.lt_iff_toInt_lt, i32_eq, i32_0, i32_m1, i32_600, i32_60, i32_20, i32_99, i32_10, i32_1, i32_2] at *; omega)
      refine sX2_pair_42z hP1 rfl (c_numberOf (wh := t) (by omega) (by show 45 ≤ w - 24; omega) hP t4 ?_)
      simp only [sX2_pair_0, sX2_pair_1, sX2_pair_5, sX2_pair_5n, sX2_pair_7, sX2_pair_7n, sX2_pair_9, sX2_pair_9n, sX2_pair_12, sX2_pair_13, sX2_pair_16, sX2_pair_17, sX2_pair_18, sX2_pair_21, sX2_pair_23, sX2_pair_24, sX2_pair_25, sX2_pair_26, sX2_pair_29, sX2_pair_29n, sX2_pair_31, sX2_pair_35, sX2_pair_38, sX2_pair_38n, sX2_pair_40, sX2_pair_41, sX2_pair_45, Option.some.injEq, Sum.inr.injEq, Sum.inl.injEq, Prod.mk.injEq, true_and, and_true, exists_eq_left', exists_eq_left, exists_eq_right, exists_eq_right', exists_and_left, exists_and_right, List.getElem?_cons_succ, List.getElem?_cons_zero, List.length_cons, List.length_nil, List.set_cons_zero, List.set_cons_succ, Option.toList_some, Option.toList_none, List.nil_append, List.cons_append, mj_up_s, true_or, or_true, Nat.sub_zero, and_assoc, b10, not_true_eq_false, not_false_eq_true, false_implies, true_implies, implies_true, eq_self, and_self, rf_some, rf_none]
      rw [if_neg c3, nI_cl t1] at hQ
      exact hQ
    · have c3 : wh = 2 := by simpa using c3
      subst c3
      rw [if_pos ⟨hc, by decide, by decide⟩, if_pos rfl] at hQ
      refine sX2_pair_32z hP1 rfl (c_contentLength (by omega) (by show 93 ≤ w - 24; omega) hP ?_)
      simp only [sX2_pair_0, sX2_pair_1, sX2_pair_5, sX2_pair_5n, sX2_pair_7, sX2_pair_7n, sX2_pair_9, sX2_pair_9n, sX2_pair_12, sX2_pair_13, sX2_pair_16, sX2_pair_17, sX2_pair_18, sX2_pair_21, sX2_pair_23, sX2_pair_24, sX2_pair_25, sX2_pair_26, sX2_pair_29, sX2_pair_29n, sX2_pair_31, sX2_pair_35, sX2_pair_38, sX2_pair_38n, sX2_pair_40, sX2_pair_41, sX2_pair_45, Option.some.injEq, Sum.inr.injEq, Sum.inl.injEq, Prod.mk.injEq, true_and, and_true, exists_eq_left', exists_eq_left, exists_eq_right, exists_eq_right', exists_and_left, exists_and_right, List.getElem?_cons_succ, List.getElem?_cons_zero, List.length_cons, List.length_nil, List.set_cons_zero, List.set_cons_succ, Option.toList_some, Option.toList_none, List.nil_append, List.cons_append, mj_up_s, true_or, or_true, Nat.sub_zero, and_assoc, b10, not_true_eq_false, not_false_eq_true, false_implies, true_implies, implies_true, eq_self, and_self, rf_some, rf_none]
      exact hQ
    · rw [if_neg (fun z => c2 z.2.2)] at hQ; exact hQ
  · rw [if_neg hc]
    rw [if_neg (fun z => hc z.1)] at hQ
    simp only [sX2_pair_0, sX2_pair_1, sX2_pair_5, sX2_pair_5n, sX2_pair_7, sX2_pair_7n, sX2_pair_9, sX2_pair_9n, sX2_pair_12, sX2_pair_13, sX2_pair_16, sX2_pair_17, sX2_pair_18, sX2_pair_21, sX2_pair_23, sX2_pair_24, sX2_pair_25, sX2_pair_26, sX2_pair_29, sX2_pair_29n, sX2_pair_31, sX2_pair_35, sX2_pair_38, sX2_pair_38n, sX2_pair_40, sX2_pair_41, sX2_pair_45, Option.some.injEq, Sum.inr.injEq, Sum.inl.injEq, Prod.mk.injEq, true_and, and_true, exists_eq_left', exists_eq_left, exists_eq_right, exists_eq_right', exists_and_left, exists_and_right, List.getElem?_cons_succ, List.getElem?_cons_zero, List.length_cons, List.length_nil, List.set_cons_zero, List.set_cons_succ, Option.toList_some, Option.toList_none, List.nil_append, List.cons_append, mj_up_s, true_or, or_true, Nat.sub_zero, and_assoc, b10, not_true_eq_false, not_false_eq_true, false_implies, true_implies, implies_true, eq_self, and_self, rf_some, rf_none]
    exact hQ
set_option maxRecDepth 100000 in
theorem m_told (hf : 1 ≤ f) (hw : 22 ≤ w) (hM : MEM h n AD (VS S) C) (hC : CC S AD C) (hW : WF S) {i wh : Int32} (hQ : Q (some (.int (op_told S i wh))) h n) : mj_bk f w 34 [.ref (AD 5 0), .int i, .int wh] h n mc ms Q := by
  obtain ⟨plc, hO⟩ := hC.os hM
  obtain ⟨g1, e1, e2⟩ := hC.2.2.2.1
  obtain ⟨g2, e3, e4⟩ := hC.2.2.2.2.1
  have hA := hM.1 0 2 (show 2 < 6 by omega)
  have hB := hM.1 0 3 (show 3 < 6 by omega)
  rw [e1] at hA
  rw [e3] at hB
  have w1 := hW.2.2.1
  have z1 := nI_tI (n := S_nt S) (by omega)
  refine mj_begin (by omega) (by decide) (by show 22 ≤ w; omega) rfl ?_
  show mj_W _ _ 34 mj_noZ Q 0 [.ref (AD 5 0), .int i, .int wh] [] h n mc ms
  simp only [sX2_told_0, sX2_told_1, sX2_told_2, sX2_told_5, sX2_told_6, sX2_told_9, sX2_told_10, sX2_told_11, sX2_told_14, sX2_told_15, sX2_told_16, sX2_told_19, sX2_told_22, sX2_told_23, sX2_told_26, sX2_told_27, sX2_told_28, sX2_told_31, sX2_told_32, sX2_told_33, sX2_told_34, sX2_told_37, sX2_told_38, sX2_told_41, sX2_told_42, sX2_told_43, sX2_told_46, sX2_told_47, sX2_told_50, sX2_told_51, sX2_told_52, hO, hA, hB, Option.some.injEq, Sum.inr.injEq, Sum.inl.injEq, Prod.mk.injEq, true_and, and_true, exists_eq_left', exists_eq_left, exists_eq_right, exists_eq_right', exists_and_left, exists_and_right, List.getElem?_cons_succ, List.getElem?_cons_zero, List.length_cons, List.length_nil, List.set_cons_zero, List.set_cons_succ, Option.toList_some, Option.toList_none, List.nil_append, List.cons_append, mj_up_s, true_or, or_true, Nat.sub_zero, and_assoc, b10, not_true_eq_false, not_false_eq_true, false_implies, true_implies, implies_true, eq_self, and_self, rf_some, rf_none]
  unfold op_told at hQ
  refine And.intro (fun c0 => ?_) (fun c0 => ?_)
  · rw [if_neg c0] at hQ
    by_cases hc : (0 ≤ i ∧ i < nI (S_nt S)) ∧ 0 ≤ wh ∧ wh ≤ 1
    · rw [if_pos hc] at hQ
      obtain ⟨t, t1, rfl, t3⟩ := i32_of (x := i) (by clear hQ hO hA hB; (simp only [Int32.le_iff_toInt_le, Int32.lt_iff_toInt_lt, i32_eq, i32_0, i32_m1, i32_600, i32_60, i32_20, i32_99, i32_10, i32_1, i32_2] at *; omega))
      have t4 : t < S_nt S := by clear hQ hO hA hB; (simp only [Int32.le_iff_toInt_le, Int32.lt_iff_toInt_lt, i32_eq, i32_0, i32_m1, i32_600, i32_60, i32_20, i32_99, i32_10, i32_1, i32_2] at *; omega)
      rw [nI_cl t1] at hQ ⊢
      rw [e2 t t4, e4 t t4]
      refine And.intro (fun c => ?_) (fun _ => And.intro (fun c => ?_) (fun _ => And.intro (fun c => ?_) (fun _ => And.intro (fun _ => And.intro (fun c => ?_) (fun c => ?_)) (fun c => ?_))))
      · exfalso; clear hQ hO hA hB; (simp only [Int32.le_iff_toInt_le, Int32.lt_iff_toInt_lt, i32_eq, i32_0, i32_m1, i32_600, i32_60, i32_20, i32_99, i32_10, i32_1, i32_2] at *; omega)
      · exfalso; clear hQ hO hA hB; (simp only [Int32.le_iff_toInt_le, Int32.lt_iff_toInt_lt, i32_eq, i32_0, i32_m1, i32_600, i32_60, i32_20, i32_99, i32_10, i32_1, i32_2] at *; omega)
      · exfalso; clear hQ hO hA hB; (simp only [Int32.le_iff_toInt_le, Int32.lt_iff_toInt_lt, i32_eq, i32_0, i32_m1, i32_600, i32_60, i32_20, i32_99, i32_10, i32_1, i32_2] at *; omega)
      · rw [if_neg c] at hQ; exact And.intro (vp_in_nI (by omega) (by decide)) hQ
      · rw [if_pos (by simpa using c)] at hQ; exact And.intro (vp_in_nI (by omega) (by decide)) hQ
      · exact absurd hc.2.2 c
    · rw [if_neg hc] at hQ
      refine And.intro (fun _ => hQ) (fun c1 => And.intro (fun _ => hQ) (fun c2 => And.intro (fun _ => hQ) (fun c3 => And.intro (fun c4 => ?_) (fun _ => hQ))))
      exact absurd ⟨⟨by clear hQ hO hA hB hc; (simp only [Int32.le_iff_toInt_le, Int32.lt_iff_toInt_lt, i32_eq, i32_0, i32_m1, i32_600, i32_60, i32_20, i32_99, i32_10, i32_1, i32_2] at *; omega), by clear hQ hO hA hB hc; (simp only [Int32.le_iff_toInt_le, Int32.lt_iff_toInt_lt, i32_eq, i32_0, i32_m1, i32_600, i32_60, i32_20, i32_99, i32_10, i32_1, i32_2] at *; omega)⟩, by clear hQ hO hA hB hc; (simp only [Int32.le_iff_toInt_le, Int32.lt_iff_toInt_lt, i32_eq, i32_0, i32_m1, i32_600, i32_60, i32_20, i32_99, i32_10, i32_1, i32_2] at *; omega), c4⟩ hc
  · rw [if_pos (by simpa using c0)] at hQ; exact hQ
/-- octet, where there is such a byte -/
def op_oct (S : St) (p i : Int32) : Option Nat := if pkI S p = true ∧ 0 ≤ i ∧ i < nI (S_pz S p.toNatClampNeg) then some (S_pb S p.toNatClampNeg i.toNatClampNeg) else none
set_option maxRecDepth 100000 in
theorem m_octet (hf : 3 ≤ f) (hw : 65 ≤ w) (hM : MEM h n AD (VS S) C) (hC : CC S AD C) (hW : WF S) {p i : Int32} {c : Nat} (ho : op_oct S p i = some c) (hQ : Q (some (.int (bS c))) h n) : mj_bk f w 30 [.ref (AD 5 0), .int p, .int i] h n mc ms Q := by
  obtain ⟨plc, hO⟩ := hC.os hM
  refine mj_begin (by omega) (by decide) (by show 23 ≤ w; omega) rfl ?_
  show mj_W _ _ 30 mj_noZ Q 0 [.ref (AD 5 0), .int p, .int i, .retAddr 0] [] h n mc ms
  simp only [sX2_octet_0, sX2_octet_1, sX2_octet_5, sX2_octet_5n, sX2_octet_6, sX2_octet_6n, sX2_octet_7, sX2_octet_7n, sX2_octet_10, sX2_octet_10n, sX2_octet_11, sX2_octet_15, sX2_octet_21, sX2_octet_28, sX2_octet_28n, sX2_octet_29, sX2_octet_33, Option.some.injEq, Sum.inr.injEq, Sum.inl.injEq, Prod.mk.injEq, true_and, and_true, exists_eq_left', exists_eq_left, exists_eq_right, exists_eq_right', exists_and_left, exists_and_right, List.getElem?_cons_succ, List.getElem?_cons_zero, List.length_cons, List.length_nil, List.set_cons_zero, List.set_cons_succ, Option.toList_some, Option.toList_none, List.nil_append, List.cons_append, mj_up_s, true_or, or_true, Nat.sub_zero, and_assoc, b10, not_true_eq_false, not_false_eq_true, false_implies, true_implies, implies_true, eq_self, and_self, rf_some, rf_none]
  refine sX2_octet_2z hO rfl (m_packOf (by omega) (by show 21 ≤ w - 23; omega) hM hC hW ?_)
  unfold op_oct at ho
  split at ho
  · rename_i hc
    cases ho
    rw [if_pos hc.1]
    obtain ⟨j, rfl, j1, j2⟩ := cl_iff.mp hc.1
    rw [nI_cl j1] at hQ hc ⊢
    have hP := hC.pk hM hW j2
    have hP1 := hC.pkc hM j2
    have w1 := (hW.2.2.2.2.2 j j2).1.2.2.1
    have z1 := nI_tI (n := S_pz S j) (by omega)
    obtain ⟨t, t1, rfl, t3⟩ := i32_of (x := i) (by clear hQ hP hP1 hO hM hC; (simp only [Int32.le_iff_toInt_le, Int32.lt_iff_toInt_lt, i32_eq, i32_0, i32_m1, i32_600, i32_60, i32_20, i32_99, i32_10, i32_1, i32_2] at *; omega))
    have t4 : t < S_pz S j := by clear hQ hP hP1 hO hM hC; (simp only [Int32.le_iff_toInt_le, Int32.lt_iff_toInt_lt, i32_eq, i32_0, i32_m1, i32_600, i32_60, i32_20, i32_99, i32_10, i32_1, i32_2] at *; omega)
    rw [nI_cl t1] at hQ
    simp only [sX2_octet_0, sX2_octet_1, sX2_octet_5, sX2_octet_5n, sX2_octet_6, sX2_octet_6n, sX2_octet_7, sX2_octet_7n, sX2_octet_10, sX2_octet_10n, sX2_octet_11, sX2_octet_15, sX2_octet_21, sX2_octet_28, sX2_octet_28n, sX2_octet_29, sX2_octet_33, Option.some.injEq, Sum.inr.injEq, Sum.inl.injEq, Prod.mk.injEq, true_and, and_true, exists_eq_left', exists_eq_left, exists_eq_right, exists_eq_right', exists_and_left, exists_and_right, List.getElem?_cons_succ, List.getElem?_cons_zero, List.length_cons, List.length_nil, List.set_cons_zero, List.set_cons_succ, Option.toList_some, Option.toList_none, List.nil_append, List.cons_append, mj_up_s, true_or, or_true, Nat.sub_zero, and_assoc, b10, not_true_eq_false, not_false_eq_true, false_implies, true_implies, implies_true, eq_self, and_self, rf_some, rf_none]
    refine sX2_octet_12z hP1 rfl (c_holds (by omega) (by show 21 ≤ w - 23; omega) hP ?_)
    rw [if_pos hc.2]
    simp only [sX2_octet_0, sX2_octet_1, sX2_octet_5, sX2_octet_5n, sX2_octet_6, sX2_octet_6n, sX2_octet_7, sX2_octet_7n, sX2_octet_10, sX2_octet_10n, sX2_octet_11, sX2_octet_15, sX2_octet_21, sX2_octet_28, sX2_octet_28n, sX2_octet_29, sX2_octet_33, Option.some.injEq, Sum.inr.injEq, Sum.inl.injEq, Prod.mk.injEq, true_and, and_true, exists_eq_left', exists_eq_left, exists_eq_right, exists_eq_right', exists_and_left, exists_and_right, List.getElem?_cons_succ, List.getElem?_cons_zero, List.length_cons, List.length_nil, List.set_cons_zero, List.set_cons_succ, Option.toList_some, Option.toList_none, List.nil_append, List.cons_append, mj_up_s, true_or, or_true, Nat.sub_zero, and_assoc, b10, not_true_eq_false, not_false_eq_true, false_implies, true_implies, implies_true, eq_self, and_self, rf_some, rf_none]
    refine sX2_octet_30z hP1 rfl (c_byteAt (by omega) (by show 42 ≤ w - 23; omega) hP t1 ?_)
    rw [if_pos t4]
    simp only [sX2_octet_0, sX2_octet_1, sX2_octet_5, sX2_octet_5n, sX2_octet_6, sX2_octet_6n, sX2_octet_7, sX2_octet_7n, sX2_octet_10, sX2_octet_10n, sX2_octet_11, sX2_octet_15, sX2_octet_21, sX2_octet_28, sX2_octet_28n, sX2_octet_29, sX2_octet_33, Option.some.injEq, Sum.inr.injEq, Sum.inl.injEq, Prod.mk.injEq, true_and, and_true, exists_eq_left', exists_eq_left, exists_eq_right, exists_eq_right', exists_and_left, exists_and_right, List.getElem?_cons_succ, List.getElem?_cons_zero, List.length_cons, List.length_nil, List.set_cons_zero, List.set_cons_succ, Option.toList_some, Option.toList_none, List.nil_append, List.cons_append, mj_up_s, true_or, or_true, Nat.sub_zero, and_assoc, b10, not_true_eq_false, not_false_eq_true, false_implies, true_implies, implies_true, eq_self, and_self, rf_some, rf_none, bS_narrow]
    exact hQ
  · cases ho
/-- byte i of an object's, where there is one -/
def S_byte (S : St) (i j : Nat) : Nat := if S_pk S i = 0 then S_by S i j else S_cb S (S_pk S i - 1) (S_ix S i) j
def op_at (S : St) (o i : Int32) : Option Nat := if obI S o = true ∧ 0 ≤ i ∧ i < oI (S_size S o.toNatClampNeg) then some (S_byte S o.toNatClampNeg i.toNatClampNeg) else none
theorem S_size_lt (hW : WF S) {i L : Nat} (hi : i < S_no S) (hL : S_size S i = some L) : L ≤ 510 := by
  obtain ⟨w1, w2, w3, w4, w5⟩ := hW.2.2.2.1 i hi
  unfold S_size at hL
  split at hL
  · cases hL; omega
  · rename_i hp
    split at hL
    · exact S_cl_lt (hW.2.2.2.2.2 (S_pk S i - 1) (by omega)).1.2.2.2 hL
    · cases hL
set_option maxRecDepth 100000 in
theorem m_at (hf : 6 ≤ f) (hw : 136 ≤ w) (hM : MEM h n AD (VS S) C) (hC : CC S AD C) (hW : WF S) {o i : Int32} {c : Nat} (ho : op_at S o i = some c) (hQ : Q (some (.int (bS c))) h n) : mj_bk f w 26 [.ref (AD 5 0), .int o, .int i] h n mc ms Q := by
  obtain ⟨plc, hO⟩ := hC.os hM
  refine mj_begin (by omega) (by decide) (by show 23 ≤ w; omega) rfl ?_
  show mj_W _ _ 26 mj_noZ Q 0 [.ref (AD 5 0), .int o, .int i, .retAddr 0] [] h n mc ms
  simp only [sX2_at_0, sX2_at_1, sX2_at_5, sX2_at_5n, sX2_at_6, sX2_at_6n, sX2_at_7, sX2_at_7n, sX2_at_10, sX2_at_11, sX2_at_14, sX2_at_15, sX2_at_15n, sX2_at_19, sX2_at_25, sX2_at_32, sX2_at_32n, sX2_at_33, sX2_at_37, Option.some.injEq, Sum.inr.injEq, Sum.inl.injEq, Prod.mk.injEq, true_and, and_true, exists_eq_left', exists_eq_left, exists_eq_right, exists_eq_right', exists_and_left, exists_and_right, List.getElem?_cons_succ, List.getElem?_cons_zero, List.length_cons, List.length_nil, List.set_cons_zero, List.set_cons_succ, Option.toList_some, Option.toList_none, List.nil_append, List.cons_append, mj_up_s, true_or, or_true, Nat.sub_zero, and_assoc, b10, not_true_eq_false, not_false_eq_true, false_implies, true_implies, implies_true, eq_self, and_self, rf_some, rf_none]
  refine sX2_at_2z hO rfl (m_itemOf (by omega) (by show 21 ≤ w - 23; omega) hM hC hW ?_)
  unfold op_at at ho
  split at ho
  · rename_i hc
    cases ho
    rw [if_pos hc.1]
    obtain ⟨j, rfl, j1, j2⟩ := cl_iff.mp hc.1
    rw [nI_cl j1] at hQ hc ⊢
    obtain ⟨wt, hx⟩ := hC.it hM j2
    obtain ⟨g, how, hg⟩ := hC.ow hM j2
    obtain ⟨w1, w2, w3, w4, w5⟩ := hW.2.2.2.1 j j2
    cases hL : S_size S j with
    | none =>
      rw [hL] at hc
      exfalso
      have := hc.2
      clear hQ hx how hg hO hM hC hc
      simp only [oI] at this
      (simp only [Int32.le_iff_toInt_le, Int32.lt_iff_toInt_lt, i32_eq, i32_0, i32_m1, i32_600, i32_60, i32_20, i32_99, i32_10, i32_1, i32_2] at *; omega)
    | some L =>
      rw [hL] at hc
      have hLt := S_size_lt hW j2 hL
      have z1 : (oI (some L)).toInt = (L : Int) := nI_tI (n := L) (by omega)
      obtain ⟨t, t1, rfl, t3⟩ := i32_of (x := i) (by clear hQ hx how hg hO hM hC; (simp only [Int32.le_iff_toInt_le, Int32.lt_iff_toInt_lt, i32_eq, i32_0, i32_m1, i32_600, i32_60, i32_20, i32_99, i32_10, i32_1, i32_2] at *; omega))
      have t4 : t < L := by clear hQ hx how hg hO hM hC hL; (simp only [Int32.le_iff_toInt_le, Int32.lt_iff_toInt_lt, i32_eq, i32_0, i32_m1, i32_600, i32_60, i32_20, i32_99, i32_10, i32_1, i32_2] at *; omega)
      rw [nI_cl t1] at hQ
      simp only [sX2_at_0, sX2_at_1, sX2_at_5, sX2_at_5n, sX2_at_6, sX2_at_6n, sX2_at_7, sX2_at_7n, sX2_at_10, sX2_at_11, sX2_at_14, sX2_at_15, sX2_at_15n, sX2_at_19, sX2_at_25, sX2_at_32, sX2_at_32n, sX2_at_33, sX2_at_37, Option.some.injEq, Sum.inr.injEq, Sum.inl.injEq, Prod.mk.injEq, true_and, and_true, exists_eq_left', exists_eq_left, exists_eq_right, exists_eq_right', exists_and_left, exists_and_right, List.getElem?_cons_succ, List.getElem?_cons_zero, List.length_cons, List.length_nil, List.set_cons_zero, List.set_cons_succ, Option.toList_some, Option.toList_none, List.nil_append, List.cons_append, mj_up_s, true_or, or_true, Nat.sub_zero, and_assoc, b10, not_true_eq_false, not_false_eq_true, false_implies, true_implies, implies_true, eq_self, and_self, rf_some, rf_none]
      refine And.intro (fun c => absurd c (nI_pos t1)) (fun _ => ?_)
      refine sX2_at_16z hx rfl (m_length (by omega) (by show 113 ≤ w - 23; omega) hM hC hW j2 ?_)
      rw [hL]
      simp only [sX2_at_0, sX2_at_1, sX2_at_5, sX2_at_5n, sX2_at_6, sX2_at_6n, sX2_at_7, sX2_at_7n, sX2_at_10, sX2_at_11, sX2_at_14, sX2_at_15, sX2_at_15n, sX2_at_19, sX2_at_25, sX2_at_32, sX2_at_32n, sX2_at_33, sX2_at_37, Option.some.injEq, Sum.inr.injEq, Sum.inl.injEq, Prod.mk.injEq, true_and, and_true, exists_eq_left', exists_eq_left, exists_eq_right, exists_eq_right', exists_and_left, exists_and_right, List.getElem?_cons_succ, List.getElem?_cons_zero, List.length_cons, List.length_nil, List.set_cons_zero, List.set_cons_succ, Option.toList_some, Option.toList_none, List.nil_append, List.cons_append, mj_up_s, true_or, or_true, Nat.sub_zero, and_assoc, b10, not_true_eq_false, not_false_eq_true, false_implies, true_implies, implies_true, eq_self, and_self, rf_some, rf_none]
      refine And.intro (fun _ => ?_) (fun c => absurd hc.2.2 c)
      cases hp : S_pk S j with
      | zero =>
        rw [hp] at hx
        have e : S_size S j = some (S_sz S j) := if_pos hp
        rw [hL] at e; cases e
        have e2 : S_byte S j t = S_by S j t := if_pos hp
        rw [e2] at hQ
        refine sX2_at_34z hx rfl (c_ibyteO (by omega) (by show 21 ≤ w - 23; omega) hx how t4 w2 (by rw [hg t t4]; exact bS_narrow _) ?_)
        rw [hg t t4]
        simp only [sX2_at_0, sX2_at_1, sX2_at_5, sX2_at_5n, sX2_at_6, sX2_at_6n, sX2_at_7, sX2_at_7n, sX2_at_10, sX2_at_11, sX2_at_14, sX2_at_15, sX2_at_15n, sX2_at_19, sX2_at_25, sX2_at_32, sX2_at_32n, sX2_at_33, sX2_at_37, Option.some.injEq, Sum.inr.injEq, Sum.inl.injEq, Prod.mk.injEq, true_and, and_true, exists_eq_left', exists_eq_left, exists_eq_right, exists_eq_right', exists_and_left, exists_and_right, List.getElem?_cons_succ, List.getElem?_cons_zero, List.length_cons, List.length_nil, List.set_cons_zero, List.set_cons_succ, Option.toList_some, Option.toList_none, List.nil_append, List.cons_append, mj_up_s, true_or, or_true, Nat.sub_zero, and_assoc, b10, not_true_eq_false, not_false_eq_true, false_implies, true_implies, implies_true, eq_self, and_self, rf_some, rf_none, bS_narrow]
        exact hQ
      | succ p =>
        rw [hp] at hx
        have e : S_size S j = if S_th S p (S_ix S j) = true ∧ S_num S p (S_ix S j) 0 = j then S_cl S p (S_ix S j) else none := by
          unfold S_size; rw [if_neg (by omega), hp]; rfl
        rw [hL] at e
        split at e
        · have e2 : S_byte S j t = S_cb S p (S_ix S j) t := by unfold S_byte; rw [if_neg (by omega), hp]; rfl
          rw [e2] at hQ
          refine sX2_at_34z hx rfl (c_ibyteI (by omega) (by show 91 ≤ w - 23; omega) hx (hC.pk hM hW (by omega)) e.symm t4 ?_)
          simp only [sX2_at_0, sX2_at_1, sX2_at_5, sX2_at_5n, sX2_at_6, sX2_at_6n, sX2_at_7, sX2_at_7n, sX2_at_10, sX2_at_11, sX2_at_14, sX2_at_15, sX2_at_15n, sX2_at_19, sX2_at_25, sX2_at_32, sX2_at_32n, sX2_at_33, sX2_at_37, Option.some.injEq, Sum.inr.injEq, Sum.inl.injEq, Prod.mk.injEq, true_and, and_true, exists_eq_left', exists_eq_left, exists_eq_right, exists_eq_right', exists_and_left, exists_and_right, List.getElem?_cons_succ, List.getElem?_cons_zero, List.length_cons, List.length_nil, List.set_cons_zero, List.set_cons_succ, Option.toList_some, Option.toList_none, List.nil_append, List.cons_append, mj_up_s, true_or, or_true, Nat.sub_zero, and_assoc, b10, not_true_eq_false, not_false_eq_true, false_implies, true_implies, implies_true, eq_self, and_self, rf_some, rf_none, bS_narrow]
          exact hQ
        · cases e
  · cases ho
end
