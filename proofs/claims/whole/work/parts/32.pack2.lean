/-! ===== Pack: loops that only read ===== -/
def findN (P : Nat → Bool) : Nat → Nat → Option Nat
  | _, 0 => none
  | k, m + 1 => if P k = true then some k else findN P (k + 1) m
def oI (o : Option Nat) : Int32 := match o with
  | none => -1
  | some x => nI x
def S_isO (S : St) (p : Nat) (o : Int32) (k : Nat) : Bool := S_th S p k && decide (nI (S_num S p k 0) = o)
/-- the first PAIR that is THERE and of o -/
def S_fp (S : St) (p : Nat) (o : Int32) : Option Nat := findN (S_isO S p o) 0 (S_ct S p)
def S_at (S : St) (p k : Nat) : Nat := S_fs S p + S_num S p k 1
def S_s (S : St) (p k : Nat) : Nat := S_pb S p (S_at S p k)
def S_m (S : St) (p k : Nat) : Nat := S_pb S p (S_at S p k + 1)
/-- how long the CONTENT of PAIR k is, where that before has had bytes -/
def S_lb (S : St) (p k had : Nat) : Option Nat := if S_th S p k = true ∧ S_at S p k + 2 ≤ S_pz S p ∧ S_s S p k ≤ had ∧ S_at S p k + 2 + S_m S p k ≤ S_pz S p then some (S_s S p k + S_m S p k) else none
def S_cl (S : St) (p : Nat) : Nat → Option Nat
  | 0 => S_lb S p 0 0
  | k + 1 => S_lb S p (k + 1) ((S_cl S p k).getD 0)
/-- byte i of the CONTENT of PAIR k -/
def S_cb (S : St) (p : Nat) : Nat → Nat → Nat
  | 0, i => S_pb S p (S_at S p 0 + 2 + (i - S_s S p 0))
  | k + 1, i => if i < S_s S p (k + 1) then S_cb S p k i else S_pb S p (S_at S p (k + 1) + 2 + (i - S_s S p (k + 1)))
theorem S_num_lt {S : St} {p k wh : Nat} (hk : ∀ j, S_pb S p j < 256) : S_num S p k wh < 65536 := by
  have h1 := hk (4 * k + 2 * wh)
  have h2 := hk (4 * k + 2 * wh + 1)
  unfold S_num; omega
theorem S_lb_lt {S : St} {p k had x : Nat} (hk : ∀ j, S_pb S p j < 256) (h : S_lb S p k had = some x) : x ≤ 510 := by
  unfold S_lb at h
  split at h
  · cases h
    have h1 := hk (S_at S p k)
    have h2 := hk (S_at S p k + 1)
    unfold S_s S_m; omega
  · cases h
theorem S_cl_lt {S : St} {p k x : Nat} (hk : ∀ j, S_pb S p j < 256) (h : S_cl S p k = some x) : x ≤ 510 := by
  cases k with
  | zero => exact S_lb_lt hk h
  | succ k => exact S_lb_lt hk h
section
variable {f w : Nat} {Q : mj_Q} {h : mj_H} {n mc ms a p : Nat} {S : St}
set_option maxRecDepth 100000 in
theorem c_firstPairOf (hf : 3 ≤ f) (hw : 67 ≤ w) (hP : PK h a p S) {o : Int32} (hQ : Q (some (.int (oI (S_fp S p o)))) h n) : mj_bk f w 16 [.ref a, .int o] h n mc ms Q := by
  obtain ⟨q, g, b, ha, hq, hg, hok⟩ := id hP
  obtain ⟨k1, k2, k3, k4⟩ := hok
  refine mj_begin (by omega) (by decide) (by show 22 ≤ w; omega) rfl ?_
  show mj_W _ _ 16 mj_noZ Q 0 [.ref a, .int o, .retAddr 0] [] h n mc ms
  have loop : ∀ m k, k + m = S_ct S p → Q (some (.int (oI (findN (S_isO S p o) k m)))) h n → mj_W (f - 1) (w - (19 + mj_maxL 16)) 16 mj_noZ Q 2 [.ref a, .int o, .int (nI k)] [] h n mc ms := by
    intro m
    induction m with
    | zero =>
      intro k hk hQ
      rw [sX1_firstPairOf_2]
      simp only [sX1_firstPairOf_0, sX1_firstPairOf_1, sX1_firstPairOf_3, sX1_firstPairOf_4, sX1_firstPairOf_7, sX1_firstPairOf_10, sX1_firstPairOf_11, sX1_firstPairOf_15, sX1_firstPairOf_18, sX1_firstPairOf_19, sX1_firstPairOf_20, sX1_firstPairOf_24, sX1_firstPairOf_25, sX1_firstPairOf_28, sX1_firstPairOf_29, sX1_firstPairOf_30, sX1_firstPairOf_33, sX1_firstPairOf_36, sX1_firstPairOf_37, ha, Option.some.injEq, Sum.inr.injEq, Sum.inl.injEq, Prod.mk.injEq, true_and, and_true, exists_eq_left', exists_eq_left, exists_eq_right, exists_eq_right', exists_and_left, exists_and_right, List.getElem?_cons_succ, List.getElem?_cons_zero, List.length_cons, List.length_nil, List.set_cons_zero, List.set_cons_succ, Option.toList_some, Option.toList_none, List.nil_append, List.cons_append, mj_up_s, true_or, or_true, Nat.sub_zero, and_assoc, b10, not_true_eq_false, not_false_eq_true, false_implies, true_implies, implies_true, eq_self, and_self, rf_some, rf_none]
      refine And.intro (fun _ => hQ) (fun c => absurd (nI_le (by omega) (by omega)) c)
    | succ m ih =>
      intro k hk hQ
      rw [sX1_firstPairOf_2]
      simp only [sX1_firstPairOf_0, sX1_firstPairOf_1, sX1_firstPairOf_3, sX1_firstPairOf_4, sX1_firstPairOf_7, sX1_firstPairOf_10, sX1_firstPairOf_11, sX1_firstPairOf_15, sX1_firstPairOf_18, sX1_firstPairOf_19, sX1_firstPairOf_20, sX1_firstPairOf_24, sX1_firstPairOf_25, sX1_firstPairOf_28, sX1_firstPairOf_29, sX1_firstPairOf_30, sX1_firstPairOf_33, sX1_firstPairOf_36, sX1_firstPairOf_37, ha, Option.some.injEq, Sum.inr.injEq, Sum.inl.injEq, Prod.mk.injEq, true_and, and_true, exists_eq_left', exists_eq_left, exists_eq_right, exists_eq_right', exists_and_left, exists_and_right, List.getElem?_cons_succ, List.getElem?_cons_zero, List.length_cons, List.length_nil, List.set_cons_zero, List.set_cons_succ, Option.toList_some, Option.toList_none, List.nil_append, List.cons_append, mj_up_s, true_or, or_true, Nat.sub_zero, and_assoc, b10, not_true_eq_false, not_false_eq_true, false_implies, true_implies, implies_true, eq_self, and_self, rf_some, rf_none]
      refine And.intro (fun c => absurd c (nI_ge (by omega) (by omega))) (fun _ => ?_)
      refine sX1_firstPairOf_12z ha rfl (c_isThere (by omega) (by show 22 ≤ w - 22; omega) hP ?_)
      rw [S_thI_n (show k < 2147483648 by omega)]
      have e1 : nI k + 1 = nI (k + 1) := nI_1 k
      by_cases hc : S_th S p k = true
      · rw [if_pos hc]
        simp only [sX1_firstPairOf_0, sX1_firstPairOf_1, sX1_firstPairOf_3, sX1_firstPairOf_4, sX1_firstPairOf_7, sX1_firstPairOf_10, sX1_firstPairOf_11, sX1_firstPairOf_15, sX1_firstPairOf_18, sX1_firstPairOf_19, sX1_firstPairOf_20, sX1_firstPairOf_24, sX1_firstPairOf_25, sX1_firstPairOf_28, sX1_firstPairOf_29, sX1_firstPairOf_30, sX1_firstPairOf_33, sX1_firstPairOf_36, sX1_firstPairOf_37, ha, Option.some.injEq, Sum.inr.injEq, Sum.inl.injEq, Prod.mk.injEq, true_and, and_true, exists_eq_left', exists_eq_left, exists_eq_right, exists_eq_right', exists_and_left, exists_and_right, List.getElem?_cons_succ, List.getElem?_cons_zero, List.length_cons, List.length_nil, List.set_cons_zero, List.set_cons_succ, Option.toList_some, Option.toList_none, List.nil_append, List.cons_append, mj_up_s, true_or, or_true, Nat.sub_zero, and_assoc, b10, not_true_eq_false, not_false_eq_true, false_implies, true_implies, implies_true, eq_self, and_self, rf_some, rf_none]
        refine sX1_firstPairOf_21z ha rfl (c_numberOf (wh := 0) (by omega) (by show 45 ≤ w - 22; omega) hP (by omega) ?_)
        rw [S_thI_n (show k < 2147483648 by omega), if_pos hc, nI_cl (show k < 2147483648 by omega)]
        simp only [sX1_firstPairOf_0, sX1_firstPairOf_1, sX1_firstPairOf_3, sX1_firstPairOf_4, sX1_firstPairOf_7, sX1_firstPairOf_10, sX1_firstPairOf_11, sX1_firstPairOf_15, sX1_firstPairOf_18, sX1_firstPairOf_19, sX1_firstPairOf_20, sX1_firstPairOf_24, sX1_firstPairOf_25, sX1_firstPairOf_28, sX1_firstPairOf_29, sX1_firstPairOf_30, sX1_firstPairOf_33, sX1_firstPairOf_36, sX1_firstPairOf_37, ha, Option.some.injEq, Sum.inr.injEq, Sum.inl.injEq, Prod.mk.injEq, true_and, and_true, exists_eq_left', exists_eq_left, exists_eq_right, exists_eq_right', exists_and_left, exists_and_right, List.getElem?_cons_succ, List.getElem?_cons_zero, List.length_cons, List.length_nil, List.set_cons_zero, List.set_cons_succ, Option.toList_some, Option.toList_none, List.nil_append, List.cons_append, mj_up_s, true_or, or_true, Nat.sub_zero, and_assoc, b10, not_true_eq_false, not_false_eq_true, false_implies, true_implies, implies_true, eq_self, and_self, rf_some, rf_none, e1]
        by_cases ho : nI (S_num S p k 0) = o
        · have hi : S_isO S p o k = true := by simp [S_isO, hc, ho]
          simp only [findN, hi, if_true] at hQ
          exact And.intro (fun c => absurd ho c) (fun _ => hQ)
        · have hi : ¬ S_isO S p o k = true := by simp [S_isO, ho]
          simp only [findN, if_neg hi] at hQ
          exact And.intro (fun _ => ih (k + 1) (by omega) hQ) (fun c => absurd c (by simpa using ho))
      · rw [if_neg hc]
        have hi : ¬ S_isO S p o k = true := by simp [S_isO, hc]
        simp only [findN, if_neg hi] at hQ
        simp only [sX1_firstPairOf_0, sX1_firstPairOf_1, sX1_firstPairOf_3, sX1_firstPairOf_4, sX1_firstPairOf_7, sX1_firstPairOf_10, sX1_firstPairOf_11, sX1_firstPairOf_15, sX1_firstPairOf_18, sX1_firstPairOf_19, sX1_firstPairOf_20, sX1_firstPairOf_24, sX1_firstPairOf_25, sX1_firstPairOf_28, sX1_firstPairOf_29, sX1_firstPairOf_30, sX1_firstPairOf_33, sX1_firstPairOf_36, sX1_firstPairOf_37, ha, Option.some.injEq, Sum.inr.injEq, Sum.inl.injEq, Prod.mk.injEq, true_and, and_true, exists_eq_left', exists_eq_left, exists_eq_right, exists_eq_right', exists_and_left, exists_and_right, List.getElem?_cons_succ, List.getElem?_cons_zero, List.length_cons, List.length_nil, List.set_cons_zero, List.set_cons_succ, Option.toList_some, Option.toList_none, List.nil_append, List.cons_append, mj_up_s, true_or, or_true, Nat.sub_zero, and_assoc, b10, not_true_eq_false, not_false_eq_true, false_implies, true_implies, implies_true, eq_self, and_self, rf_some, rf_none, e1]
        exact ih (k + 1) (by omega) hQ
  simp only [sX1_firstPairOf_0, sX1_firstPairOf_1, sX1_firstPairOf_3, sX1_firstPairOf_4, sX1_firstPairOf_7, sX1_firstPairOf_10, sX1_firstPairOf_11, sX1_firstPairOf_15, sX1_firstPairOf_18, sX1_firstPairOf_19, sX1_firstPairOf_20, sX1_firstPairOf_24, sX1_firstPairOf_25, sX1_firstPairOf_28, sX1_firstPairOf_29, sX1_firstPairOf_30, sX1_firstPairOf_33, sX1_firstPairOf_36, sX1_firstPairOf_37, ha, Option.some.injEq, Sum.inr.injEq, Sum.inl.injEq, Prod.mk.injEq, true_and, and_true, exists_eq_left', exists_eq_left, exists_eq_right, exists_eq_right', exists_and_left, exists_and_right, List.getElem?_cons_succ, List.getElem?_cons_zero, List.length_cons, List.length_nil, List.set_cons_zero, List.set_cons_succ, Option.toList_some, Option.toList_none, List.nil_append, List.cons_append, mj_up_s, true_or, or_true, Nat.sub_zero, and_assoc, b10, not_true_eq_false, not_false_eq_true, false_implies, true_implies, implies_true, eq_self, and_self, rf_some, rf_none]
  exact loop (S_ct S p) 0 (by omega) hQ
set_option maxRecDepth 100000 in
set_option maxHeartbeats 1000000 in
theorem c_lengthBehind (hf : 3 ≤ f) (hw : 70 ≤ w) (hP : PK h a p S) {k : Nat} (hk : k < 1000) {bf : Option Nat} (hbf : bf.getD 0 ≤ 510) (hQ : Q (some (.int (oI (S_lb S p k (bf.getD 0))))) h n) : mj_bk f w 17 [.ref a, .int (nI k), .int (oI bf)] h n mc ms Q := by
  obtain ⟨q, g, b, ha, hq, hg, hok⟩ := id hP
  obtain ⟨k1, k2, k3, k4⟩ := hok
  refine mj_begin (by omega) (by decide) (by show 25 ≤ w; omega) rfl ?_
  show mj_W _ _ 17 mj_noZ Q 0 [.ref a, .int (nI k), .int (oI bf), .retAddr 0, .retAddr 0, .retAddr 0] [] h n mc ms
  simp only [sX1_lengthBehind_0, sX1_lengthBehind_1, sX1_lengthBehind_5, sX1_lengthBehind_8, sX1_lengthBehind_9, sX1_lengthBehind_10, sX1_lengthBehind_11, sX1_lengthBehind_14, sX1_lengthBehind_15, sX1_lengthBehind_16, sX1_lengthBehind_20, sX1_lengthBehind_21, sX1_lengthBehind_22, sX1_lengthBehind_23, sX1_lengthBehind_27, sX1_lengthBehind_30, sX1_lengthBehind_31, sX1_lengthBehind_32, sX1_lengthBehind_33, sX1_lengthBehind_37, sX1_lengthBehind_40, sX1_lengthBehind_41, sX1_lengthBehind_42, sX1_lengthBehind_43, sX1_lengthBehind_47, sX1_lengthBehind_50, sX1_lengthBehind_51, sX1_lengthBehind_53, sX1_lengthBehind_54, sX1_lengthBehind_55, sX1_lengthBehind_56, sX1_lengthBehind_60, sX1_lengthBehind_63, sX1_lengthBehind_64, sX1_lengthBehind_66, sX1_lengthBehind_68, sX1_lengthBehind_69, sX1_lengthBehind_73, sX1_lengthBehind_76, sX1_lengthBehind_77, sX1_lengthBehind_78, sX1_lengthBehind_79, sX1_lengthBehind_81, sX1_lengthBehind_82, sX1_lengthBehind_83, sX1_lengthBehind_86, sX1_lengthBehind_89, sX1_lengthBehind_90, sX1_lengthBehind_91, sX1_lengthBehind_93, sX1_lengthBehind_95, sX1_lengthBehind_96, ha, Option.some.injEq, Sum.inr.injEq, Sum.inl.injEq, Prod.mk.injEq, true_and, and_true, exists_eq_left', exists_eq_left, exists_eq_right, exists_eq_right', exists_and_left, exists_and_right, List.getElem?_cons_succ, List.getElem?_cons_zero, List.length_cons, List.length_nil, List.set_cons_zero, List.set_cons_succ, Option.toList_some, Option.toList_none, List.nil_append, List.cons_append, mj_up_s, true_or, or_true, Nat.sub_zero, and_assoc, b10, not_true_eq_false, not_false_eq_true, false_implies, true_implies, implies_true, eq_self, and_self, rf_some, rf_none]
  refine sX1_lengthBehind_2z ha rfl (c_isThere (by omega) (by show 22 ≤ w - 25; omega) hP ?_)
  rw [S_thI_n (show k < 2147483648 by omega)]
  by_cases hc : S_th S p k = true
  · rw [if_pos hc]
    simp only [sX1_lengthBehind_0, sX1_lengthBehind_1, sX1_lengthBehind_5, sX1_lengthBehind_8, sX1_lengthBehind_9, sX1_lengthBehind_10, sX1_lengthBehind_11, sX1_lengthBehind_14, sX1_lengthBehind_15, sX1_lengthBehind_16, sX1_lengthBehind_20, sX1_lengthBehind_21, sX1_lengthBehind_22, sX1_lengthBehind_23, sX1_lengthBehind_27, sX1_lengthBehind_30, sX1_lengthBehind_31, sX1_lengthBehind_32, sX1_lengthBehind_33, sX1_lengthBehind_37, sX1_lengthBehind_40, sX1_lengthBehind_41, sX1_lengthBehind_42, sX1_lengthBehind_43, sX1_lengthBehind_47, sX1_lengthBehind_50, sX1_lengthBehind_51, sX1_lengthBehind_53, sX1_lengthBehind_54, sX1_lengthBehind_55, sX1_lengthBehind_56, sX1_lengthBehind_60, sX1_lengthBehind_63, sX1_lengthBehind_64, sX1_lengthBehind_66, sX1_lengthBehind_68, sX1_lengthBehind_69, sX1_lengthBehind_73, sX1_lengthBehind_76, sX1_lengthBehind_77, sX1_lengthBehind_78, sX1_lengthBehind_79, sX1_lengthBehind_81, sX1_lengthBehind_82, sX1_lengthBehind_83, sX1_lengthBehind_86, sX1_lengthBehind_89, sX1_lengthBehind_90, sX1_lengthBehind_91, sX1_lengthBehind_93, sX1_lengthBehind_95, sX1_lengthBehind_96, ha, Option.some.injEq, Sum.inr.injEq, Sum.inl.injEq, Prod.mk.injEq, true_and, and_true, exists_eq_left', exists_eq_left, exists_eq_right, exists_eq_right', exists_and_left, exists_and_right, List.getElem?_cons_succ, List.getElem?_cons_zero, List.length_cons, List.length_nil, List.set_cons_zero, List.set_cons_succ, Option.toList_some, Option.toList_none, List.nil_append, List.cons_append, mj_up_s, true_or, or_true, Nat.sub_zero, and_assoc, b10, not_true_eq_false, not_false_eq_true, false_implies, true_implies, implies_true, eq_self, and_self, rf_some, rf_none]
    refine sX1_lengthBehind_17z ha rfl (c_numberOf (wh := 1) (by omega) (by show 45 ≤ w - 25; omega) hP (by omega) ?_)
    have hn := S_num_lt (S := S) (p := p) (k := k) (wh := 1) k4
    rw [S_thI_n (show k < 2147483648 by omega), if_pos hc, nI_cl (show k < 2147483648 by omega)]
    have e1 : nI (S_fs S p) + nI (S_num S p k 1) = nI (S_at S p k) := nI_add _ _
    have hat : S_at S p k < 70000 := by unfold S_at; omega
    simp only [sX1_lengthBehind_0, sX1_lengthBehind_1, sX1_lengthBehind_5, sX1_lengthBehind_8, sX1_lengthBehind_9, sX1_lengthBehind_10, sX1_lengthBehind_11, sX1_lengthBehind_14, sX1_lengthBehind_15, sX1_lengthBehind_16, sX1_lengthBehind_20, sX1_lengthBehind_21, sX1_lengthBehind_22, sX1_lengthBehind_23, sX1_lengthBehind_27, sX1_lengthBehind_30, sX1_lengthBehind_31, sX1_lengthBehind_32, sX1_lengthBehind_33, sX1_lengthBehind_37, sX1_lengthBehind_40, sX1_lengthBehind_41, sX1_lengthBehind_42, sX1_lengthBehind_43, sX1_lengthBehind_47, sX1_lengthBehind_50, sX1_lengthBehind_51, sX1_lengthBehind_53, sX1_lengthBehind_54, sX1_lengthBehind_55, sX1_lengthBehind_56, sX1_lengthBehind_60, sX1_lengthBehind_63, sX1_lengthBehind_64, sX1_lengthBehind_66, sX1_lengthBehind_68, sX1_lengthBehind_69, sX1_lengthBehind_73, sX1_lengthBehind_76, sX1_lengthBehind_77, sX1_lengthBehind_78, sX1_lengthBehind_79, sX1_lengthBehind_81, sX1_lengthBehind_82, sX1_lengthBehind_83, sX1_lengthBehind_86, sX1_lengthBehind_89, sX1_lengthBehind_90, sX1_lengthBehind_91, sX1_lengthBehind_93, sX1_lengthBehind_95, sX1_lengthBehind_96, ha, Option.some.injEq, Sum.inr.injEq, Sum.inl.injEq, Prod.mk.injEq, true_and, and_true, exists_eq_left', exists_eq_left, exists_eq_right, exists_eq_right', exists_and_left, exists_and_right, List.getElem?_cons_succ, List.getElem?_cons_zero, List.length_cons, List.length_nil, List.set_cons_zero, List.set_cons_succ, Option.toList_some, Option.toList_none, List.nil_append, List.cons_append, mj_up_s, true_or, or_true, Nat.sub_zero, and_assoc, b10, not_true_eq_false, not_false_eq_true, false_implies, true_implies, implies_true, eq_self, and_self, rf_some, rf_none, e1]
    refine sX1_lengthBehind_24z ha rfl (c_holds (by omega) (by show 21 ≤ w - 25; omega) hP ?_)
    simp only [hold_n (show S_at S p k < 2147483648 by omega) (show S_pz S p < 2147483648 by omega)]
    by_cases h1 : S_at S p k < S_pz S p
    · rw [if_pos h1]
      simp only [sX1_lengthBehind_0, sX1_lengthBehind_1, sX1_lengthBehind_5, sX1_lengthBehind_8, sX1_lengthBehind_9, sX1_lengthBehind_10, sX1_lengthBehind_11, sX1_lengthBehind_14, sX1_lengthBehind_15, sX1_lengthBehind_16, sX1_lengthBehind_20, sX1_lengthBehind_21, sX1_lengthBehind_22, sX1_lengthBehind_23, sX1_lengthBehind_27, sX1_lengthBehind_30, sX1_lengthBehind_31, sX1_lengthBehind_32, sX1_lengthBehind_33, sX1_lengthBehind_37, sX1_lengthBehind_40, sX1_lengthBehind_41, sX1_lengthBehind_42, sX1_lengthBehind_43, sX1_lengthBehind_47, sX1_lengthBehind_50, sX1_lengthBehind_51, sX1_lengthBehind_53, sX1_lengthBehind_54, sX1_lengthBehind_55, sX1_lengthBehind_56, sX1_lengthBehind_60, sX1_lengthBehind_63, sX1_lengthBehind_64, sX1_lengthBehind_66, sX1_lengthBehind_68, sX1_lengthBehind_69, sX1_lengthBehind_73, sX1_lengthBehind_76, sX1_lengthBehind_77, sX1_lengthBehind_78, sX1_lengthBehind_79, sX1_lengthBehind_81, sX1_lengthBehind_82, sX1_lengthBehind_83, sX1_lengthBehind_86, sX1_lengthBehind_89, sX1_lengthBehind_90, sX1_lengthBehind_91, sX1_lengthBehind_93, sX1_lengthBehind_95, sX1_lengthBehind_96, ha, Option.some.injEq, Sum.inr.injEq, Sum.inl.injEq, Prod.mk.injEq, true_and, and_true, exists_eq_left', exists_eq_left, exists_eq_right, exists_eq_right', exists_and_left, exists_and_right, List.getElem?_cons_succ, List.getElem?_cons_zero, List.length_cons, List.length_nil, List.set_cons_zero, List.set_cons_succ, Option.toList_some, Option.toList_none, List.nil_append, List.cons_append, mj_up_s, true_or, or_true, Nat.sub_zero, and_assoc, b10, not_true_eq_false, not_false_eq_true, false_implies, true_implies, implies_true, eq_self, and_self, rf_some, rf_none]
      have e2 : nI (S_at S p k) + 1 = nI (S_at S p k + 1) := nI_1 _
      rw [e2]
      refine sX1_lengthBehind_34z ha rfl (c_holds (by omega) (by show 21 ≤ w - 25; omega) hP ?_)
      simp only [hold_n (show S_at S p k + 1 < 2147483648 by omega) (show S_pz S p < 2147483648 by omega)]
      by_cases h2 : S_at S p k + 1 < S_pz S p
      · rw [if_pos h2]
        simp only [sX1_lengthBehind_0, sX1_lengthBehind_1, sX1_lengthBehind_5, sX1_lengthBehind_8, sX1_lengthBehind_9, sX1_lengthBehind_10, sX1_lengthBehind_11, sX1_lengthBehind_14, sX1_lengthBehind_15, sX1_lengthBehind_16, sX1_lengthBehind_20, sX1_lengthBehind_21, sX1_lengthBehind_22, sX1_lengthBehind_23, sX1_lengthBehind_27, sX1_lengthBehind_30, sX1_lengthBehind_31, sX1_lengthBehind_32, sX1_lengthBehind_33, sX1_lengthBehind_37, sX1_lengthBehind_40, sX1_lengthBehind_41, sX1_lengthBehind_42, sX1_lengthBehind_43, sX1_lengthBehind_47, sX1_lengthBehind_50, sX1_lengthBehind_51, sX1_lengthBehind_53, sX1_lengthBehind_54, sX1_lengthBehind_55, sX1_lengthBehind_56, sX1_lengthBehind_60, sX1_lengthBehind_63, sX1_lengthBehind_64, sX1_lengthBehind_66, sX1_lengthBehind_68, sX1_lengthBehind_69, sX1_lengthBehind_73, sX1_lengthBehind_76, sX1_lengthBehind_77, sX1_lengthBehind_78, sX1_lengthBehind_79, sX1_lengthBehind_81, sX1_lengthBehind_82, sX1_lengthBehind_83, sX1_lengthBehind_86, sX1_lengthBehind_89, sX1_lengthBehind_90, sX1_lengthBehind_91, sX1_lengthBehind_93, sX1_lengthBehind_95, sX1_lengthBehind_96, ha, Option.some.injEq, Sum.inr.injEq, Sum.inl.injEq, Prod.mk.injEq, true_and, and_true, exists_eq_left', exists_eq_left, exists_eq_right, exists_eq_right', exists_and_left, exists_and_right, List.getElem?_cons_succ, List.getElem?_cons_zero, List.length_cons, List.length_nil, List.set_cons_zero, List.set_cons_succ, Option.toList_some, Option.toList_none, List.nil_append, List.cons_append, mj_up_s, true_or, or_true, Nat.sub_zero, and_assoc, b10, not_true_eq_false, not_false_eq_true, false_implies, true_implies, implies_true, eq_self, and_self, rf_some, rf_none]
        refine sX1_lengthBehind_44z ha rfl (c_byteAt (by omega) (by show 42 ≤ w - 25; omega) hP (by omega) ?_)
        rw [if_pos h1]
        simp only [sX1_lengthBehind_0, sX1_lengthBehind_1, sX1_lengthBehind_5, sX1_lengthBehind_8, sX1_lengthBehind_9, sX1_lengthBehind_10, sX1_lengthBehind_11, sX1_lengthBehind_14, sX1_lengthBehind_15, sX1_lengthBehind_16, sX1_lengthBehind_20, sX1_lengthBehind_21, sX1_lengthBehind_22, sX1_lengthBehind_23, sX1_lengthBehind_27, sX1_lengthBehind_30, sX1_lengthBehind_31, sX1_lengthBehind_32, sX1_lengthBehind_33, sX1_lengthBehind_37, sX1_lengthBehind_40, sX1_lengthBehind_41, sX1_lengthBehind_42, sX1_lengthBehind_43, sX1_lengthBehind_47, sX1_lengthBehind_50, sX1_lengthBehind_51, sX1_lengthBehind_53, sX1_lengthBehind_54, sX1_lengthBehind_55, sX1_lengthBehind_56, sX1_lengthBehind_60, sX1_lengthBehind_63, sX1_lengthBehind_64, sX1_lengthBehind_66, sX1_lengthBehind_68, sX1_lengthBehind_69, sX1_lengthBehind_73, sX1_lengthBehind_76, sX1_lengthBehind_77, sX1_lengthBehind_78, sX1_lengthBehind_79, sX1_lengthBehind_81, sX1_lengthBehind_82, sX1_lengthBehind_83, sX1_lengthBehind_86, sX1_lengthBehind_89, sX1_lengthBehind_90, sX1_lengthBehind_91, sX1_lengthBehind_93, sX1_lengthBehind_95, sX1_lengthBehind_96, ha, Option.some.injEq, Sum.inr.injEq, Sum.inl.injEq, Prod.mk.injEq, true_and, and_true, exists_eq_left', exists_eq_left, exists_eq_right, exists_eq_right', exists_and_left, exists_and_right, List.getElem?_cons_succ, List.getElem?_cons_zero, List.length_cons, List.length_nil, List.set_cons_zero, List.set_cons_succ, Option.toList_some, Option.toList_none, List.nil_append, List.cons_append, mj_up_s, true_or, or_true, Nat.sub_zero, and_assoc, b10, not_true_eq_false, not_false_eq_true, false_implies, true_implies, implies_true, eq_self, and_self, rf_some, rf_none, e2, bS_and _ (k4 _)]
        refine sX1_lengthBehind_57z ha rfl (c_byteAt (by omega) (by show 42 ≤ w - 25; omega) hP (by omega) ?_)
        rw [if_pos h2]
        have b1 : S_s S p k < 256 := k4 _
        have b2 : S_m S p k < 256 := k4 _
        simp only [sX1_lengthBehind_0, sX1_lengthBehind_1, sX1_lengthBehind_5, sX1_lengthBehind_8, sX1_lengthBehind_9, sX1_lengthBehind_10, sX1_lengthBehind_11, sX1_lengthBehind_14, sX1_lengthBehind_15, sX1_lengthBehind_16, sX1_lengthBehind_20, sX1_lengthBehind_21, sX1_lengthBehind_22, sX1_lengthBehind_23, sX1_lengthBehind_27, sX1_lengthBehind_30, sX1_lengthBehind_31, sX1_lengthBehind_32, sX1_lengthBehind_33, sX1_lengthBehind_37, sX1_lengthBehind_40, sX1_lengthBehind_41, sX1_lengthBehind_42, sX1_lengthBehind_43, sX1_lengthBehind_47, sX1_lengthBehind_50, sX1_lengthBehind_51, sX1_lengthBehind_53, sX1_lengthBehind_54, sX1_lengthBehind_55, sX1_lengthBehind_56, sX1_lengthBehind_60, sX1_lengthBehind_63, sX1_lengthBehind_64, sX1_lengthBehind_66, sX1_lengthBehind_68, sX1_lengthBehind_69, sX1_lengthBehind_73, sX1_lengthBehind_76, sX1_lengthBehind_77, sX1_lengthBehind_78, sX1_lengthBehind_79, sX1_lengthBehind_81, sX1_lengthBehind_82, sX1_lengthBehind_83, sX1_lengthBehind_86, sX1_lengthBehind_89, sX1_lengthBehind_90, sX1_lengthBehind_91, sX1_lengthBehind_93, sX1_lengthBehind_95, sX1_lengthBehind_96, ha, Option.some.injEq, Sum.inr.injEq, Sum.inl.injEq, Prod.mk.injEq, true_and, and_true, exists_eq_left', exists_eq_left, exists_eq_right, exists_eq_right', exists_and_left, exists_and_right, List.getElem?_cons_succ, List.getElem?_cons_zero, List.length_cons, List.length_nil, List.set_cons_zero, List.set_cons_succ, Option.toList_some, Option.toList_none, List.nil_append, List.cons_append, mj_up_s, true_or, or_true, Nat.sub_zero, and_assoc, b10, not_true_eq_false, not_false_eq_true, false_implies, true_implies, implies_true, eq_self, and_self, rf_some, rf_none, bS_and _ (k4 _)]
        refine sX1_lengthBehind_70 (by omega) (by simp [Value.category, mj_maxL]; omega) ?_
        have e3 : (if oI bf < 0 then (0 : Int32) else oI bf) = nI (bf.getD 0) := by
          cases bf with
          | none => rfl
          | some x =>
            have : ¬ nI x < 0 := nI_pos (by simp at hbf; omega)
            simp [oI, this]
        rw [e3]
        simp only [sX1_lengthBehind_0, sX1_lengthBehind_1, sX1_lengthBehind_5, sX1_lengthBehind_8, sX1_lengthBehind_9, sX1_lengthBehind_10, sX1_lengthBehind_11, sX1_lengthBehind_14, sX1_lengthBehind_15, sX1_lengthBehind_16, sX1_lengthBehind_20, sX1_lengthBehind_21, sX1_lengthBehind_22, sX1_lengthBehind_23, sX1_lengthBehind_27, sX1_lengthBehind_30, sX1_lengthBehind_31, sX1_lengthBehind_32, sX1_lengthBehind_33, sX1_lengthBehind_37, sX1_lengthBehind_40, sX1_lengthBehind_41, sX1_lengthBehind_42, sX1_lengthBehind_43, sX1_lengthBehind_47, sX1_lengthBehind_50, sX1_lengthBehind_51, sX1_lengthBehind_53, sX1_lengthBehind_54, sX1_lengthBehind_55, sX1_lengthBehind_56, sX1_lengthBehind_60, sX1_lengthBehind_63, sX1_lengthBehind_64, sX1_lengthBehind_66, sX1_lengthBehind_68, sX1_lengthBehind_69, sX1_lengthBehind_73, sX1_lengthBehind_76, sX1_lengthBehind_77, sX1_lengthBehind_78, sX1_lengthBehind_79, sX1_lengthBehind_81, sX1_lengthBehind_82, sX1_lengthBehind_83, sX1_lengthBehind_86, sX1_lengthBehind_89, sX1_lengthBehind_90, sX1_lengthBehind_91, sX1_lengthBehind_93, sX1_lengthBehind_95, sX1_lengthBehind_96, ha, Option.some.injEq, Sum.inr.injEq, Sum.inl.injEq, Prod.mk.injEq, true_and, and_true, exists_eq_left', exists_eq_left, exists_eq_right, exists_eq_right', exists_and_left, exists_and_right, List.getElem?_cons_succ, List.getElem?_cons_zero, List.length_cons, List.length_nil, List.set_cons_zero, List.set_cons_succ, Option.toList_some, Option.toList_none, List.nil_append, List.cons_append, mj_up_s, true_or, or_true, Nat.sub_zero, and_assoc, b10, not_true_eq_false, not_false_eq_true, false_implies, true_implies, implies_true, eq_self, and_self, rf_some, rf_none]
        have e4 : nI (S_at S p k) + 2 + nI (S_pb S p (S_at S p k + 1)) = nI (S_at S p k + 2 + S_m S p k) := by
          rw [show (2 : Int32) = nI 2 from rfl, nI_add, nI_add]; rfl
        have e5 : nI (S_pb S p (S_at S p k)) + nI (S_pb S p (S_at S p k + 1)) = nI (S_s S p k + S_m S p k) := nI_add _ _
        rw [e4, e5]
        have z1 := nI_tI (n := bf.getD 0) (by omega)
        have z2 := nI_tI (n := S_s S p k) (by omega)
        have z3 := nI_tI (n := S_at S p k + 2 + S_m S p k) (by omega)
        have z4 := nI_tI (n := S_pz S p) (by omega)
        have z5 : (nI (S_pb S p (S_at S p k))).toInt = (S_s S p k : Int) := z2
        clear e3 e4 e5
        change (nI (bf.getD 0) < nI (S_s S p k) → _) ∧ _
        by_cases h3 : S_s S p k ≤ bf.getD 0 ∧ S_at S p k + 2 + S_m S p k ≤ S_pz S p
        · have e6 : S_lb S p k (bf.getD 0) = some (S_s S p k + S_m S p k) := if_pos ⟨hc, by omega, h3.1, h3.2⟩
          rw [e6] at hQ
          refine And.intro (fun c => ?_) (fun _ => And.intro (fun _ => hQ) (fun c => ?_))
          · exfalso; clear hQ ha hq hg; (simp only [Int32.le_iff_toInt_le, Int32.lt_iff_toInt_lt, i32_eq, i32_0, i32_m1, i32_600, i32_60, i32_20, i32_99, i32_10, i32_1, i32_2] at *; omega)
          · exfalso; clear hQ ha hq hg; (simp only [Int32.le_iff_toInt_le, Int32.lt_iff_toInt_lt, i32_eq, i32_0, i32_m1, i32_600, i32_60, i32_20, i32_99, i32_10, i32_1, i32_2] at *; omega)
        · have e6 : S_lb S p k (bf.getD 0) = none := if_neg (fun c => h3 ⟨c.2.2.1, c.2.2.2⟩)
          rw [e6] at hQ
          refine And.intro (fun _ => hQ) (fun c1 => And.intro (fun c2 => ?_) (fun _ => hQ))
          exfalso; clear hQ ha hq hg; (simp only [Int32.le_iff_toInt_le, Int32.lt_iff_toInt_lt, i32_eq, i32_0, i32_m1, i32_600, i32_60, i32_20, i32_99, i32_10, i32_1, i32_2] at *; omega)
      · rw [if_neg h2]
        have e6 : S_lb S p k (bf.getD 0) = none := if_neg (fun c => by omega)
        rw [e6] at hQ
        simp only [sX1_lengthBehind_0, sX1_lengthBehind_1, sX1_lengthBehind_5, sX1_lengthBehind_8, sX1_lengthBehind_9, sX1_lengthBehind_10, sX1_lengthBehind_11, sX1_lengthBehind_14, sX1_lengthBehind_15, sX1_lengthBehind_16, sX1_lengthBehind_20, sX1_lengthBehind_21, sX1_lengthBehind_22, sX1_lengthBehind_23, sX1_lengthBehind_27, sX1_lengthBehind_30, sX1_lengthBehind_31, sX1_lengthBehind_32, sX1_lengthBehind_33, sX1_lengthBehind_37, sX1_lengthBehind_40, sX1_lengthBehind_41, sX1_lengthBehind_42, sX1_lengthBehind_43, sX1_lengthBehind_47, sX1_lengthBehind_50, sX1_lengthBehind_51, sX1_lengthBehind_53, sX1_lengthBehind_54, sX1_lengthBehind_55, sX1_lengthBehind_56, sX1_lengthBehind_60, sX1_lengthBehind_63, sX1_lengthBehind_64, sX1_lengthBehind_66, sX1_lengthBehind_68, sX1_lengthBehind_69, sX1_lengthBehind_73, sX1_lengthBehind_76, sX1_lengthBehind_77, sX1_lengthBehind_78, sX1_lengthBehind_79, sX1_lengthBehind_81, sX1_lengthBehind_82, sX1_lengthBehind_83, sX1_lengthBehind_86, sX1_lengthBehind_89, sX1_lengthBehind_90, sX1_lengthBehind_91, sX1_lengthBehind_93, sX1_lengthBehind_95, sX1_lengthBehind_96, ha, Option.some.injEq, Sum.inr.injEq, Sum.inl.injEq, Prod.mk.injEq, true_and, and_true, exists_eq_left', exists_eq_left, exists_eq_right, exists_eq_right', exists_and_left, exists_and_right, List.getElem?_cons_succ, List.getElem?_cons_zero, List.length_cons, List.length_nil, List.set_cons_zero, List.set_cons_succ, Option.toList_some, Option.toList_none, List.nil_append, List.cons_append, mj_up_s, true_or, or_true, Nat.sub_zero, and_assoc, b10, not_true_eq_false, not_false_eq_true, false_implies, true_implies, implies_true, eq_self, and_self, rf_some, rf_none]
        exact hQ
    · rw [if_neg h1]
      have e6 : S_lb S p k (bf.getD 0) = none := if_neg (fun c => by omega)
      rw [e6] at hQ
      simp only [sX1_lengthBehind_0, sX1_lengthBehind_1, sX1_lengthBehind_5, sX1_lengthBehind_8, sX1_lengthBehind_9, sX1_lengthBehind_10, sX1_lengthBehind_11, sX1_lengthBehind_14, sX1_lengthBehind_15, sX1_lengthBehind_16, sX1_lengthBehind_20, sX1_lengthBehind_21, sX1_lengthBehind_22, sX1_lengthBehind_23, sX1_lengthBehind_27, sX1_lengthBehind_30, sX1_lengthBehind_31, sX1_lengthBehind_32, sX1_lengthBehind_33, sX1_lengthBehind_37, sX1_lengthBehind_40, sX1_lengthBehind_41, sX1_lengthBehind_42, sX1_lengthBehind_43, sX1_lengthBehind_47, sX1_lengthBehind_50, sX1_lengthBehind_51, sX1_lengthBehind_53, sX1_lengthBehind_54, sX1_lengthBehind_55, sX1_lengthBehind_56, sX1_lengthBehind_60, sX1_lengthBehind_63, sX1_lengthBehind_64, sX1_lengthBehind_66, sX1_lengthBehind_68, sX1_lengthBehind_69, sX1_lengthBehind_73, sX1_lengthBehind_76, sX1_lengthBehind_77, sX1_lengthBehind_78, sX1_lengthBehind_79, sX1_lengthBehind_81, sX1_lengthBehind_82, sX1_lengthBehind_83, sX1_lengthBehind_86, sX1_lengthBehind_89, sX1_lengthBehind_90, sX1_lengthBehind_91, sX1_lengthBehind_93, sX1_lengthBehind_95, sX1_lengthBehind_96, ha, Option.some.injEq, Sum.inr.injEq, Sum.inl.injEq, Prod.mk.injEq, true_and, and_true, exists_eq_left', exists_eq_left, exists_eq_right, exists_eq_right', exists_and_left, exists_and_right, List.getElem?_cons_succ, List.getElem?_cons_zero, List.length_cons, List.length_nil, List.set_cons_zero, List.set_cons_succ, Option.toList_some, Option.toList_none, List.nil_append, List.cons_append, mj_up_s, true_or, or_true, Nat.sub_zero, and_assoc, b10, not_true_eq_false, not_false_eq_true, false_implies, true_implies, implies_true, eq_self, and_self, rf_some, rf_none]
      exact hQ
  · rw [if_neg hc]
    have e6 : S_lb S p k (bf.getD 0) = none := if_neg (fun c => hc c.1)
    rw [e6] at hQ
    simp only [sX1_lengthBehind_0, sX1_lengthBehind_1, sX1_lengthBehind_5, sX1_lengthBehind_8, sX1_lengthBehind_9, sX1_lengthBehind_10, sX1_lengthBehind_11, sX1_lengthBehind_14, sX1_lengthBehind_15, sX1_lengthBehind_16, sX1_lengthBehind_20, sX1_lengthBehind_21, sX1_lengthBehind_22, sX1_lengthBehind_23, sX1_lengthBehind_27, sX1_lengthBehind_30, sX1_lengthBehind_31, sX1_lengthBehind_32, sX1_lengthBehind_33, sX1_lengthBehind_37, sX1_lengthBehind_40, sX1_lengthBehind_41, sX1_lengthBehind_42, sX1_lengthBehind_43, sX1_lengthBehind_47, sX1_lengthBehind_50, sX1_lengthBehind_51, sX1_lengthBehind_53, sX1_lengthBehind_54, sX1_lengthBehind_55, sX1_lengthBehind_56, sX1_lengthBehind_60, sX1_lengthBehind_63, sX1_lengthBehind_64, sX1_lengthBehind_66, sX1_lengthBehind_68, sX1_lengthBehind_69, sX1_lengthBehind_73, sX1_lengthBehind_76, sX1_lengthBehind_77, sX1_lengthBehind_78, sX1_lengthBehind_79, sX1_lengthBehind_81, sX1_lengthBehind_82, sX1_lengthBehind_83, sX1_lengthBehind_86, sX1_lengthBehind_89, sX1_lengthBehind_90, sX1_lengthBehind_91, sX1_lengthBehind_93, sX1_lengthBehind_95, sX1_lengthBehind_96, ha, Option.some.injEq, Sum.inr.injEq, Sum.inl.injEq, Prod.mk.injEq, true_and, and_true, exists_eq_left', exists_eq_left, exists_eq_right, exists_eq_right', exists_and_left, exists_and_right, List.getElem?_cons_succ, List.getElem?_cons_zero, List.length_cons, List.length_nil, List.set_cons_zero, List.set_cons_succ, Option.toList_some, Option.toList_none, List.nil_append, List.cons_append, mj_up_s, true_or, or_true, Nat.sub_zero, and_assoc, b10, not_true_eq_false, not_false_eq_true, false_implies, true_implies, implies_true, eq_self, and_self, rf_some, rf_none]
    exact hQ
set_option maxRecDepth 100000 in
theorem c_contentLength (hf : 4 ≤ f) (hw : 93 ≤ w) (hP : PK h a p S) {k : Int32} (hQ : Q (some (.int (if S_thI S p k = true then oI (S_cl S p k.toNatClampNeg) else -1))) h n) : mj_bk f w 18 [.ref a, .int k] h n mc ms Q := by
  obtain ⟨q, g, b, ha, hq, hg, hok⟩ := id hP
  obtain ⟨k1, k2, k3, k4⟩ := hok
  refine mj_begin (by omega) (by decide) (by show 23 ≤ w; omega) rfl ?_
  show mj_W _ _ 18 mj_noZ Q 0 [.ref a, .int k, .retAddr 0, .retAddr 0] [] h n mc ms
  simp only [sX1_contentLength_0, sX1_contentLength_1, sX1_contentLength_5, sX1_contentLength_8, sX1_contentLength_9, sX1_contentLength_10, sX1_contentLength_11, sX1_contentLength_12, sX1_contentLength_13, sX1_contentLength_15, sX1_contentLength_16, sX1_contentLength_19, sX1_contentLength_20, sX1_contentLength_21, sX1_contentLength_24, sX1_contentLength_27, sX1_contentLength_28, sX1_contentLength_29, sX1_contentLength_33, sX1_contentLength_34, sX1_contentLength_37, sX1_contentLength_40, sX1_contentLength_41, ha, Option.some.injEq, Sum.inr.injEq, Sum.inl.injEq, Prod.mk.injEq, true_and, and_true, exists_eq_left', exists_eq_left, exists_eq_right, exists_eq_right', exists_and_left, exists_and_right, List.getElem?_cons_succ, List.getElem?_cons_zero, List.length_cons, List.length_nil, List.set_cons_zero, List.set_cons_succ, Option.toList_some, Option.toList_none, List.nil_append, List.cons_append, mj_up_s, true_or, or_true, Nat.sub_zero, and_assoc, b10, not_true_eq_false, not_false_eq_true, false_implies, true_implies, implies_true, eq_self, and_self, rf_some, rf_none]
  refine sX1_contentLength_2z ha rfl (c_isThere (by omega) (by show 22 ≤ w - 23; omega) hP ?_)
  by_cases hc : S_thI S p k = true
  · rw [if_pos hc] at hQ ⊢
    obtain ⟨j, rfl, j1, j2⟩ := S_thI_iff.mp hc
    rw [nI_cl j1] at hQ
    obtain ⟨j3, j4, j5⟩ := S_th_iff.mp j2
    have hc1 : S_ct S p < 2147483648 := by omega
    have loop : ∀ m i bf, i + m = j + 1 → (i = 0 ∧ bf = none ∨ ∃ t, i = t + 1 ∧ bf = S_cl S p t) → mj_W (f - 1) (w - (19 + mj_maxL 18)) 18 mj_noZ Q 14 [.ref a, .int (nI j), .int (oI bf), .int (nI i)] [] h n mc ms := by
      intro m
      induction m with
      | zero =>
        intro i bf hi hb
        rw [sX1_contentLength_14]
        simp only [sX1_contentLength_0, sX1_contentLength_1, sX1_contentLength_5, sX1_contentLength_8, sX1_contentLength_9, sX1_contentLength_10, sX1_contentLength_11, sX1_contentLength_12, sX1_contentLength_13, sX1_contentLength_15, sX1_contentLength_16, sX1_contentLength_19, sX1_contentLength_20, sX1_contentLength_21, sX1_contentLength_24, sX1_contentLength_27, sX1_contentLength_28, sX1_contentLength_29, sX1_contentLength_33, sX1_contentLength_34, sX1_contentLength_37, sX1_contentLength_40, sX1_contentLength_41, ha, Option.some.injEq, Sum.inr.injEq, Sum.inl.injEq, Prod.mk.injEq, true_and, and_true, exists_eq_left', exists_eq_left, exists_eq_right, exists_eq_right', exists_and_left, exists_and_right, List.getElem?_cons_succ, List.getElem?_cons_zero, List.length_cons, List.length_nil, List.set_cons_zero, List.set_cons_succ, Option.toList_some, Option.toList_none, List.nil_append, List.cons_append, mj_up_s, true_or, or_true, Nat.sub_zero, and_assoc, b10, not_true_eq_false, not_false_eq_true, false_implies, true_implies, implies_true, eq_self, and_self, rf_some, rf_none]
        refine And.intro (fun _ => ?_) (fun c => absurd (nI_lt (by omega) (by omega)) c)
        rcases hb with ⟨h0, -⟩ | ⟨t, h1, rfl⟩
        · omega
        · obtain rfl : t = j := by omega
          exact hQ
      | succ m ih =>
        intro i bf hi hb
        rw [sX1_contentLength_14]
        simp only [sX1_contentLength_0, sX1_contentLength_1, sX1_contentLength_5, sX1_contentLength_8, sX1_contentLength_9, sX1_contentLength_10, sX1_contentLength_11, sX1_contentLength_12, sX1_contentLength_13, sX1_contentLength_15, sX1_contentLength_16, sX1_contentLength_19, sX1_contentLength_20, sX1_contentLength_21, sX1_contentLength_24, sX1_contentLength_27, sX1_contentLength_28, sX1_contentLength_29, sX1_contentLength_33, sX1_contentLength_34, sX1_contentLength_37, sX1_contentLength_40, sX1_contentLength_41, ha, Option.some.injEq, Sum.inr.injEq, Sum.inl.injEq, Prod.mk.injEq, true_and, and_true, exists_eq_left', exists_eq_left, exists_eq_right, exists_eq_right', exists_and_left, exists_and_right, List.getElem?_cons_succ, List.getElem?_cons_zero, List.length_cons, List.length_nil, List.set_cons_zero, List.set_cons_succ, Option.toList_some, Option.toList_none, List.nil_append, List.cons_append, mj_up_s, true_or, or_true, Nat.sub_zero, and_assoc, b10, not_true_eq_false, not_false_eq_true, false_implies, true_implies, implies_true, eq_self, and_self, rf_some, rf_none]
        refine And.intro (fun c => absurd c (nI_nlt (by omega) (by omega))) (fun _ => And.intro (fun c => absurd c (nI_ge (by omega) (by omega))) (fun _ => ?_))
        have e1 : nI i + 1 = nI (i + 1) := nI_1 i
        rcases hb with ⟨h0, rfl⟩ | ⟨t, h1, rfl⟩
        · subst h0
          refine sX1_contentLength_30z ha rfl (c_lengthBehind (bf := none) (by omega) (by show 70 ≤ w - 23; omega) hP (by omega) (by simp) ?_)
          simp only [sX1_contentLength_0, sX1_contentLength_1, sX1_contentLength_5, sX1_contentLength_8, sX1_contentLength_9, sX1_contentLength_10, sX1_contentLength_11, sX1_contentLength_12, sX1_contentLength_13, sX1_contentLength_15, sX1_contentLength_16, sX1_contentLength_19, sX1_contentLength_20, sX1_contentLength_21, sX1_contentLength_24, sX1_contentLength_27, sX1_contentLength_28, sX1_contentLength_29, sX1_contentLength_33, sX1_contentLength_34, sX1_contentLength_37, sX1_contentLength_40, sX1_contentLength_41, ha, Option.some.injEq, Sum.inr.injEq, Sum.inl.injEq, Prod.mk.injEq, true_and, and_true, exists_eq_left', exists_eq_left, exists_eq_right, exists_eq_right', exists_and_left, exists_and_right, List.getElem?_cons_succ, List.getElem?_cons_zero, List.length_cons, List.length_nil, List.set_cons_zero, List.set_cons_succ, Option.toList_some, Option.toList_none, List.nil_append, List.cons_append, mj_up_s, true_or, or_true, Nat.sub_zero, and_assoc, b10, not_true_eq_false, not_false_eq_true, false_implies, true_implies, implies_true, eq_self, and_self, rf_some, rf_none, e1]
          exact ih 1 _ (by omega) (Or.inr ⟨0, rfl, rfl⟩)
        · subst h1
          have hb5 : (S_cl S p t).getD 0 ≤ 510 := by
            cases hx : S_cl S p t with
            | none => simp
            | some x => have := S_cl_lt k4 hx; simpa using this
          refine sX1_contentLength_30z ha rfl (c_lengthBehind (bf := S_cl S p t) (by omega) (by show 70 ≤ w - 23; omega) hP (by omega) hb5 ?_)
          simp only [sX1_contentLength_0, sX1_contentLength_1, sX1_contentLength_5, sX1_contentLength_8, sX1_contentLength_9, sX1_contentLength_10, sX1_contentLength_11, sX1_contentLength_12, sX1_contentLength_13, sX1_contentLength_15, sX1_contentLength_16, sX1_contentLength_19, sX1_contentLength_20, sX1_contentLength_21, sX1_contentLength_24, sX1_contentLength_27, sX1_contentLength_28, sX1_contentLength_29, sX1_contentLength_33, sX1_contentLength_34, sX1_contentLength_37, sX1_contentLength_40, sX1_contentLength_41, ha, Option.some.injEq, Sum.inr.injEq, Sum.inl.injEq, Prod.mk.injEq, true_and, and_true, exists_eq_left', exists_eq_left, exists_eq_right, exists_eq_right', exists_and_left, exists_and_right, List.getElem?_cons_succ, List.getElem?_cons_zero, List.length_cons, List.length_nil, List.set_cons_zero, List.set_cons_succ, Option.toList_some, Option.toList_none, List.nil_append, List.cons_append, mj_up_s, true_or, or_true, Nat.sub_zero, and_assoc, b10, not_true_eq_false, not_false_eq_true, false_implies, true_implies, implies_true, eq_self, and_self, rf_some, rf_none, e1]
          exact ih (t + 2) _ (by omega) (Or.inr ⟨t + 1, rfl, rfl⟩)
    simp only [sX1_contentLength_0, sX1_contentLength_1, sX1_contentLength_5, sX1_contentLength_8, sX1_contentLength_9, sX1_contentLength_10, sX1_contentLength_11, sX1_contentLength_12, sX1_contentLength_13, sX1_contentLength_15, sX1_contentLength_16, sX1_contentLength_19, sX1_contentLength_20, sX1_contentLength_21, sX1_contentLength_24, sX1_contentLength_27, sX1_contentLength_28, sX1_contentLength_29, sX1_contentLength_33, sX1_contentLength_34, sX1_contentLength_37, sX1_contentLength_40, sX1_contentLength_41, ha, Option.some.injEq, Sum.inr.injEq, Sum.inl.injEq, Prod.mk.injEq, true_and, and_true, exists_eq_left', exists_eq_left, exists_eq_right, exists_eq_right', exists_and_left, exists_and_right, List.getElem?_cons_succ, List.getElem?_cons_zero, List.length_cons, List.length_nil, List.set_cons_zero, List.set_cons_succ, Option.toList_some, Option.toList_none, List.nil_append, List.cons_append, mj_up_s, true_or, or_true, Nat.sub_zero, and_assoc, b10, not_true_eq_false, not_false_eq_true, false_implies, true_implies, implies_true, eq_self, and_self, rf_some, rf_none]
    exact loop (j + 1) 0 none (by omega) (Or.inl ⟨rfl, rfl⟩)
  · rw [if_neg hc] at hQ ⊢
    simp only [sX1_contentLength_0, sX1_contentLength_1, sX1_contentLength_5, sX1_contentLength_8, sX1_contentLength_9, sX1_contentLength_10, sX1_contentLength_11, sX1_contentLength_12, sX1_contentLength_13, sX1_contentLength_15, sX1_contentLength_16, sX1_contentLength_19, sX1_contentLength_20, sX1_contentLength_21, sX1_contentLength_24, sX1_contentLength_27, sX1_contentLength_28, sX1_contentLength_29, sX1_contentLength_33, sX1_contentLength_34, sX1_contentLength_37, sX1_contentLength_40, sX1_contentLength_41, ha, Option.some.injEq, Sum.inr.injEq, Sum.inl.injEq, Prod.mk.injEq, true_and, and_true, exists_eq_left', exists_eq_left, exists_eq_right, exists_eq_right', exists_and_left, exists_and_right, List.getElem?_cons_succ, List.getElem?_cons_zero, List.length_cons, List.length_nil, List.set_cons_zero, List.set_cons_succ, Option.toList_some, Option.toList_none, List.nil_append, List.cons_append, mj_up_s, true_or, or_true, Nat.sub_zero, and_assoc, b10, not_true_eq_false, not_false_eq_true, false_implies, true_implies, implies_true, eq_self, and_self, rf_some, rf_none]
    exact hQ
theorem S_cl_some {S : St} {p k L : Nat} (h : S_cl S p k = some L) : ∃ had, S_lb S p k had = some L ∧ S_th S p k = true ∧ S_at S p k + 2 ≤ S_pz S p ∧ S_s S p k ≤ had ∧ S_at S p k + 2 + S_m S p k ≤ S_pz S p ∧ L = S_s S p k + S_m S p k ∧ (k = 0 → had = 0) ∧ ∀ t, k = t + 1 → had = (S_cl S p t).getD 0 := by
  have key : ∀ had, S_lb S p k had = some L → S_th S p k = true ∧ S_at S p k + 2 ≤ S_pz S p ∧ S_s S p k ≤ had ∧ S_at S p k + 2 + S_m S p k ≤ S_pz S p ∧ L = S_s S p k + S_m S p k := by
    intro had hl
    unfold S_lb at hl
    split at hl
    · rename_i c
      cases hl
      exact ⟨c.1, c.2.1, c.2.2.1, c.2.2.2, rfl⟩
    · cases hl
  cases k with
  | zero =>
    obtain ⟨a1, a2, a3, a4, a5⟩ := key 0 h
    exact ⟨0, h, a1, a2, a3, a4, a5, fun _ => rfl, fun t e => by omega⟩
  | succ t =>
    obtain ⟨a1, a2, a3, a4, a5⟩ := key _ h
    exact ⟨_, h, a1, a2, a3, a4, a5, fun e => by omega, fun u e => by cases e; rfl⟩
set_option maxRecDepth 100000 in
theorem c_contentByte (hf : 3 ≤ f) (hw : 70 ≤ w) (hP : PK h a p S) {k i L : Nat} (hL : S_cl S p k = some L) (hi : i < L) (hQ : Q (some (.int (bS (S_cb S p k i)))) h n) : mj_bk f w 19 [.ref a, .int (nI k), .int (nI i)] h n mc ms Q := by
  obtain ⟨q, g, b, ha, hq, hg, hok⟩ := id hP
  obtain ⟨k1, k2, k3, k4⟩ := hok
  refine mj_begin (by omega) (by decide) (by show 25 ≤ w; omega) rfl ?_
  show mj_W _ _ 19 mj_noZ Q 0 [.ref a, .int (nI k), .int (nI i), .retAddr 0, .retAddr 0, .retAddr 0] [] h n mc ms
  have loop : ∀ j L v4 v5, S_cl S p j = some L → i < L → S_cb S p j i = S_cb S p k i → mj_W (f - 1) (w - (19 + mj_maxL 19)) 19 mj_noZ Q 2 [.ref a, .int (nI k), .int (nI i), .int (nI j), v4, v5] [] h n mc ms := by
    intro j
    induction j with
    | zero =>
      intro L v4 v5 hL hi hb
      obtain ⟨had, -, a1, a2, a3, a4, a5, a6, -⟩ := S_cl_some hL
      have hs : S_s S p 0 = 0 := by have := a6 rfl; omega
      have hn := S_num_lt (S := S) (p := p) (k := 0) (wh := 1) k4
      have b2 : S_m S p 0 < 256 := k4 _
      rw [sX1_contentByte_2]
      simp only [sX1_contentByte_0, sX1_contentByte_1, sX1_contentByte_3, sX1_contentByte_6, sX1_contentByte_7, sX1_contentByte_10, sX1_contentByte_11, sX1_contentByte_12, sX1_contentByte_16, sX1_contentByte_17, sX1_contentByte_19, sX1_contentByte_20, sX1_contentByte_25, sX1_contentByte_28, sX1_contentByte_29, sX1_contentByte_31, sX1_contentByte_32, sX1_contentByte_34, sX1_contentByte_37, sX1_contentByte_38, sX1_contentByte_40, sX1_contentByte_41, sX1_contentByte_42, sX1_contentByte_43, sX1_contentByte_44, sX1_contentByte_46, sX1_contentByte_50, sX1_contentByte_51, sX1_contentByte_54, sX1_contentByte_57, sX1_contentByte_58, ha, Option.some.injEq, Sum.inr.injEq, Sum.inl.injEq, Prod.mk.injEq, true_and, and_true, exists_eq_left', exists_eq_left, exists_eq_right, exists_eq_right', exists_and_left, exists_and_right, List.getElem?_cons_succ, List.getElem?_cons_zero, List.length_cons, List.length_nil, List.set_cons_zero, List.set_cons_succ, Option.toList_some, Option.toList_none, List.nil_append, List.cons_append, mj_up_s, true_or, or_true, Nat.sub_zero, and_assoc, b10, not_true_eq_false, not_false_eq_true, false_implies, true_implies, implies_true, eq_self, and_self, rf_some, rf_none]
      refine And.intro (fun c => absurd c (by decide)) (fun _ => ?_)
      refine sX1_contentByte_13z ha rfl (c_numberOf (wh := 1) (by omega) (by show 45 ≤ w - 25; omega) hP (by omega) ?_)
      rw [S_thI_n (by omega), if_pos a1, nI_cl (by omega)]
      have e1 : nI (S_fs S p) + nI (S_num S p 0 1) = nI (S_at S p 0) := nI_add _ _
      have hat : S_at S p 0 < 70000 := by unfold S_at; omega
      simp only [sX1_contentByte_0, sX1_contentByte_1, sX1_contentByte_3, sX1_contentByte_6, sX1_contentByte_7, sX1_contentByte_10, sX1_contentByte_11, sX1_contentByte_12, sX1_contentByte_16, sX1_contentByte_17, sX1_contentByte_19, sX1_contentByte_20, sX1_contentByte_25, sX1_contentByte_28, sX1_contentByte_29, sX1_contentByte_31, sX1_contentByte_32, sX1_contentByte_34, sX1_contentByte_37, sX1_contentByte_38, sX1_contentByte_40, sX1_contentByte_41, sX1_contentByte_42, sX1_contentByte_43, sX1_contentByte_44, sX1_contentByte_46, sX1_contentByte_50, sX1_contentByte_51, sX1_contentByte_54, sX1_contentByte_57, sX1_contentByte_58, ha, Option.some.injEq, Sum.inr.injEq, Sum.inl.injEq, Prod.mk.injEq, true_and, and_true, exists_eq_left', exists_eq_left, exists_eq_right, exists_eq_right', exists_and_left, exists_and_right, List.getElem?_cons_succ, List.getElem?_cons_zero, List.length_cons, List.length_nil, List.set_cons_zero, List.set_cons_succ, Option.toList_some, Option.toList_none, List.nil_append, List.cons_append, mj_up_s, true_or, or_true, Nat.sub_zero, and_assoc, b10, not_true_eq_false, not_false_eq_true, false_implies, true_implies, implies_true, eq_self, and_self, rf_some, rf_none, e1]
      refine sX1_contentByte_22z ha rfl (c_byteAt (by omega) (by show 42 ≤ w - 25; omega) hP (by omega) ?_)
      rw [if_pos (by omega)]
      simp only [sX1_contentByte_0, sX1_contentByte_1, sX1_contentByte_3, sX1_contentByte_6, sX1_contentByte_7, sX1_contentByte_10, sX1_contentByte_11, sX1_contentByte_12, sX1_contentByte_16, sX1_contentByte_17, sX1_contentByte_19, sX1_contentByte_20, sX1_contentByte_25, sX1_contentByte_28, sX1_contentByte_29, sX1_contentByte_31, sX1_contentByte_32, sX1_contentByte_34, sX1_contentByte_37, sX1_contentByte_38, sX1_contentByte_40, sX1_contentByte_41, sX1_contentByte_42, sX1_contentByte_43, sX1_contentByte_44, sX1_contentByte_46, sX1_contentByte_50, sX1_contentByte_51, sX1_contentByte_54, sX1_contentByte_57, sX1_contentByte_58, ha, Option.some.injEq, Sum.inr.injEq, Sum.inl.injEq, Prod.mk.injEq, true_and, and_true, exists_eq_left', exists_eq_left, exists_eq_right, exists_eq_right', exists_and_left, exists_and_right, List.getElem?_cons_succ, List.getElem?_cons_zero, List.length_cons, List.length_nil, List.set_cons_zero, List.set_cons_succ, Option.toList_some, Option.toList_none, List.nil_append, List.cons_append, mj_up_s, true_or, or_true, Nat.sub_zero, and_assoc, b10, not_true_eq_false, not_false_eq_true, false_implies, true_implies, implies_true, eq_self, and_self, rf_some, rf_none, bS_and _ (k4 _)]
      have e7 : nI (S_pb S p (S_at S p 0)) = 0 := by show nI (S_s S p 0) = 0; rw [hs]; rfl
      rw [e7]
      refine And.intro (fun c => absurd c (nI_pos (by omega))) (fun _ => ?_)
      have e2 : nI (S_at S p 0) + 2 + nI i - 0 = nI (S_at S p 0 + 2 + i) := by
        rw [show (2 : Int32) = nI 2 from rfl, nI_add, nI_add, show (0 : Int32) = nI 0 from rfl, pk_sub (by omega)]; rfl
      rw [e2]
      refine sX1_contentByte_47z ha rfl (c_byteAt (by omega) (by show 42 ≤ w - 25; omega) hP (by omega) ?_)
      rw [if_pos (by omega)]
      simp only [sX1_contentByte_0, sX1_contentByte_1, sX1_contentByte_3, sX1_contentByte_6, sX1_contentByte_7, sX1_contentByte_10, sX1_contentByte_11, sX1_contentByte_12, sX1_contentByte_16, sX1_contentByte_17, sX1_contentByte_19, sX1_contentByte_20, sX1_contentByte_25, sX1_contentByte_28, sX1_contentByte_29, sX1_contentByte_31, sX1_contentByte_32, sX1_contentByte_34, sX1_contentByte_37, sX1_contentByte_38, sX1_contentByte_40, sX1_contentByte_41, sX1_contentByte_42, sX1_contentByte_43, sX1_contentByte_44, sX1_contentByte_46, sX1_contentByte_50, sX1_contentByte_51, sX1_contentByte_54, sX1_contentByte_57, sX1_contentByte_58, ha, Option.some.injEq, Sum.inr.injEq, Sum.inl.injEq, Prod.mk.injEq, true_and, and_true, exists_eq_left', exists_eq_left, exists_eq_right, exists_eq_right', exists_and_left, exists_and_right, List.getElem?_cons_succ, List.getElem?_cons_zero, List.length_cons, List.length_nil, List.set_cons_zero, List.set_cons_succ, Option.toList_some, Option.toList_none, List.nil_append, List.cons_append, mj_up_s, true_or, or_true, Nat.sub_zero, and_assoc, b10, not_true_eq_false, not_false_eq_true, false_implies, true_implies, implies_true, eq_self, and_self, rf_some, rf_none, bS_narrow]
      have e3 : S_pb S p (S_at S p 0 + 2 + i) = S_cb S p k i := by rw [← hb]; unfold S_cb; rw [hs]; rfl
      rw [e3]; exact hQ
    | succ j ih =>
      intro L v4 v5 hL hi hb
      obtain ⟨had, -, a1, a2, a3, a4, a5, -, a6⟩ := S_cl_some hL
      have hj := (S_th_iff.mp a1).1
      have hn := S_num_lt (S := S) (p := p) (k := j + 1) (wh := 1) k4
      have b1 : S_s S p (j + 1) < 256 := k4 _
      have b2 : S_m S p (j + 1) < 256 := k4 _
      rw [sX1_contentByte_2]
      simp only [sX1_contentByte_0, sX1_contentByte_1, sX1_contentByte_3, sX1_contentByte_6, sX1_contentByte_7, sX1_contentByte_10, sX1_contentByte_11, sX1_contentByte_12, sX1_contentByte_16, sX1_contentByte_17, sX1_contentByte_19, sX1_contentByte_20, sX1_contentByte_25, sX1_contentByte_28, sX1_contentByte_29, sX1_contentByte_31, sX1_contentByte_32, sX1_contentByte_34, sX1_contentByte_37, sX1_contentByte_38, sX1_contentByte_40, sX1_contentByte_41, sX1_contentByte_42, sX1_contentByte_43, sX1_contentByte_44, sX1_contentByte_46, sX1_contentByte_50, sX1_contentByte_51, sX1_contentByte_54, sX1_contentByte_57, sX1_contentByte_58, ha, Option.some.injEq, Sum.inr.injEq, Sum.inl.injEq, Prod.mk.injEq, true_and, and_true, exists_eq_left', exists_eq_left, exists_eq_right, exists_eq_right', exists_and_left, exists_and_right, List.getElem?_cons_succ, List.getElem?_cons_zero, List.length_cons, List.length_nil, List.set_cons_zero, List.set_cons_succ, Option.toList_some, Option.toList_none, List.nil_append, List.cons_append, mj_up_s, true_or, or_true, Nat.sub_zero, and_assoc, b10, not_true_eq_false, not_false_eq_true, false_implies, true_implies, implies_true, eq_self, and_self, rf_some, rf_none]
      refine And.intro (fun c => absurd c (nI_pos (by omega))) (fun _ => ?_)
      refine sX1_contentByte_13z ha rfl (c_numberOf (wh := 1) (by omega) (by show 45 ≤ w - 25; omega) hP (by omega) ?_)
      rw [S_thI_n (by omega), if_pos a1, nI_cl (by omega)]
      have e1 : nI (S_fs S p) + nI (S_num S p (j + 1) 1) = nI (S_at S p (j + 1)) := nI_add _ _
      have hat : S_at S p (j + 1) < 70000 := by unfold S_at; omega
      simp only [sX1_contentByte_0, sX1_contentByte_1, sX1_contentByte_3, sX1_contentByte_6, sX1_contentByte_7, sX1_contentByte_10, sX1_contentByte_11, sX1_contentByte_12, sX1_contentByte_16, sX1_contentByte_17, sX1_contentByte_19, sX1_contentByte_20, sX1_contentByte_25, sX1_contentByte_28, sX1_contentByte_29, sX1_contentByte_31, sX1_contentByte_32, sX1_contentByte_34, sX1_contentByte_37, sX1_contentByte_38, sX1_contentByte_40, sX1_contentByte_41, sX1_contentByte_42, sX1_contentByte_43, sX1_contentByte_44, sX1_contentByte_46, sX1_contentByte_50, sX1_contentByte_51, sX1_contentByte_54, sX1_contentByte_57, sX1_contentByte_58, ha, Option.some.injEq, Sum.inr.injEq, Sum.inl.injEq, Prod.mk.injEq, true_and, and_true, exists_eq_left', exists_eq_left, exists_eq_right, exists_eq_right', exists_and_left, exists_and_right, List.getElem?_cons_succ, List.getElem?_cons_zero, List.length_cons, List.length_nil, List.set_cons_zero, List.set_cons_succ, Option.toList_some, Option.toList_none, List.nil_append, List.cons_append, mj_up_s, true_or, or_true, Nat.sub_zero, and_assoc, b10, not_true_eq_false, not_false_eq_true, false_implies, true_implies, implies_true, eq_self, and_self, rf_some, rf_none, e1]
      refine sX1_contentByte_22z ha rfl (c_byteAt (by omega) (by show 42 ≤ w - 25; omega) hP (by omega) ?_)
      rw [if_pos (by omega)]
      simp only [sX1_contentByte_0, sX1_contentByte_1, sX1_contentByte_3, sX1_contentByte_6, sX1_contentByte_7, sX1_contentByte_10, sX1_contentByte_11, sX1_contentByte_12, sX1_contentByte_16, sX1_contentByte_17, sX1_contentByte_19, sX1_contentByte_20, sX1_contentByte_25, sX1_contentByte_28, sX1_contentByte_29, sX1_contentByte_31, sX1_contentByte_32, sX1_contentByte_34, sX1_contentByte_37, sX1_contentByte_38, sX1_contentByte_40, sX1_contentByte_41, sX1_contentByte_42, sX1_contentByte_43, sX1_contentByte_44, sX1_contentByte_46, sX1_contentByte_50, sX1_contentByte_51, sX1_contentByte_54, sX1_contentByte_57, sX1_contentByte_58, ha, Option.some.injEq, Sum.inr.injEq, Sum.inl.injEq, Prod.mk.injEq, true_and, and_true, exists_eq_left', exists_eq_left, exists_eq_right, exists_eq_right', exists_and_left, exists_and_right, List.getElem?_cons_succ, List.getElem?_cons_zero, List.length_cons, List.length_nil, List.set_cons_zero, List.set_cons_succ, Option.toList_some, Option.toList_none, List.nil_append, List.cons_append, mj_up_s, true_or, or_true, Nat.sub_zero, and_assoc, b10, not_true_eq_false, not_false_eq_true, false_implies, true_implies, implies_true, eq_self, and_self, rf_some, rf_none, bS_and _ (k4 _)]
      have e4 : nI (j + 1) + (-1) = nI j := pk_m1 j
      have e2 : nI (S_at S p (j + 1)) + 2 + nI i = nI (S_at S p (j + 1) + 2 + i) := by
        rw [show (2 : Int32) = nI 2 from rfl, nI_add, nI_add]
      rw [e4, e2]
      by_cases hc : i < S_s S p (j + 1)
      · have e5 := a6 j rfl
        obtain ⟨L', hL'⟩ : ∃ L', S_cl S p j = some L' := by
          cases hx : S_cl S p j with
          | none => rw [hx] at e5; simp at e5; omega
          | some x => exact ⟨x, rfl⟩
        rw [hL'] at e5
        refine And.intro (fun _ => ih L' _ _ hL' (by simp at e5; omega) (by rw [← hb]; conv => rhs; unfold S_cb; rw [if_pos hc])) (fun c => absurd (nI_lt hc (by omega)) c)
      · refine And.intro (fun c => absurd c (nI_nlt (by show S_s S p (j + 1) ≤ i; omega) (by omega))) (fun _ => ?_)
        have e3 : nI (S_at S p (j + 1) + 2 + i) - nI (S_pb S p (S_at S p (j + 1))) = nI (S_at S p (j + 1) + 2 + (i - S_s S p (j + 1))) := by
          show _ - nI (S_s S p (j + 1)) = _
          rw [pk_sub (by omega)]; congr 1; omega
        rw [e3]
        refine sX1_contentByte_47z ha rfl (c_byteAt (by omega) (by show 42 ≤ w - 25; omega) hP (by omega) ?_)
        rw [if_pos (by omega)]
        simp only [sX1_contentByte_0, sX1_contentByte_1, sX1_contentByte_3, sX1_contentByte_6, sX1_contentByte_7, sX1_contentByte_10, sX1_contentByte_11, sX1_contentByte_12, sX1_contentByte_16, sX1_contentByte_17, sX1_contentByte_19, sX1_contentByte_20, sX1_contentByte_25, sX1_contentByte_28, sX1_contentByte_29, sX1_contentByte_31, sX1_contentByte_32, sX1_contentByte_34, sX1_contentByte_37, sX1_contentByte_38, sX1_contentByte_40, sX1_contentByte_41, sX1_contentByte_42, sX1_contentByte_43, sX1_contentByte_44, sX1_contentByte_46, sX1_contentByte_50, sX1_contentByte_51, sX1_contentByte_54, sX1_contentByte_57, sX1_contentByte_58, ha, Option.some.injEq, Sum.inr.injEq, Sum.inl.injEq, Prod.mk.injEq, true_and, and_true, exists_eq_left', exists_eq_left, exists_eq_right, exists_eq_right', exists_and_left, exists_and_right, List.getElem?_cons_succ, List.getElem?_cons_zero, List.length_cons, List.length_nil, List.set_cons_zero, List.set_cons_succ, Option.toList_some, Option.toList_none, List.nil_append, List.cons_append, mj_up_s, true_or, or_true, Nat.sub_zero, and_assoc, b10, not_true_eq_false, not_false_eq_true, false_implies, true_implies, implies_true, eq_self, and_self, rf_some, rf_none, bS_narrow]
        have e6 : S_pb S p (S_at S p (j + 1) + 2 + (i - S_s S p (j + 1))) = S_cb S p k i := by
          rw [← hb]; conv => rhs; unfold S_cb; rw [if_neg hc]
        rw [e6]; exact hQ
  simp only [sX1_contentByte_0, sX1_contentByte_1, sX1_contentByte_3, sX1_contentByte_6, sX1_contentByte_7, sX1_contentByte_10, sX1_contentByte_11, sX1_contentByte_12, sX1_contentByte_16, sX1_contentByte_17, sX1_contentByte_19, sX1_contentByte_20, sX1_contentByte_25, sX1_contentByte_28, sX1_contentByte_29, sX1_contentByte_31, sX1_contentByte_32, sX1_contentByte_34, sX1_contentByte_37, sX1_contentByte_38, sX1_contentByte_40, sX1_contentByte_41, sX1_contentByte_42, sX1_contentByte_43, sX1_contentByte_44, sX1_contentByte_46, sX1_contentByte_50, sX1_contentByte_51, sX1_contentByte_54, sX1_contentByte_57, sX1_contentByte_58, ha, Option.some.injEq, Sum.inr.injEq, Sum.inl.injEq, Prod.mk.injEq, true_and, and_true, exists_eq_left', exists_eq_left, exists_eq_right, exists_eq_right', exists_and_left, exists_and_right, List.getElem?_cons_succ, List.getElem?_cons_zero, List.length_cons, List.length_nil, List.set_cons_zero, List.set_cons_succ, Option.toList_some, Option.toList_none, List.nil_append, List.cons_append, mj_up_s, true_or, or_true, Nat.sub_zero, and_assoc, b10, not_true_eq_false, not_false_eq_true, false_implies, true_implies, implies_true, eq_self, and_self, rf_some, rf_none]
  exact loop k L _ _ hL hi rfl
end
