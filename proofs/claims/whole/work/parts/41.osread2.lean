/-! ===== ObjectStreams: chains, counts, faults ===== -/
theorem findN_some {P : Nat → Bool} : ∀ {m a k : Nat}, findN P a m = some k → a ≤ k ∧ k < a + m ∧ P k = true ∧ ∀ j, a ≤ j → j < k → ¬ P j = true
  | 0, a, k, h => by cases h
  | m + 1, a, k, h => by
    unfold findN at h
    split at h
    · cases h
      rename_i c
      exact ⟨Nat.le_refl _, by omega, c, fun j h1 h2 => by omega⟩
    · rename_i c
      obtain ⟨h1, h2, h3, h4⟩ := findN_some h
      refine ⟨by omega, by omega, h3, fun j j1 j2 => ?_⟩
      by_cases e : j = a
      · subst e; exact c
      · exact h4 j (by omega) j2
theorem findN_none {P : Nat → Bool} : ∀ {m a : Nat}, findN P a m = none → ∀ j, a ≤ j → j < a + m → ¬ P j = true
  | 0, a, _, j, h1, h2 => by omega
  | m + 1, a, h, j, h1, h2 => by
    unfold findN at h
    split at h
    · cases h
    · rename_i c
      by_cases e : j = a
      · subst e; exact c
      · exact findN_none h j (by omega) (by omega)
/-- does the chain from r on (0: none, q + 1: pack q) lead to pack t -/
def leadsN (S : St) (t : Nat) : Nat → Nat → Bool
  | _, 0 => false
  | 0, _ + 1 => false
  | q + 1, m + 1 => if q = t then true else leadsN S t (S_ex S q) m
def findP (S : St) (o : Int32) : Nat → Nat → Option Nat
  | _, 0 => none
  | 0, _ + 1 => none
  | q + 1, m + 1 => match S_fp S q o with
    | some k => some (100 * q + k)
    | none => findP S o (S_ex S q) m
def op_find (S : St) (o p : Int32) : Int32 := if pkI S p = true then oI (findP S o (p.toNatClampNeg + 1) 20) else -2
/-- is a PAIR before k, THERE, of object o -/
def S_bef (S : St) (p k o : Nat) : Bool := (findN (S_isO S p (nI o)) 0 k).isSome
/-- what is wrong with PAIR k: 0 nothing -/
def S_wr (S : St) (p k : Nat) : Nat := if S_th S p k = true then (if S_cl S p k = none then 2 else if S_no S ≤ S_num S p k 0 then 3 else if S_kd S (S_num S p k 0) = 1 then 4 else if S_bef S p k (S_num S p k 0) = true then 5 else 0) else 1
def cntN (P : Nat → Bool) : Nat → Nat
  | 0 => 0
  | k + 1 => cntN P k + (if P k = true then 1 else 0)
def sumN (g : Nat → Nat) : Nat → Nat
  | 0 => 0
  | k + 1 => sumN g k + g k
theorem cntN_le (P : Nat → Bool) : ∀ k, cntN P k ≤ k
  | 0 => Nat.le_refl _
  | k + 1 => by have := cntN_le P k; unfold cntN; split <;> omega
theorem sumN_le {g : Nat → Nat} {b : Nat} : ∀ k, (∀ j, j < k → g j ≤ b) → sumN g k ≤ k * b
  | 0, _ => by simp [sumN]
  | k + 1, hg => by
    have h1 := sumN_le k (fun j hj => hg j (by omega))
    have h2 := hg k (by omega)
    have h3 : (k + 1) * b = k * b + b := Nat.succ_mul k b
    unfold sumN; omega
def op_count (S : St) (x : Int32) : Int32 := if x = 0 then nI (S_no S) else if x = 1 then nI (S_np S) else if x = 2 then nI (cntN (fun i => decide (S_pk S i ≠ 0)) (S_no S)) else if x = 3 then nI (cntN (fun i => decide (S_size S i = none)) (S_no S)) else if x = 4 then nI (sumN (S_pz S) (S_np S)) else -2
section
variable {f w : Nat} {Q : mj_Q} {h : mj_H} {n mc ms : Nat} {S : St} {AD : Ad} {C : Ct}
set_option maxRecDepth 100000 in
theorem m_leadsTo (hf : 1 ≤ f) (hw : 23 ≤ w) (hM : MEM h n AD (VS S) C) (hC : CC S AD C) (hW : WF S) {r t : Nat} (hr : r ≤ S_np S) (ht : t < S_np S) (hQ : Q (some (.int (if leadsN S t r 20 = true then 1 else 0))) h n) : mj_bk f w 41 [hmv AD r, .int (nI t)] h n mc ms Q := by
  have w2 := hW.2.1
  have loop : ∀ m k r, k + m = 20 → r ≤ S_np S → Q (some (.int (if leadsN S t r m = true then 1 else 0))) h n → ∀ v0, mj_W (f - 1) (w - (19 + mj_maxL 41)) 41 mj_noZ Q 4 [v0, .int (nI t), hmv AD r, .int (nI k)] [] h n mc ms := by
    intro m
    induction m with
    | zero =>
      intro k r hk hr hQ v0
      obtain rfl : k = 20 := by omega
      rw [sX2_leadsTo_4, sX2_leadsTo_5, sX2_leadsTo_7]
      refine And.intro (fun _ => ?_) (fun c => absurd (by decide) c)
      simp only [sX2_leadsTo_35, sX2_leadsTo_36, Option.some.injEq, Sum.inr.injEq, Sum.inl.injEq, Prod.mk.injEq, true_and, and_true, exists_eq_left', exists_eq_left, exists_eq_right, exists_eq_right', exists_and_left, exists_and_right, List.getElem?_cons_succ, List.getElem?_cons_zero, List.length_cons, List.length_nil, List.set_cons_zero, List.set_cons_succ, Option.toList_some, Option.toList_none, List.nil_append, List.cons_append, mj_up_s, true_or, or_true, Nat.sub_zero, and_assoc, b10, not_true_eq_false, not_false_eq_true, false_implies, true_implies, implies_true, eq_self, and_self, rf_some, rf_none, nar_b0]
      cases r <;> simpa [leadsN] using hQ
    | succ m ih =>
      intro k r hk hr hQ v0
      have e1 : nI k + 1 = nI (k + 1) := nI_1 k
      rw [sX2_leadsTo_4, sX2_leadsTo_5, sX2_leadsTo_7]
      refine And.intro (fun c => absurd c (show ¬ nI 20 ≤ nI k from nI_ge (by omega) (by omega))) (fun _ => ?_)
      cases r with
      | zero =>
        simp only [hmv, sX2_leadsTo_0, sX2_leadsTo_0n, sX2_leadsTo_1, sX2_leadsTo_1n, sX2_leadsTo_2, sX2_leadsTo_3, sX2_leadsTo_5, sX2_leadsTo_7, sX2_leadsTo_10, sX2_leadsTo_10n, sX2_leadsTo_11, sX2_leadsTo_11n, sX2_leadsTo_14, sX2_leadsTo_14n, sX2_leadsTo_15, sX2_leadsTo_18, sX2_leadsTo_19, sX2_leadsTo_22, sX2_leadsTo_23, sX2_leadsTo_24, sX2_leadsTo_24n, sX2_leadsTo_25, sX2_leadsTo_28, sX2_leadsTo_28n, sX2_leadsTo_29, sX2_leadsTo_32, sX2_leadsTo_35, sX2_leadsTo_36, Option.some.injEq, Sum.inr.injEq, Sum.inl.injEq, Prod.mk.injEq, true_and, and_true, exists_eq_left', exists_eq_left, exists_eq_right, exists_eq_right', exists_and_left, exists_and_right, List.getElem?_cons_succ, List.getElem?_cons_zero, List.length_cons, List.length_nil, List.set_cons_zero, List.set_cons_succ, Option.toList_some, Option.toList_none, List.nil_append, List.cons_append, mj_up_s, true_or, or_true, Nat.sub_zero, and_assoc, b10, not_true_eq_false, not_false_eq_true, false_implies, true_implies, implies_true, eq_self, and_self, rf_some, rf_none, nar_b0]
        simpa [leadsN] using hQ
      | succ q =>
        have hP := hC.pkc hM (p := q) (by omega)
        have hex := (hW.2.2.2.2.2 q (by omega)).2
        simp only [hmv, sX2_leadsTo_10, sX2_leadsTo_11, sX2_leadsTo_14, sX2_leadsTo_15, sX2_leadsTo_18, sX2_leadsTo_19, hP, Option.some.injEq, Sum.inr.injEq, Sum.inl.injEq, Prod.mk.injEq, true_and, and_true, exists_eq_left', exists_eq_left, exists_eq_right, exists_eq_right', exists_and_left, exists_and_right, List.getElem?_cons_succ, List.getElem?_cons_zero, List.length_cons, List.length_nil, List.set_cons_zero, List.set_cons_succ, Option.toList_some, Option.toList_none, List.nil_append, List.cons_append, mj_up_s, true_or, or_true, Nat.sub_zero, and_assoc, b10, not_true_eq_false, not_false_eq_true, false_implies, true_implies, implies_true, eq_self, and_self, rf_some, rf_none]
        unfold leadsN at hQ
        by_cases hqt : q = t
        · rw [if_pos hqt] at hQ
          refine And.intro (fun c => absurd (by rw [hqt]) c) (fun _ => ?_)
          simp only [sX2_leadsTo_22, sX2_leadsTo_23, Option.some.injEq, Sum.inr.injEq, Sum.inl.injEq, Prod.mk.injEq, true_and, and_true, exists_eq_left', exists_eq_left, exists_eq_right, exists_eq_right', exists_and_left, exists_and_right, List.getElem?_cons_succ, List.getElem?_cons_zero, List.length_cons, List.length_nil, List.set_cons_zero, List.set_cons_succ, Option.toList_some, Option.toList_none, List.nil_append, List.cons_append, mj_up_s, true_or, or_true, Nat.sub_zero, and_assoc, b10, not_true_eq_false, not_false_eq_true, false_implies, true_implies, implies_true, eq_self, and_self, rf_some, rf_none, nar_b1]
          simpa using hQ
        · rw [if_neg hqt] at hQ
          refine And.intro (fun _ => ?_) (fun c => absurd (fun e => hqt ((nI_eq (by omega) (by omega)).mp e)) c)
          have go := ih (k + 1) (S_ex S q) (by omega) hex hQ v0
          cases hE : S_ex S q with
          | zero =>
            rw [hE] at go hP
            simp only [hmv] at go hP
            simp only [sX2_leadsTo_24, sX2_leadsTo_25, hP, Option.some.injEq, Sum.inr.injEq, Sum.inl.injEq, Prod.mk.injEq, true_and, and_true, exists_eq_left', exists_eq_left, exists_eq_right, exists_eq_right', exists_and_left, exists_and_right, List.getElem?_cons_succ, List.getElem?_cons_zero, List.length_cons, List.length_nil, List.set_cons_zero, List.set_cons_succ, Option.toList_some, Option.toList_none, List.nil_append, List.cons_append, mj_up_s, true_or, or_true, Nat.sub_zero, and_assoc, b10, not_true_eq_false, not_false_eq_true, false_implies, true_implies, implies_true, eq_self, and_self, rf_some, rf_none, hmv, sX2_leadsTo_28n, sX2_leadsTo_29, sX2_leadsTo_32, e1]
            exact go
          | succ u =>
            rw [hE] at go hP
            simp only [hmv] at go hP
            simp only [sX2_leadsTo_24, sX2_leadsTo_25, hP, Option.some.injEq, Sum.inr.injEq, Sum.inl.injEq, Prod.mk.injEq, true_and, and_true, exists_eq_left', exists_eq_left, exists_eq_right, exists_eq_right', exists_and_left, exists_and_right, List.getElem?_cons_succ, List.getElem?_cons_zero, List.length_cons, List.length_nil, List.set_cons_zero, List.set_cons_succ, Option.toList_some, Option.toList_none, List.nil_append, List.cons_append, mj_up_s, true_or, or_true, Nat.sub_zero, and_assoc, b10, not_true_eq_false, not_false_eq_true, false_implies, true_implies, implies_true, eq_self, and_self, rf_some, rf_none, hmv, sX2_leadsTo_28, sX2_leadsTo_29, sX2_leadsTo_32, e1]
            exact go
  cases r with
  | zero =>
    refine mj_begin (by omega) (by decide) (by show 23 ≤ w; omega) rfl ?_
    show mj_W _ _ 41 mj_noZ Q 0 [.null, .int (nI t), .retAddr 0, .retAddr 0] [] h n mc ms
    simp only [sX2_leadsTo_0, sX2_leadsTo_0n, sX2_leadsTo_1, sX2_leadsTo_1n, sX2_leadsTo_2, sX2_leadsTo_3, sX2_leadsTo_5, sX2_leadsTo_7, sX2_leadsTo_10, sX2_leadsTo_10n, sX2_leadsTo_11, sX2_leadsTo_11n, sX2_leadsTo_14, sX2_leadsTo_14n, sX2_leadsTo_15, sX2_leadsTo_18, sX2_leadsTo_19, sX2_leadsTo_22, sX2_leadsTo_23, sX2_leadsTo_24, sX2_leadsTo_24n, sX2_leadsTo_25, sX2_leadsTo_28, sX2_leadsTo_28n, sX2_leadsTo_29, sX2_leadsTo_32, sX2_leadsTo_35, sX2_leadsTo_36, Option.some.injEq, Sum.inr.injEq, Sum.inl.injEq, Prod.mk.injEq, true_and, and_true, exists_eq_left', exists_eq_left, exists_eq_right, exists_eq_right', exists_and_left, exists_and_right, List.getElem?_cons_succ, List.getElem?_cons_zero, List.length_cons, List.length_nil, List.set_cons_zero, List.set_cons_succ, Option.toList_some, Option.toList_none, List.nil_append, List.cons_append, mj_up_s, true_or, or_true, Nat.sub_zero, and_assoc, b10, not_true_eq_false, not_false_eq_true, false_implies, true_implies, implies_true, eq_self, and_self, rf_some, rf_none]
    exact loop 20 0 0 (by omega) (by omega) hQ .null
  | succ q =>
    refine mj_begin (by omega) (by decide) (by show 23 ≤ w; omega) rfl ?_
    show mj_W _ _ 41 mj_noZ Q 0 [.ref (AD 3 q), .int (nI t), .retAddr 0, .retAddr 0] [] h n mc ms
    simp only [sX2_leadsTo_0, sX2_leadsTo_0n, sX2_leadsTo_1, sX2_leadsTo_1n, sX2_leadsTo_2, sX2_leadsTo_3, sX2_leadsTo_5, sX2_leadsTo_7, sX2_leadsTo_10, sX2_leadsTo_10n, sX2_leadsTo_11, sX2_leadsTo_11n, sX2_leadsTo_14, sX2_leadsTo_14n, sX2_leadsTo_15, sX2_leadsTo_18, sX2_leadsTo_19, sX2_leadsTo_22, sX2_leadsTo_23, sX2_leadsTo_24, sX2_leadsTo_24n, sX2_leadsTo_25, sX2_leadsTo_28, sX2_leadsTo_28n, sX2_leadsTo_29, sX2_leadsTo_32, sX2_leadsTo_35, sX2_leadsTo_36, Option.some.injEq, Sum.inr.injEq, Sum.inl.injEq, Prod.mk.injEq, true_and, and_true, exists_eq_left', exists_eq_left, exists_eq_right, exists_eq_right', exists_and_left, exists_and_right, List.getElem?_cons_succ, List.getElem?_cons_zero, List.length_cons, List.length_nil, List.set_cons_zero, List.set_cons_succ, Option.toList_some, Option.toList_none, List.nil_append, List.cons_append, mj_up_s, true_or, or_true, Nat.sub_zero, and_assoc, b10, not_true_eq_false, not_false_eq_true, false_implies, true_implies, implies_true, eq_self, and_self, rf_some, rf_none]
    exact loop 20 0 (q + 1) (by omega) hr hQ (.ref (AD 3 q))
set_option maxRecDepth 100000 in
theorem m_find (hf : 4 ≤ f) (hw : 92 ≤ w) (hM : MEM h n AD (VS S) C) (hC : CC S AD C) (hW : WF S) {o p : Int32} (hQ : Q (some (.int (op_find S o p))) h n) : mj_bk f w 36 [.ref (AD 5 0), .int o, .int p] h n mc ms Q := by
  obtain ⟨plc, hO⟩ := hC.os hM
  have w2 := hW.2.1
  refine mj_begin (by omega) (by decide) (by show 25 ≤ w; omega) rfl ?_
  show mj_W _ _ 36 mj_noZ Q 0 [.ref (AD 5 0), .int o, .int p, .retAddr 0, .retAddr 0, .retAddr 0] [] h n mc ms
  have loop : ∀ m k r, k + m = 20 → r ≤ S_np S → Q (some (.int (oI (findP S o r m)))) h n → ∀ v5, mj_W (f - 1) (w - (19 + mj_maxL 36)) 36 mj_noZ Q 16 [.ref (AD 5 0), .int o, .int p, hmv AD r, .int (nI k), v5] [] h n mc ms := by
    intro m
    induction m with
    | zero =>
      intro k r hk hr hQ v5
      obtain rfl : k = 20 := by omega
      rw [sX2_find_16, sX2_find_18, sX2_find_20]
      refine And.intro (fun _ => ?_) (fun c => absurd (by decide) c)
      simp only [sX2_find_62, sX2_find_63, Option.some.injEq, Sum.inr.injEq, Sum.inl.injEq, Prod.mk.injEq, true_and, and_true, exists_eq_left', exists_eq_left, exists_eq_right, exists_eq_right', exists_and_left, exists_and_right, List.getElem?_cons_succ, List.getElem?_cons_zero, List.length_cons, List.length_nil, List.set_cons_zero, List.set_cons_succ, Option.toList_some, Option.toList_none, List.nil_append, List.cons_append, mj_up_s, true_or, or_true, Nat.sub_zero, and_assoc, b10, not_true_eq_false, not_false_eq_true, false_implies, true_implies, implies_true, eq_self, and_self, rf_some, rf_none]
      cases r <;> simpa [findP, oI] using hQ
    | succ m ih =>
      intro k r hk hr hQ v5
      have e1 : nI k + 1 = nI (k + 1) := nI_1 k
      rw [sX2_find_16, sX2_find_18, sX2_find_20]
      refine And.intro (fun c => absurd c (show ¬ nI 20 ≤ nI k from nI_ge (by omega) (by omega))) (fun _ => ?_)
      cases r with
      | zero =>
        simp only [hmv, sX2_find_0, sX2_find_1, sX2_find_5, sX2_find_5n, sX2_find_6, sX2_find_6n, sX2_find_7, sX2_find_7n, sX2_find_10, sX2_find_12, sX2_find_13, sX2_find_14, sX2_find_18, sX2_find_20, sX2_find_23, sX2_find_23n, sX2_find_24, sX2_find_24n, sX2_find_27, sX2_find_27n, sX2_find_28, sX2_find_32, sX2_find_34, sX2_find_36, sX2_find_37, sX2_find_40, sX2_find_42, sX2_find_42n, sX2_find_43, sX2_find_46, sX2_find_47, sX2_find_49, sX2_find_50, sX2_find_51, sX2_find_51n, sX2_find_52, sX2_find_55, sX2_find_55n, sX2_find_56, sX2_find_59, sX2_find_62, sX2_find_63, Option.some.injEq, Sum.inr.injEq, Sum.inl.injEq, Prod.mk.injEq, true_and, and_true, exists_eq_left', exists_eq_left, exists_eq_right, exists_eq_right', exists_and_left, exists_and_right, List.getElem?_cons_succ, List.getElem?_cons_zero, List.length_cons, List.length_nil, List.set_cons_zero, List.set_cons_succ, Option.toList_some, Option.toList_none, List.nil_append, List.cons_append, mj_up_s, true_or, or_true, Nat.sub_zero, and_assoc, b10, not_true_eq_false, not_false_eq_true, false_implies, true_implies, implies_true, eq_self, and_self, rf_some, rf_none]
        simpa [findP, oI] using hQ
      | succ q =>
        have hP := hC.pkc hM (p := q) (by omega)
        have hPK := hC.pk hM hW (p := q) (by omega)
        have hct := (hW.2.2.2.2.2 q (by omega)).1.1
        have hex := (hW.2.2.2.2.2 q (by omega)).2
        simp only [hmv, sX2_find_23, sX2_find_24, sX2_find_27, sX2_find_28, Option.some.injEq, Sum.inr.injEq, Sum.inl.injEq, Prod.mk.injEq, true_and, and_true, exists_eq_left', exists_eq_left, exists_eq_right, exists_eq_right', exists_and_left, exists_and_right, List.getElem?_cons_succ, List.getElem?_cons_zero, List.length_cons, List.length_nil, List.set_cons_zero, List.set_cons_succ, Option.toList_some, Option.toList_none, List.nil_append, List.cons_append, mj_up_s, true_or, or_true, Nat.sub_zero, and_assoc, b10, not_true_eq_false, not_false_eq_true, false_implies, true_implies, implies_true, eq_self, and_self, rf_some, rf_none]
        refine sX2_find_29z hP rfl (c_firstPairOf (by omega) (by show 67 ≤ w - 25; omega) hPK ?_)
        unfold findP at hQ
        cases hfp : S_fp S q o with
        | some kk =>
          rw [hfp] at hQ
          have hkk := (findN_some hfp).2.1
          simp only [oI, sX2_find_0, sX2_find_1, sX2_find_5, sX2_find_5n, sX2_find_6, sX2_find_6n, sX2_find_7, sX2_find_7n, sX2_find_10, sX2_find_12, sX2_find_13, sX2_find_14, sX2_find_18, sX2_find_20, sX2_find_23, sX2_find_23n, sX2_find_24, sX2_find_24n, sX2_find_27, sX2_find_27n, sX2_find_28, sX2_find_32, sX2_find_34, sX2_find_36, sX2_find_37, sX2_find_40, sX2_find_42, sX2_find_42n, sX2_find_43, sX2_find_46, sX2_find_47, sX2_find_49, sX2_find_50, sX2_find_51, sX2_find_51n, sX2_find_52, sX2_find_55, sX2_find_55n, sX2_find_56, sX2_find_59, sX2_find_62, sX2_find_63, hP, Option.some.injEq, Sum.inr.injEq, Sum.inl.injEq, Prod.mk.injEq, true_and, and_true, exists_eq_left', exists_eq_left, exists_eq_right, exists_eq_right', exists_and_left, exists_and_right, List.getElem?_cons_succ, List.getElem?_cons_zero, List.length_cons, List.length_nil, List.set_cons_zero, List.set_cons_succ, Option.toList_some, Option.toList_none, List.nil_append, List.cons_append, mj_up_s, true_or, or_true, Nat.sub_zero, and_assoc, b10, not_true_eq_false, not_false_eq_true, false_implies, true_implies, implies_true, eq_self, and_self, rf_some, rf_none]
          refine And.intro (fun c => ?_) (fun _ => ?_)
          · exfalso
            have := nI_tI (n := kk) (by omega)
            rw [c] at this
            simp only [i32_m1] at this
            omega
          · have e : (100 : Int32) * nI q + nI kk = nI (100 * q + kk) := by
              rw [show (100 : Int32) = nI 100 from rfl, pk_mul, nI_add]
            rw [e]; exact hQ
        | none =>
          rw [hfp] at hQ
          have go := ih (k + 1) (S_ex S q) (by omega) hex hQ (.int (-1))
          cases hE : S_ex S q with
          | zero =>
            rw [hE] at go hP
            simp only [hmv] at go hP
            simp only [oI, sX2_find_0, sX2_find_1, sX2_find_5, sX2_find_5n, sX2_find_6, sX2_find_6n, sX2_find_7, sX2_find_7n, sX2_find_10, sX2_find_12, sX2_find_13, sX2_find_14, sX2_find_18, sX2_find_20, sX2_find_23, sX2_find_23n, sX2_find_24, sX2_find_24n, sX2_find_27, sX2_find_27n, sX2_find_28, sX2_find_32, sX2_find_34, sX2_find_36, sX2_find_37, sX2_find_40, sX2_find_42, sX2_find_42n, sX2_find_43, sX2_find_46, sX2_find_47, sX2_find_49, sX2_find_50, sX2_find_51, sX2_find_51n, sX2_find_52, sX2_find_55, sX2_find_55n, sX2_find_56, sX2_find_59, sX2_find_62, sX2_find_63, hP, Option.some.injEq, Sum.inr.injEq, Sum.inl.injEq, Prod.mk.injEq, true_and, and_true, exists_eq_left', exists_eq_left, exists_eq_right, exists_eq_right', exists_and_left, exists_and_right, List.getElem?_cons_succ, List.getElem?_cons_zero, List.length_cons, List.length_nil, List.set_cons_zero, List.set_cons_succ, Option.toList_some, Option.toList_none, List.nil_append, List.cons_append, mj_up_s, true_or, or_true, Nat.sub_zero, and_assoc, b10, not_true_eq_false, not_false_eq_true, false_implies, true_implies, implies_true, eq_self, and_self, rf_some, rf_none, e1]
            exact go
          | succ u =>
            rw [hE] at go hP
            simp only [hmv] at go hP
            simp only [oI, sX2_find_0, sX2_find_1, sX2_find_5, sX2_find_5n, sX2_find_6, sX2_find_6n, sX2_find_7, sX2_find_7n, sX2_find_10, sX2_find_12, sX2_find_13, sX2_find_14, sX2_find_18, sX2_find_20, sX2_find_23, sX2_find_23n, sX2_find_24, sX2_find_24n, sX2_find_27, sX2_find_27n, sX2_find_28, sX2_find_32, sX2_find_34, sX2_find_36, sX2_find_37, sX2_find_40, sX2_find_42, sX2_find_42n, sX2_find_43, sX2_find_46, sX2_find_47, sX2_find_49, sX2_find_50, sX2_find_51, sX2_find_51n, sX2_find_52, sX2_find_55, sX2_find_55n, sX2_find_56, sX2_find_59, sX2_find_62, sX2_find_63, hP, Option.some.injEq, Sum.inr.injEq, Sum.inl.injEq, Prod.mk.injEq, true_and, and_true, exists_eq_left', exists_eq_left, exists_eq_right, exists_eq_right', exists_and_left, exists_and_right, List.getElem?_cons_succ, List.getElem?_cons_zero, List.length_cons, List.length_nil, List.set_cons_zero, List.set_cons_succ, Option.toList_some, Option.toList_none, List.nil_append, List.cons_append, mj_up_s, true_or, or_true, Nat.sub_zero, and_assoc, b10, not_true_eq_false, not_false_eq_true, false_implies, true_implies, implies_true, eq_self, and_self, rf_some, rf_none, e1]
            exact go
  simp only [sX2_find_0, sX2_find_1, sX2_find_5, sX2_find_5n, sX2_find_6, sX2_find_6n, sX2_find_7, sX2_find_7n, sX2_find_10, sX2_find_12, sX2_find_13, sX2_find_14, sX2_find_18, sX2_find_20, sX2_find_23, sX2_find_23n, sX2_find_24, sX2_find_24n, sX2_find_27, sX2_find_27n, sX2_find_28, sX2_find_32, sX2_find_34, sX2_find_36, sX2_find_37, sX2_find_40, sX2_find_42, sX2_find_42n, sX2_find_43, sX2_find_46, sX2_find_47, sX2_find_49, sX2_find_50, sX2_find_51, sX2_find_51n, sX2_find_52, sX2_find_55, sX2_find_55n, sX2_find_56, sX2_find_59, sX2_find_62, sX2_find_63, Option.some.injEq, Sum.inr.injEq, Sum.inl.injEq, Prod.mk.injEq, true_and, and_true, exists_eq_left', exists_eq_left, exists_eq_right, exists_eq_right', exists_and_left, exists_and_right, List.getElem?_cons_succ, List.getElem?_cons_zero, List.length_cons, List.length_nil, List.set_cons_zero, List.set_cons_succ, Option.toList_some, Option.toList_none, List.nil_append, List.cons_append, mj_up_s, true_or, or_true, Nat.sub_zero, and_assoc, b10, not_true_eq_false, not_false_eq_true, false_implies, true_implies, implies_true, eq_self, and_self, rf_some, rf_none]
  refine sX2_find_2z hO rfl (m_packOf (by omega) (by show 21 ≤ w - 25; omega) hM hC hW ?_)
  unfold op_find at hQ
  by_cases hc : pkI S p = true
  · rw [if_pos hc] at hQ ⊢
    obtain ⟨j, rfl, j1, j2⟩ := cl_iff.mp hc
    rw [nI_cl j1] at hQ ⊢
    simp only [sX2_find_0, sX2_find_1, sX2_find_5, sX2_find_5n, sX2_find_6, sX2_find_6n, sX2_find_7, sX2_find_7n, sX2_find_10, sX2_find_12, sX2_find_13, sX2_find_14, sX2_find_18, sX2_find_20, sX2_find_23, sX2_find_23n, sX2_find_24, sX2_find_24n, sX2_find_27, sX2_find_27n, sX2_find_28, sX2_find_32, sX2_find_34, sX2_find_36, sX2_find_37, sX2_find_40, sX2_find_42, sX2_find_42n, sX2_find_43, sX2_find_46, sX2_find_47, sX2_find_49, sX2_find_50, sX2_find_51, sX2_find_51n, sX2_find_52, sX2_find_55, sX2_find_55n, sX2_find_56, sX2_find_59, sX2_find_62, sX2_find_63, Option.some.injEq, Sum.inr.injEq, Sum.inl.injEq, Prod.mk.injEq, true_and, and_true, exists_eq_left', exists_eq_left, exists_eq_right, exists_eq_right', exists_and_left, exists_and_right, List.getElem?_cons_succ, List.getElem?_cons_zero, List.length_cons, List.length_nil, List.set_cons_zero, List.set_cons_succ, Option.toList_some, Option.toList_none, List.nil_append, List.cons_append, mj_up_s, true_or, or_true, Nat.sub_zero, and_assoc, b10, not_true_eq_false, not_false_eq_true, false_implies, true_implies, implies_true, eq_self, and_self, rf_some, rf_none]
    exact loop 20 0 (j + 1) (by omega) (by omega) hQ _
  · rw [if_neg hc] at hQ ⊢
    simp only [sX2_find_0, sX2_find_1, sX2_find_5, sX2_find_5n, sX2_find_6, sX2_find_6n, sX2_find_7, sX2_find_7n, sX2_find_10, sX2_find_12, sX2_find_13, sX2_find_14, sX2_find_18, sX2_find_20, sX2_find_23, sX2_find_23n, sX2_find_24, sX2_find_24n, sX2_find_27, sX2_find_27n, sX2_find_28, sX2_find_32, sX2_find_34, sX2_find_36, sX2_find_37, sX2_find_40, sX2_find_42, sX2_find_42n, sX2_find_43, sX2_find_46, sX2_find_47, sX2_find_49, sX2_find_50, sX2_find_51, sX2_find_51n, sX2_find_52, sX2_find_55, sX2_find_55n, sX2_find_56, sX2_find_59, sX2_find_62, sX2_find_63, Option.some.injEq, Sum.inr.injEq, Sum.inl.injEq, Prod.mk.injEq, true_and, and_true, exists_eq_left', exists_eq_left, exists_eq_right, exists_eq_right', exists_and_left, exists_and_right, List.getElem?_cons_succ, List.getElem?_cons_zero, List.length_cons, List.length_nil, List.set_cons_zero, List.set_cons_succ, Option.toList_some, Option.toList_none, List.nil_append, List.cons_append, mj_up_s, true_or, or_true, Nat.sub_zero, and_assoc, b10, not_true_eq_false, not_false_eq_true, false_implies, true_implies, implies_true, eq_self, and_self, rf_some, rf_none]
    exact hQ
set_option maxRecDepth 100000 in
theorem m_faultOf (hf : 4 ≤ f) (hw : 92 ≤ w) (hM : MEM h n AD (VS S) C) (hC : CC S AD C) (hW : WF S) {p k : Nat} (hp : p < S_np S) (hk : k < S_ct S p) (hQ : Q (some (.int (nI (S_wr S p k)))) h n) : mj_bk f w 42 [.ref (AD 5 0), .ref (AD 3 p), .int (nI k), .int (oI (S_cl S p k))] h n mc ms Q := by
  obtain ⟨plc, hO⟩ := hC.os hM
  have hP := hC.pkc hM hp
  have hPK := hC.pk hM hW hp
  obtain ⟨p1, p2, p3, p4⟩ := (hW.2.2.2.2.2 p hp).1
  have w0 := hW.1
  have hnum := S_num_lt (S := S) (p := p) (k := k) (wh := 0) p4
  refine mj_begin (by omega) (by decide) (by show 25 ≤ w; omega) rfl ?_
  show mj_W _ _ 42 mj_noZ Q 0 [.ref (AD 5 0), .ref (AD 3 p), .int (nI k), .int (oI (S_cl S p k)), .retAddr 0, .retAddr 0] [] h n mc ms
  simp only [sX2_faultOf_0, sX2_faultOf_0n, sX2_faultOf_1, sX2_faultOf_5, sX2_faultOf_8, sX2_faultOf_9, sX2_faultOf_10, sX2_faultOf_11, sX2_faultOf_12, sX2_faultOf_15, sX2_faultOf_16, sX2_faultOf_17, sX2_faultOf_17n, sX2_faultOf_18, sX2_faultOf_19, sX2_faultOf_23, sX2_faultOf_25, sX2_faultOf_26, sX2_faultOf_31, sX2_faultOf_31n, sX2_faultOf_33, sX2_faultOf_33n, sX2_faultOf_35, sX2_faultOf_35n, sX2_faultOf_38, sX2_faultOf_39, sX2_faultOf_40, sX2_faultOf_40n, sX2_faultOf_42, sX2_faultOf_45, sX2_faultOf_46, sX2_faultOf_49, sX2_faultOf_50, sX2_faultOf_51, sX2_faultOf_51n, sX2_faultOf_52, sX2_faultOf_57, sX2_faultOf_58, sX2_faultOf_61, sX2_faultOf_62, sX2_faultOf_65, sX2_faultOf_66, Option.some.injEq, Sum.inr.injEq, Sum.inl.injEq, Prod.mk.injEq, true_and, and_true, exists_eq_left', exists_eq_left, exists_eq_right, exists_eq_right', exists_and_left, exists_and_right, List.getElem?_cons_succ, List.getElem?_cons_zero, List.length_cons, List.length_nil, List.set_cons_zero, List.set_cons_succ, Option.toList_some, Option.toList_none, List.nil_append, List.cons_append, mj_up_s, true_or, or_true, Nat.sub_zero, and_assoc, b10, not_true_eq_false, not_false_eq_true, false_implies, true_implies, implies_true, eq_self, and_self, rf_some, rf_none]
  refine sX2_faultOf_2z hP rfl (c_isThere (by omega) (by show 22 ≤ w - 25; omega) hPK ?_)
  rw [S_thI_n (by omega)]
  unfold S_wr at hQ
  by_cases hc : S_th S p k = true
  · rw [if_pos hc] at hQ ⊢
    simp only [sX2_faultOf_0, sX2_faultOf_0n, sX2_faultOf_1, sX2_faultOf_5, sX2_faultOf_8, sX2_faultOf_9, sX2_faultOf_10, sX2_faultOf_11, sX2_faultOf_12, sX2_faultOf_15, sX2_faultOf_16, sX2_faultOf_17, sX2_faultOf_17n, sX2_faultOf_18, sX2_faultOf_19, sX2_faultOf_23, sX2_faultOf_25, sX2_faultOf_26, sX2_faultOf_31, sX2_faultOf_31n, sX2_faultOf_33, sX2_faultOf_33n, sX2_faultOf_35, sX2_faultOf_35n, sX2_faultOf_38, sX2_faultOf_39, sX2_faultOf_40, sX2_faultOf_40n, sX2_faultOf_42, sX2_faultOf_45, sX2_faultOf_46, sX2_faultOf_49, sX2_faultOf_50, sX2_faultOf_51, sX2_faultOf_51n, sX2_faultOf_52, sX2_faultOf_57, sX2_faultOf_58, sX2_faultOf_61, sX2_faultOf_62, sX2_faultOf_65, sX2_faultOf_66, Option.some.injEq, Sum.inr.injEq, Sum.inl.injEq, Prod.mk.injEq, true_and, and_true, exists_eq_left', exists_eq_left, exists_eq_right, exists_eq_right', exists_and_left, exists_and_right, List.getElem?_cons_succ, List.getElem?_cons_zero, List.length_cons, List.length_nil, List.set_cons_zero, List.set_cons_succ, Option.toList_some, Option.toList_none, List.nil_append, List.cons_append, mj_up_s, true_or, or_true, Nat.sub_zero, and_assoc, b10, not_true_eq_false, not_false_eq_true, false_implies, true_implies, implies_true, eq_self, and_self, rf_some, rf_none]
    cases hcl : S_cl S p k with
    | none =>
      rw [hcl, if_pos rfl] at hQ
      exact And.intro (fun c => absurd rfl c) (fun _ => hQ)
    | some L =>
      rw [hcl, if_neg (by intro e; cases e)] at hQ
      have hLt := S_cl_lt p4 hcl
      refine And.intro (fun _ => ?_) (fun c => ?_)
      rotate_left
      · exfalso
        have c : nI L = -1 := by simpa [oI] using c
        have := nI_tI (n := L) (by omega)
        rw [c] at this
        simp only [i32_m1] at this
        omega
      refine sX2_faultOf_20z hP rfl (c_numberOf (wh := 0) (by omega) (by show 45 ≤ w - 25; omega) hPK (by omega) ?_)
      rw [S_thI_n (by omega), nI_cl (by omega), if_pos hc]
      simp only [sX2_faultOf_0, sX2_faultOf_0n, sX2_faultOf_1, sX2_faultOf_5, sX2_faultOf_8, sX2_faultOf_9, sX2_faultOf_10, sX2_faultOf_11, sX2_faultOf_12, sX2_faultOf_15, sX2_faultOf_16, sX2_faultOf_17, sX2_faultOf_17n, sX2_faultOf_18, sX2_faultOf_19, sX2_faultOf_23, sX2_faultOf_25, sX2_faultOf_26, sX2_faultOf_31, sX2_faultOf_31n, sX2_faultOf_33, sX2_faultOf_33n, sX2_faultOf_35, sX2_faultOf_35n, sX2_faultOf_38, sX2_faultOf_39, sX2_faultOf_40, sX2_faultOf_40n, sX2_faultOf_42, sX2_faultOf_45, sX2_faultOf_46, sX2_faultOf_49, sX2_faultOf_50, sX2_faultOf_51, sX2_faultOf_51n, sX2_faultOf_52, sX2_faultOf_57, sX2_faultOf_58, sX2_faultOf_61, sX2_faultOf_62, sX2_faultOf_65, sX2_faultOf_66, Option.some.injEq, Sum.inr.injEq, Sum.inl.injEq, Prod.mk.injEq, true_and, and_true, exists_eq_left', exists_eq_left, exists_eq_right, exists_eq_right', exists_and_left, exists_and_right, List.getElem?_cons_succ, List.getElem?_cons_zero, List.length_cons, List.length_nil, List.set_cons_zero, List.set_cons_succ, Option.toList_some, Option.toList_none, List.nil_append, List.cons_append, mj_up_s, true_or, or_true, Nat.sub_zero, and_assoc, b10, not_true_eq_false, not_false_eq_true, false_implies, true_implies, implies_true, eq_self, and_self, rf_some, rf_none]
      refine sX2_faultOf_28z hO rfl (m_itemOf (by omega) (by show 21 ≤ w - 25; omega) hM hC hW ?_)
      rw [obI_n (by omega), nI_cl (by omega)]
      by_cases hno : S_no S ≤ S_num S p k 0
      · rw [if_pos hno] at hQ
        rw [if_neg (by simp; omega)]
        simp only [sX2_faultOf_0, sX2_faultOf_0n, sX2_faultOf_1, sX2_faultOf_5, sX2_faultOf_8, sX2_faultOf_9, sX2_faultOf_10, sX2_faultOf_11, sX2_faultOf_12, sX2_faultOf_15, sX2_faultOf_16, sX2_faultOf_17, sX2_faultOf_17n, sX2_faultOf_18, sX2_faultOf_19, sX2_faultOf_23, sX2_faultOf_25, sX2_faultOf_26, sX2_faultOf_31, sX2_faultOf_31n, sX2_faultOf_33, sX2_faultOf_33n, sX2_faultOf_35, sX2_faultOf_35n, sX2_faultOf_38, sX2_faultOf_39, sX2_faultOf_40, sX2_faultOf_40n, sX2_faultOf_42, sX2_faultOf_45, sX2_faultOf_46, sX2_faultOf_49, sX2_faultOf_50, sX2_faultOf_51, sX2_faultOf_51n, sX2_faultOf_52, sX2_faultOf_57, sX2_faultOf_58, sX2_faultOf_61, sX2_faultOf_62, sX2_faultOf_65, sX2_faultOf_66, Option.some.injEq, Sum.inr.injEq, Sum.inl.injEq, Prod.mk.injEq, true_and, and_true, exists_eq_left', exists_eq_left, exists_eq_right, exists_eq_right', exists_and_left, exists_and_right, List.getElem?_cons_succ, List.getElem?_cons_zero, List.length_cons, List.length_nil, List.set_cons_zero, List.set_cons_succ, Option.toList_some, Option.toList_none, List.nil_append, List.cons_append, mj_up_s, true_or, or_true, Nat.sub_zero, and_assoc, b10, not_true_eq_false, not_false_eq_true, false_implies, true_implies, implies_true, eq_self, and_self, rf_some, rf_none]
        exact hQ
      · rw [if_neg hno] at hQ
        rw [if_pos (by simp; omega)]
        obtain ⟨wt, hx⟩ := hC.it hM (i := S_num S p k 0) (by omega)
        have hkd := (hW.2.2.2.1 (S_num S p k 0) (by omega)).1
        simp only [sX2_faultOf_0, sX2_faultOf_0n, sX2_faultOf_1, sX2_faultOf_5, sX2_faultOf_8, sX2_faultOf_9, sX2_faultOf_10, sX2_faultOf_11, sX2_faultOf_12, sX2_faultOf_15, sX2_faultOf_16, sX2_faultOf_17, sX2_faultOf_17n, sX2_faultOf_18, sX2_faultOf_19, sX2_faultOf_23, sX2_faultOf_25, sX2_faultOf_26, sX2_faultOf_31, sX2_faultOf_31n, sX2_faultOf_33, sX2_faultOf_33n, sX2_faultOf_35, sX2_faultOf_35n, sX2_faultOf_38, sX2_faultOf_39, sX2_faultOf_40, sX2_faultOf_40n, sX2_faultOf_42, sX2_faultOf_45, sX2_faultOf_46, sX2_faultOf_49, sX2_faultOf_50, sX2_faultOf_51, sX2_faultOf_51n, sX2_faultOf_52, sX2_faultOf_57, sX2_faultOf_58, sX2_faultOf_61, sX2_faultOf_62, sX2_faultOf_65, sX2_faultOf_66, hx, Option.some.injEq, Sum.inr.injEq, Sum.inl.injEq, Prod.mk.injEq, true_and, and_true, exists_eq_left', exists_eq_left, exists_eq_right, exists_eq_right', exists_and_left, exists_and_right, List.getElem?_cons_succ, List.getElem?_cons_zero, List.length_cons, List.length_nil, List.set_cons_zero, List.set_cons_succ, Option.toList_some, Option.toList_none, List.nil_append, List.cons_append, mj_up_s, true_or, or_true, Nat.sub_zero, and_assoc, b10, not_true_eq_false, not_false_eq_true, false_implies, true_implies, implies_true, eq_self, and_self, rf_some, rf_none]
        by_cases hk1 : S_kd S (S_num S p k 0) = 1
        · rw [if_pos hk1] at hQ
          exact And.intro (fun c => absurd (by rw [hk1]; rfl) c) (fun _ => hQ)
        · rw [if_neg hk1] at hQ
          refine And.intro (fun _ => ?_) (fun c => absurd (fun e : nI (S_kd S (S_num S p k 0)) = 1 => hk1 ((nI_eq (by omega) (by omega)).mp (show nI _ = nI 1 from e))) c)
          refine sX2_faultOf_54z hP rfl (c_firstPairOf (by omega) (by show 67 ≤ w - 25; omega) hPK ?_)
          have hisk : S_isO S p (nI (S_num S p k 0)) k = true := by simp [S_isO, hc]
          cases hfp : S_fp S p (nI (S_num S p k 0)) with
          | none => exact absurd hisk (findN_none hfp k (by omega) (by omega))
          | some k0 =>
            obtain ⟨-, q2, q3, q4⟩ := findN_some hfp
            have hk0 : k0 ≤ k := by
              rcases Nat.lt_or_ge k k0 with hlt | hge
              · exact absurd hisk (q4 k (by omega) hlt)
              · exact hge
            simp only [oI, sX2_faultOf_0, sX2_faultOf_0n, sX2_faultOf_1, sX2_faultOf_5, sX2_faultOf_8, sX2_faultOf_9, sX2_faultOf_10, sX2_faultOf_11, sX2_faultOf_12, sX2_faultOf_15, sX2_faultOf_16, sX2_faultOf_17, sX2_faultOf_17n, sX2_faultOf_18, sX2_faultOf_19, sX2_faultOf_23, sX2_faultOf_25, sX2_faultOf_26, sX2_faultOf_31, sX2_faultOf_31n, sX2_faultOf_33, sX2_faultOf_33n, sX2_faultOf_35, sX2_faultOf_35n, sX2_faultOf_38, sX2_faultOf_39, sX2_faultOf_40, sX2_faultOf_40n, sX2_faultOf_42, sX2_faultOf_45, sX2_faultOf_46, sX2_faultOf_49, sX2_faultOf_50, sX2_faultOf_51, sX2_faultOf_51n, sX2_faultOf_52, sX2_faultOf_57, sX2_faultOf_58, sX2_faultOf_61, sX2_faultOf_62, sX2_faultOf_65, sX2_faultOf_66, Option.some.injEq, Sum.inr.injEq, Sum.inl.injEq, Prod.mk.injEq, true_and, and_true, exists_eq_left', exists_eq_left, exists_eq_right, exists_eq_right', exists_and_left, exists_and_right, List.getElem?_cons_succ, List.getElem?_cons_zero, List.length_cons, List.length_nil, List.set_cons_zero, List.set_cons_succ, Option.toList_some, Option.toList_none, List.nil_append, List.cons_append, mj_up_s, true_or, or_true, Nat.sub_zero, and_assoc, b10, not_true_eq_false, not_false_eq_true, false_implies, true_implies, implies_true, eq_self, and_self, rf_some, rf_none]
            by_cases hb : S_bef S p k (S_num S p k 0) = true
            · rw [if_pos hb] at hQ
              have hlt : k0 < k := by
                unfold S_bef at hb
                cases hx2 : findN (S_isO S p (nI (S_num S p k 0))) 0 k with
                | none => rw [hx2] at hb; cases hb
                | some k1 =>
                  obtain ⟨-, r2, r3, -⟩ := findN_some hx2
                  rcases Nat.lt_or_ge k1 k0 with hlt | hge
                  · exact absurd r3 (q4 k1 (by omega) hlt)
                  · omega
              exact And.intro (fun c => absurd c (nI_ge hlt (by omega))) (fun _ => hQ)
            · rw [if_neg hb] at hQ
              have hge : k ≤ k0 := by
                rcases Nat.lt_or_ge k0 k with hlt | hge
                · exfalso
                  apply hb
                  unfold S_bef
                  cases hx2 : findN (S_isO S p (nI (S_num S p k 0))) 0 k with
                  | none => exact absurd q3 (findN_none hx2 k0 (by omega) (by omega))
                  | some k1 => rfl
                · exact hge
              exact And.intro (fun _ => hQ) (fun c => absurd (nI_le hge (by omega)) c)
  · rw [if_neg hc] at hQ ⊢
    simp only [sX2_faultOf_0, sX2_faultOf_0n, sX2_faultOf_1, sX2_faultOf_5, sX2_faultOf_8, sX2_faultOf_9, sX2_faultOf_10, sX2_faultOf_11, sX2_faultOf_12, sX2_faultOf_15, sX2_faultOf_16, sX2_faultOf_17, sX2_faultOf_17n, sX2_faultOf_18, sX2_faultOf_19, sX2_faultOf_23, sX2_faultOf_25, sX2_faultOf_26, sX2_faultOf_31, sX2_faultOf_31n, sX2_faultOf_33, sX2_faultOf_33n, sX2_faultOf_35, sX2_faultOf_35n, sX2_faultOf_38, sX2_faultOf_39, sX2_faultOf_40, sX2_faultOf_40n, sX2_faultOf_42, sX2_faultOf_45, sX2_faultOf_46, sX2_faultOf_49, sX2_faultOf_50, sX2_faultOf_51, sX2_faultOf_51n, sX2_faultOf_52, sX2_faultOf_57, sX2_faultOf_58, sX2_faultOf_61, sX2_faultOf_62, sX2_faultOf_65, sX2_faultOf_66, Option.some.injEq, Sum.inr.injEq, Sum.inl.injEq, Prod.mk.injEq, true_and, and_true, exists_eq_left', exists_eq_left, exists_eq_right, exists_eq_right', exists_and_left, exists_and_right, List.getElem?_cons_succ, List.getElem?_cons_zero, List.length_cons, List.length_nil, List.set_cons_zero, List.set_cons_succ, Option.toList_some, Option.toList_none, List.nil_append, List.cons_append, mj_up_s, true_or, or_true, Nat.sub_zero, and_assoc, b10, not_true_eq_false, not_false_eq_true, false_implies, true_implies, implies_true, eq_self, and_self, rf_some, rf_none]
    exact hQ
set_option maxRecDepth 100000 in
theorem m_packedItems (hf : 2 ≤ f) (hw : 44 ≤ w) (hM : MEM h n AD (VS S) C) (hC : CC S AD C) (hW : WF S) (hQ : Q (some (.int (nI (cntN (fun i => decide (S_pk S i ≠ 0)) (S_no S))))) h n) : mj_bk f w 44 [.ref (AD 5 0)] h n mc ms Q := by
  obtain ⟨plc, hO⟩ := hC.os hM
  have w0 := hW.1
  refine mj_begin (by omega) (by decide) (by show 23 ≤ w; omega) rfl ?_
  show mj_W _ _ 44 mj_noZ Q 0 [.ref (AD 5 0), .retAddr 0, .retAddr 0, .retAddr 0] [] h n mc ms
  have loop : ∀ m k, k + m = S_no S → ∀ v3, mj_W (f - 1) (w - (19 + mj_maxL 44)) 44 mj_noZ Q 4 [.ref (AD 5 0), .int (nI (cntN (fun i => decide (S_pk S i ≠ 0)) k)), .int (nI k), v3] [] h n mc ms := by
    intro m
    induction m with
    | zero =>
      intro k hk v3
      obtain rfl : k = S_no S := by omega
      rw [sX2_packedItems_4]
      simp only [sX2_packedItems_0, sX2_packedItems_1, sX2_packedItems_2, sX2_packedItems_3, sX2_packedItems_5, sX2_packedItems_6, sX2_packedItems_9, sX2_packedItems_12, sX2_packedItems_13, sX2_packedItems_17, sX2_packedItems_17n, sX2_packedItems_18, sX2_packedItems_18n, sX2_packedItems_19, sX2_packedItems_19n, sX2_packedItems_22, sX2_packedItems_22n, sX2_packedItems_23, sX2_packedItems_26, sX2_packedItems_26n, sX2_packedItems_29, sX2_packedItems_32, sX2_packedItems_35, sX2_packedItems_38, sX2_packedItems_39, hO, Option.some.injEq, Sum.inr.injEq, Sum.inl.injEq, Prod.mk.injEq, true_and, and_true, exists_eq_left', exists_eq_left, exists_eq_right, exists_eq_right', exists_and_left, exists_and_right, List.getElem?_cons_succ, List.getElem?_cons_zero, List.length_cons, List.length_nil, List.set_cons_zero, List.set_cons_succ, Option.toList_some, Option.toList_none, List.nil_append, List.cons_append, mj_up_s, true_or, or_true, Nat.sub_zero, and_assoc, b10, not_true_eq_false, not_false_eq_true, false_implies, true_implies, implies_true, eq_self, and_self, rf_some, rf_none]
      exact And.intro (fun _ => hQ) (fun c => absurd (nI_le (Nat.le_refl _) (by omega)) c)
    | succ m ih =>
      intro k hk v3
      have e1 : nI k + 1 = nI (k + 1) := nI_1 k
      obtain ⟨wt, hx⟩ := hC.it hM (i := k) (by omega)
      rw [sX2_packedItems_4]
      simp only [sX2_packedItems_0, sX2_packedItems_1, sX2_packedItems_2, sX2_packedItems_3, sX2_packedItems_5, sX2_packedItems_6, sX2_packedItems_9, sX2_packedItems_12, sX2_packedItems_13, sX2_packedItems_17, sX2_packedItems_17n, sX2_packedItems_18, sX2_packedItems_18n, sX2_packedItems_19, sX2_packedItems_19n, sX2_packedItems_22, sX2_packedItems_22n, sX2_packedItems_23, sX2_packedItems_26, sX2_packedItems_26n, sX2_packedItems_29, sX2_packedItems_32, sX2_packedItems_35, sX2_packedItems_38, sX2_packedItems_39, hO, Option.some.injEq, Sum.inr.injEq, Sum.inl.injEq, Prod.mk.injEq, true_and, and_true, exists_eq_left', exists_eq_left, exists_eq_right, exists_eq_right', exists_and_left, exists_and_right, List.getElem?_cons_succ, List.getElem?_cons_zero, List.length_cons, List.length_nil, List.set_cons_zero, List.set_cons_succ, Option.toList_some, Option.toList_none, List.nil_append, List.cons_append, mj_up_s, true_or, or_true, Nat.sub_zero, and_assoc, b10, not_true_eq_false, not_false_eq_true, false_implies, true_implies, implies_true, eq_self, and_self, rf_some, rf_none]
      refine And.intro (fun c => absurd c (nI_ge (by omega) (by omega))) (fun _ => ?_)
      refine sX2_packedItems_14z hO rfl (m_itemOf (by omega) (by show 21 ≤ w - 23; omega) hM hC hW ?_)
      rw [obI_n (by omega), nI_cl (by omega), if_pos (by simp; omega)]
      have go := ih (k + 1) (by omega) (.ref (AD 1 k))
      cases hp : S_pk S k with
      | zero =>
        rw [hp] at hx
        have e2 : cntN (fun i => decide (S_pk S i ≠ 0)) (k + 1) = cntN (fun i => decide (S_pk S i ≠ 0)) k := by simp [cntN, hp]
        rw [e2] at go
        simp only [sX2_packedItems_0, sX2_packedItems_1, sX2_packedItems_2, sX2_packedItems_3, sX2_packedItems_5, sX2_packedItems_6, sX2_packedItems_9, sX2_packedItems_12, sX2_packedItems_13, sX2_packedItems_17, sX2_packedItems_17n, sX2_packedItems_18, sX2_packedItems_18n, sX2_packedItems_19, sX2_packedItems_19n, sX2_packedItems_22, sX2_packedItems_22n, sX2_packedItems_23, sX2_packedItems_26, sX2_packedItems_26n, sX2_packedItems_29, sX2_packedItems_32, sX2_packedItems_35, sX2_packedItems_38, sX2_packedItems_39, hx, hmv, Option.some.injEq, Sum.inr.injEq, Sum.inl.injEq, Prod.mk.injEq, true_and, and_true, exists_eq_left', exists_eq_left, exists_eq_right, exists_eq_right', exists_and_left, exists_and_right, List.getElem?_cons_succ, List.getElem?_cons_zero, List.length_cons, List.length_nil, List.set_cons_zero, List.set_cons_succ, Option.toList_some, Option.toList_none, List.nil_append, List.cons_append, mj_up_s, true_or, or_true, Nat.sub_zero, and_assoc, b10, not_true_eq_false, not_false_eq_true, false_implies, true_implies, implies_true, eq_self, and_self, rf_some, rf_none, e1]
        exact go
      | succ q =>
        rw [hp] at hx
        have e2 : cntN (fun i => decide (S_pk S i ≠ 0)) (k + 1) = cntN (fun i => decide (S_pk S i ≠ 0)) k + 1 := by simp [cntN, hp]
        rw [e2, ← nI_1] at go
        simp only [sX2_packedItems_0, sX2_packedItems_1, sX2_packedItems_2, sX2_packedItems_3, sX2_packedItems_5, sX2_packedItems_6, sX2_packedItems_9, sX2_packedItems_12, sX2_packedItems_13, sX2_packedItems_17, sX2_packedItems_17n, sX2_packedItems_18, sX2_packedItems_18n, sX2_packedItems_19, sX2_packedItems_19n, sX2_packedItems_22, sX2_packedItems_22n, sX2_packedItems_23, sX2_packedItems_26, sX2_packedItems_26n, sX2_packedItems_29, sX2_packedItems_32, sX2_packedItems_35, sX2_packedItems_38, sX2_packedItems_39, hx, hmv, Option.some.injEq, Sum.inr.injEq, Sum.inl.injEq, Prod.mk.injEq, true_and, and_true, exists_eq_left', exists_eq_left, exists_eq_right, exists_eq_right', exists_and_left, exists_and_right, List.getElem?_cons_succ, List.getElem?_cons_zero, List.length_cons, List.length_nil, List.set_cons_zero, List.set_cons_succ, Option.toList_some, Option.toList_none, List.nil_append, List.cons_append, mj_up_s, true_or, or_true, Nat.sub_zero, and_assoc, b10, not_true_eq_false, not_false_eq_true, false_implies, true_implies, implies_true, eq_self, and_self, rf_some, rf_none, e1]
        exact go
  simp only [sX2_packedItems_0, sX2_packedItems_1, sX2_packedItems_2, sX2_packedItems_3, sX2_packedItems_5, sX2_packedItems_6, sX2_packedItems_9, sX2_packedItems_12, sX2_packedItems_13, sX2_packedItems_17, sX2_packedItems_17n, sX2_packedItems_18, sX2_packedItems_18n, sX2_packedItems_19, sX2_packedItems_19n, sX2_packedItems_22, sX2_packedItems_22n, sX2_packedItems_23, sX2_packedItems_26, sX2_packedItems_26n, sX2_packedItems_29, sX2_packedItems_32, sX2_packedItems_35, sX2_packedItems_38, sX2_packedItems_39, Option.some.injEq, Sum.inr.injEq, Sum.inl.injEq, Prod.mk.injEq, true_and, and_true, exists_eq_left', exists_eq_left, exists_eq_right, exists_eq_right', exists_and_left, exists_and_right, List.getElem?_cons_succ, List.getElem?_cons_zero, List.length_cons, List.length_nil, List.set_cons_zero, List.set_cons_succ, Option.toList_some, Option.toList_none, List.nil_append, List.cons_append, mj_up_s, true_or, or_true, Nat.sub_zero, and_assoc, b10, not_true_eq_false, not_false_eq_true, false_implies, true_implies, implies_true, eq_self, and_self, rf_some, rf_none]
  exact loop (S_no S) 0 (by omega) _
set_option maxRecDepth 100000 in
theorem m_lostItems (hf : 6 ≤ f) (hw : 136 ≤ w) (hM : MEM h n AD (VS S) C) (hC : CC S AD C) (hW : WF S) (hQ : Q (some (.int (nI (cntN (fun i => decide (S_size S i = none)) (S_no S))))) h n) : mj_bk f w 45 [.ref (AD 5 0)] h n mc ms Q := by
  obtain ⟨plc, hO⟩ := hC.os hM
  have w0 := hW.1
  refine mj_begin (by omega) (by decide) (by show 23 ≤ w; omega) rfl ?_
  show mj_W _ _ 45 mj_noZ Q 0 [.ref (AD 5 0), .retAddr 0, .retAddr 0, .retAddr 0] [] h n mc ms
  have loop : ∀ m k, k + m = S_no S → ∀ v3, mj_W (f - 1) (w - (19 + mj_maxL 45)) 45 mj_noZ Q 4 [.ref (AD 5 0), .int (nI (cntN (fun i => decide (S_size S i = none)) k)), .int (nI k), v3] [] h n mc ms := by
    intro m
    induction m with
    | zero =>
      intro k hk v3
      obtain rfl : k = S_no S := by omega
      rw [sX2_lostItems_4]
      simp only [sX2_lostItems_0, sX2_lostItems_1, sX2_lostItems_2, sX2_lostItems_3, sX2_lostItems_5, sX2_lostItems_6, sX2_lostItems_9, sX2_lostItems_12, sX2_lostItems_13, sX2_lostItems_17, sX2_lostItems_17n, sX2_lostItems_18, sX2_lostItems_18n, sX2_lostItems_19, sX2_lostItems_19n, sX2_lostItems_22, sX2_lostItems_22n, sX2_lostItems_26, sX2_lostItems_27, sX2_lostItems_30, sX2_lostItems_33, sX2_lostItems_36, sX2_lostItems_39, sX2_lostItems_40, hO, Option.some.injEq, Sum.inr.injEq, Sum.inl.injEq, Prod.mk.injEq, true_and, and_true, exists_eq_left', exists_eq_left, exists_eq_right, exists_eq_right', exists_and_left, exists_and_right, List.getElem?_cons_succ, List.getElem?_cons_zero, List.length_cons, List.length_nil, List.set_cons_zero, List.set_cons_succ, Option.toList_some, Option.toList_none, List.nil_append, List.cons_append, mj_up_s, true_or, or_true, Nat.sub_zero, and_assoc, b10, not_true_eq_false, not_false_eq_true, false_implies, true_implies, implies_true, eq_self, and_self, rf_some, rf_none]
      exact And.intro (fun _ => hQ) (fun c => absurd (nI_le (Nat.le_refl _) (by omega)) c)
    | succ m ih =>
      intro k hk v3
      have e1 : nI k + 1 = nI (k + 1) := nI_1 k
      obtain ⟨wt, hx⟩ := hC.it hM (i := k) (by omega)
      rw [sX2_lostItems_4]
      simp only [sX2_lostItems_0, sX2_lostItems_1, sX2_lostItems_2, sX2_lostItems_3, sX2_lostItems_5, sX2_lostItems_6, sX2_lostItems_9, sX2_lostItems_12, sX2_lostItems_13, sX2_lostItems_17, sX2_lostItems_17n, sX2_lostItems_18, sX2_lostItems_18n, sX2_lostItems_19, sX2_lostItems_19n, sX2_lostItems_22, sX2_lostItems_22n, sX2_lostItems_26, sX2_lostItems_27, sX2_lostItems_30, sX2_lostItems_33, sX2_lostItems_36, sX2_lostItems_39, sX2_lostItems_40, hO, Option.some.injEq, Sum.inr.injEq, Sum.inl.injEq, Prod.mk.injEq, true_and, and_true, exists_eq_left', exists_eq_left, exists_eq_right, exists_eq_right', exists_and_left, exists_and_right, List.getElem?_cons_succ, List.getElem?_cons_zero, List.length_cons, List.length_nil, List.set_cons_zero, List.set_cons_succ, Option.toList_some, Option.toList_none, List.nil_append, List.cons_append, mj_up_s, true_or, or_true, Nat.sub_zero, and_assoc, b10, not_true_eq_false, not_false_eq_true, false_implies, true_implies, implies_true, eq_self, and_self, rf_some, rf_none]
      refine And.intro (fun c => absurd c (nI_ge (by omega) (by omega))) (fun _ => ?_)
      refine sX2_lostItems_14z hO rfl (m_itemOf (by omega) (by show 21 ≤ w - 23; omega) hM hC hW ?_)
      rw [obI_n (by omega), nI_cl (by omega), if_pos (by simp; omega)]
      have go := ih (k + 1) (by omega) (.ref (AD 1 k))
      simp only [sX2_lostItems_0, sX2_lostItems_1, sX2_lostItems_2, sX2_lostItems_3, sX2_lostItems_5, sX2_lostItems_6, sX2_lostItems_9, sX2_lostItems_12, sX2_lostItems_13, sX2_lostItems_17, sX2_lostItems_17n, sX2_lostItems_18, sX2_lostItems_18n, sX2_lostItems_19, sX2_lostItems_19n, sX2_lostItems_22, sX2_lostItems_22n, sX2_lostItems_26, sX2_lostItems_27, sX2_lostItems_30, sX2_lostItems_33, sX2_lostItems_36, sX2_lostItems_39, sX2_lostItems_40, Option.some.injEq, Sum.inr.injEq, Sum.inl.injEq, Prod.mk.injEq, true_and, and_true, exists_eq_left', exists_eq_left, exists_eq_right, exists_eq_right', exists_and_left, exists_and_right, List.getElem?_cons_succ, List.getElem?_cons_zero, List.length_cons, List.length_nil, List.set_cons_zero, List.set_cons_succ, Option.toList_some, Option.toList_none, List.nil_append, List.cons_append, mj_up_s, true_or, or_true, Nat.sub_zero, and_assoc, b10, not_true_eq_false, not_false_eq_true, false_implies, true_implies, implies_true, eq_self, and_self, rf_some, rf_none]
      refine sX2_lostItems_23z hx rfl (m_length (by omega) (by show 113 ≤ w - 23; omega) hM hC hW (by omega) ?_)
      cases hp : S_size S k with
      | none =>
        have e2 : cntN (fun i => decide (S_size S i = none)) (k + 1) = cntN (fun i => decide (S_size S i = none)) k + 1 := by simp [cntN, hp]
        rw [e2, ← nI_1] at go
        simp only [oI, sX2_lostItems_0, sX2_lostItems_1, sX2_lostItems_2, sX2_lostItems_3, sX2_lostItems_5, sX2_lostItems_6, sX2_lostItems_9, sX2_lostItems_12, sX2_lostItems_13, sX2_lostItems_17, sX2_lostItems_17n, sX2_lostItems_18, sX2_lostItems_18n, sX2_lostItems_19, sX2_lostItems_19n, sX2_lostItems_22, sX2_lostItems_22n, sX2_lostItems_26, sX2_lostItems_27, sX2_lostItems_30, sX2_lostItems_33, sX2_lostItems_36, sX2_lostItems_39, sX2_lostItems_40, Option.some.injEq, Sum.inr.injEq, Sum.inl.injEq, Prod.mk.injEq, true_and, and_true, exists_eq_left', exists_eq_left, exists_eq_right, exists_eq_right', exists_and_left, exists_and_right, List.getElem?_cons_succ, List.getElem?_cons_zero, List.length_cons, List.length_nil, List.set_cons_zero, List.set_cons_succ, Option.toList_some, Option.toList_none, List.nil_append, List.cons_append, mj_up_s, true_or, or_true, Nat.sub_zero, and_assoc, b10, not_true_eq_false, not_false_eq_true, false_implies, true_implies, implies_true, eq_self, and_self, rf_some, rf_none, e1]
        exact go
      | some L =>
        have hLt := S_size_lt hW (i := k) (by omega) hp
        have e2 : cntN (fun i => decide (S_size S i = none)) (k + 1) = cntN (fun i => decide (S_size S i = none)) k := by simp [cntN, hp]
        rw [e2] at go
        simp only [oI, sX2_lostItems_0, sX2_lostItems_1, sX2_lostItems_2, sX2_lostItems_3, sX2_lostItems_5, sX2_lostItems_6, sX2_lostItems_9, sX2_lostItems_12, sX2_lostItems_13, sX2_lostItems_17, sX2_lostItems_17n, sX2_lostItems_18, sX2_lostItems_18n, sX2_lostItems_19, sX2_lostItems_19n, sX2_lostItems_22, sX2_lostItems_22n, sX2_lostItems_26, sX2_lostItems_27, sX2_lostItems_30, sX2_lostItems_33, sX2_lostItems_36, sX2_lostItems_39, sX2_lostItems_40, Option.some.injEq, Sum.inr.injEq, Sum.inl.injEq, Prod.mk.injEq, true_and, and_true, exists_eq_left', exists_eq_left, exists_eq_right, exists_eq_right', exists_and_left, exists_and_right, List.getElem?_cons_succ, List.getElem?_cons_zero, List.length_cons, List.length_nil, List.set_cons_zero, List.set_cons_succ, Option.toList_some, Option.toList_none, List.nil_append, List.cons_append, mj_up_s, true_or, or_true, Nat.sub_zero, and_assoc, b10, not_true_eq_false, not_false_eq_true, false_implies, true_implies, implies_true, eq_self, and_self, rf_some, rf_none, e1]
        refine And.intro (fun _ => go) (fun c => ?_)
        exfalso
        have c : nI L = -1 := by simpa using c
        have := nI_tI (n := L) (by omega)
        rw [c] at this
        simp only [i32_m1] at this
        omega
  simp only [sX2_lostItems_0, sX2_lostItems_1, sX2_lostItems_2, sX2_lostItems_3, sX2_lostItems_5, sX2_lostItems_6, sX2_lostItems_9, sX2_lostItems_12, sX2_lostItems_13, sX2_lostItems_17, sX2_lostItems_17n, sX2_lostItems_18, sX2_lostItems_18n, sX2_lostItems_19, sX2_lostItems_19n, sX2_lostItems_22, sX2_lostItems_22n, sX2_lostItems_26, sX2_lostItems_27, sX2_lostItems_30, sX2_lostItems_33, sX2_lostItems_36, sX2_lostItems_39, sX2_lostItems_40, Option.some.injEq, Sum.inr.injEq, Sum.inl.injEq, Prod.mk.injEq, true_and, and_true, exists_eq_left', exists_eq_left, exists_eq_right, exists_eq_right', exists_and_left, exists_and_right, List.getElem?_cons_succ, List.getElem?_cons_zero, List.length_cons, List.length_nil, List.set_cons_zero, List.set_cons_succ, Option.toList_some, Option.toList_none, List.nil_append, List.cons_append, mj_up_s, true_or, or_true, Nat.sub_zero, and_assoc, b10, not_true_eq_false, not_false_eq_true, false_implies, true_implies, implies_true, eq_self, and_self, rf_some, rf_none]
  exact loop (S_no S) 0 (by omega) _
set_option maxRecDepth 100000 in
theorem m_allOctets (hf : 2 ≤ f) (hw : 44 ≤ w) (hM : MEM h n AD (VS S) C) (hC : CC S AD C) (hW : WF S) (hQ : Q (some (.int (nI (sumN (S_pz S) (S_np S))))) h n) : mj_bk f w 46 [.ref (AD 5 0)] h n mc ms Q := by
  obtain ⟨plc, hO⟩ := hC.os hM
  have w0 := hW.2.1
  refine mj_begin (by omega) (by decide) (by show 23 ≤ w; omega) rfl ?_
  show mj_W _ _ 46 mj_noZ Q 0 [.ref (AD 5 0), .retAddr 0, .retAddr 0, .retAddr 0] [] h n mc ms
  have loop : ∀ m k, k + m = S_np S → ∀ v3, mj_W (f - 1) (w - (19 + mj_maxL 46)) 46 mj_noZ Q 4 [.ref (AD 5 0), .int (nI (sumN (S_pz S) k)), .int (nI k), v3] [] h n mc ms := by
    intro m
    induction m with
    | zero =>
      intro k hk v3
      obtain rfl : k = S_np S := by omega
      rw [sX2_allOctets_4]
      simp only [sX2_allOctets_0, sX2_allOctets_1, sX2_allOctets_2, sX2_allOctets_3, sX2_allOctets_5, sX2_allOctets_6, sX2_allOctets_9, sX2_allOctets_12, sX2_allOctets_13, sX2_allOctets_17, sX2_allOctets_17n, sX2_allOctets_18, sX2_allOctets_18n, sX2_allOctets_19, sX2_allOctets_19n, sX2_allOctets_22, sX2_allOctets_23, sX2_allOctets_23n, sX2_allOctets_24, sX2_allOctets_27, sX2_allOctets_28, sX2_allOctets_29, sX2_allOctets_32, sX2_allOctets_35, sX2_allOctets_36, hO, Option.some.injEq, Sum.inr.injEq, Sum.inl.injEq, Prod.mk.injEq, true_and, and_true, exists_eq_left', exists_eq_left, exists_eq_right, exists_eq_right', exists_and_left, exists_and_right, List.getElem?_cons_succ, List.getElem?_cons_zero, List.length_cons, List.length_nil, List.set_cons_zero, List.set_cons_succ, Option.toList_some, Option.toList_none, List.nil_append, List.cons_append, mj_up_s, true_or, or_true, Nat.sub_zero, and_assoc, b10, not_true_eq_false, not_false_eq_true, false_implies, true_implies, implies_true, eq_self, and_self, rf_some, rf_none]
      exact And.intro (fun _ => hQ) (fun c => absurd (nI_le (Nat.le_refl _) (by omega)) c)
    | succ m ih =>
      intro k hk v3
      have e1 : nI k + 1 = nI (k + 1) := nI_1 k
      have hx := hC.pkc hM (p := k) (by omega)
      rw [sX2_allOctets_4]
      simp only [sX2_allOctets_0, sX2_allOctets_1, sX2_allOctets_2, sX2_allOctets_3, sX2_allOctets_5, sX2_allOctets_6, sX2_allOctets_9, sX2_allOctets_12, sX2_allOctets_13, sX2_allOctets_17, sX2_allOctets_17n, sX2_allOctets_18, sX2_allOctets_18n, sX2_allOctets_19, sX2_allOctets_19n, sX2_allOctets_22, sX2_allOctets_23, sX2_allOctets_23n, sX2_allOctets_24, sX2_allOctets_27, sX2_allOctets_28, sX2_allOctets_29, sX2_allOctets_32, sX2_allOctets_35, sX2_allOctets_36, hO, Option.some.injEq, Sum.inr.injEq, Sum.inl.injEq, Prod.mk.injEq, true_and, and_true, exists_eq_left', exists_eq_left, exists_eq_right, exists_eq_right', exists_and_left, exists_and_right, List.getElem?_cons_succ, List.getElem?_cons_zero, List.length_cons, List.length_nil, List.set_cons_zero, List.set_cons_succ, Option.toList_some, Option.toList_none, List.nil_append, List.cons_append, mj_up_s, true_or, or_true, Nat.sub_zero, and_assoc, b10, not_true_eq_false, not_false_eq_true, false_implies, true_implies, implies_true, eq_self, and_self, rf_some, rf_none]
      refine And.intro (fun c => absurd c (nI_ge (by omega) (by omega))) (fun _ => ?_)
      refine sX2_allOctets_14z hO rfl (m_packOf (by omega) (by show 21 ≤ w - 23; omega) hM hC hW ?_)
      rw [pkI_n (by omega), nI_cl (by omega), if_pos (by simp; omega)]
      have go := ih (k + 1) (by omega) (.ref (AD 3 k))
      have e2 : nI (sumN (S_pz S) k) + nI (S_pz S k) = nI (sumN (S_pz S) (k + 1)) := nI_add _ _
      simp only [sX2_allOctets_0, sX2_allOctets_1, sX2_allOctets_2, sX2_allOctets_3, sX2_allOctets_5, sX2_allOctets_6, sX2_allOctets_9, sX2_allOctets_12, sX2_allOctets_13, sX2_allOctets_17, sX2_allOctets_17n, sX2_allOctets_18, sX2_allOctets_18n, sX2_allOctets_19, sX2_allOctets_19n, sX2_allOctets_22, sX2_allOctets_23, sX2_allOctets_23n, sX2_allOctets_24, sX2_allOctets_27, sX2_allOctets_28, sX2_allOctets_29, sX2_allOctets_32, sX2_allOctets_35, sX2_allOctets_36, hx, Option.some.injEq, Sum.inr.injEq, Sum.inl.injEq, Prod.mk.injEq, true_and, and_true, exists_eq_left', exists_eq_left, exists_eq_right, exists_eq_right', exists_and_left, exists_and_right, List.getElem?_cons_succ, List.getElem?_cons_zero, List.length_cons, List.length_nil, List.set_cons_zero, List.set_cons_succ, Option.toList_some, Option.toList_none, List.nil_append, List.cons_append, mj_up_s, true_or, or_true, Nat.sub_zero, and_assoc, b10, not_true_eq_false, not_false_eq_true, false_implies, true_implies, implies_true, eq_self, and_self, rf_some, rf_none, e1, e2]
      exact go
  simp only [sX2_allOctets_0, sX2_allOctets_1, sX2_allOctets_2, sX2_allOctets_3, sX2_allOctets_5, sX2_allOctets_6, sX2_allOctets_9, sX2_allOctets_12, sX2_allOctets_13, sX2_allOctets_17, sX2_allOctets_17n, sX2_allOctets_18, sX2_allOctets_18n, sX2_allOctets_19, sX2_allOctets_19n, sX2_allOctets_22, sX2_allOctets_23, sX2_allOctets_23n, sX2_allOctets_24, sX2_allOctets_27, sX2_allOctets_28, sX2_allOctets_29, sX2_allOctets_32, sX2_allOctets_35, sX2_allOctets_36, Option.some.injEq, Sum.inr.injEq, Sum.inl.injEq, Prod.mk.injEq, true_and, and_true, exists_eq_left', exists_eq_left, exists_eq_right, exists_eq_right', exists_and_left, exists_and_right, List.getElem?_cons_succ, List.getElem?_cons_zero, List.length_cons, List.length_nil, List.set_cons_zero, List.set_cons_succ, Option.toList_some, Option.toList_none, List.nil_append, List.cons_append, mj_up_s, true_or, or_true, Nat.sub_zero, and_assoc, b10, not_true_eq_false, not_false_eq_true, false_implies, true_implies, implies_true, eq_self, and_self, rf_some, rf_none]
  exact loop (S_np S) 0 (by omega) _
set_option maxRecDepth 100000 in
theorem m_count (hf : 7 ≤ f) (hw : 157 ≤ w) (hM : MEM h n AD (VS S) C) (hC : CC S AD C) (hW : WF S) {x : Int32} (hQ : Q (some (.int (op_count S x))) h n) : mj_bk f w 37 [.ref (AD 5 0), .int x] h n mc ms Q := by
  obtain ⟨plc, hO⟩ := hC.os hM
  refine mj_begin (by omega) (by decide) (by show 21 ≤ w; omega) rfl ?_
  show mj_W _ _ 37 mj_noZ Q 0 [.ref (AD 5 0), .int x] [] h n mc ms
  rw [sX2_count_0, o_table (show decode (mj_code 37) 1 = .ok (.tableswitch 60 0 4 #[35, 40, 45, 50, 55], 35) by decide +kernel)]
  unfold op_count at hQ
  refine And.intro (by decide) (And.intro (fun c => ?_) (fun c => ?_))
  · have e : mj_tg 1 60 = 61 := by decide
    rw [e]
    simp only [sX2_count_61, sX2_count_63]
    rw [if_neg, if_neg, if_neg, if_neg, if_neg] at hQ
    · exact hQ
    all_goals (rintro rfl; revert c; decide)
  · have hx : x = 0 ∨ x = 1 ∨ x = 2 ∨ x = 3 ∨ x = 4 := by
      have h0 : 0 ≤ x.toInt := by omega
      obtain ⟨j, j1, rfl, j3⟩ := i32_of h0
      have : j = 0 ∨ j = 1 ∨ j = 2 ∨ j = 3 ∨ j = 4 := by omega
      rcases this with rfl | rfl | rfl | rfl | rfl
      · exact Or.inl rfl
      · exact Or.inr (Or.inl rfl)
      · exact Or.inr (Or.inr (Or.inl rfl))
      · exact Or.inr (Or.inr (Or.inr (Or.inl rfl)))
      · exact Or.inr (Or.inr (Or.inr (Or.inr rfl)))
    rcases hx with rfl | rfl | rfl | rfl | rfl
    · refine ⟨35, by decide, by decide, ?_⟩
      have e : mj_tg 1 35 = 36 := by decide
      rw [e]
      simp only [sX2_count_36, sX2_count_37, sX2_count_40, hO, Option.some.injEq, Sum.inr.injEq, Sum.inl.injEq, Prod.mk.injEq, true_and, and_true, exists_eq_left', exists_eq_left, exists_eq_right, exists_eq_right', exists_and_left, exists_and_right, List.getElem?_cons_succ, List.getElem?_cons_zero, List.length_cons, List.length_nil, List.set_cons_zero, List.set_cons_succ, Option.toList_some, Option.toList_none, List.nil_append, List.cons_append, mj_up_s, true_or, or_true, Nat.sub_zero, and_assoc, b10, not_true_eq_false, not_false_eq_true, false_implies, true_implies, implies_true, eq_self, and_self, rf_some, rf_none]
      exact hQ
    · refine ⟨40, by decide, by decide, ?_⟩
      have e : mj_tg 1 40 = 41 := by decide
      rw [e]
      simp only [sX2_count_41, sX2_count_42, sX2_count_45, hO, Option.some.injEq, Sum.inr.injEq, Sum.inl.injEq, Prod.mk.injEq, true_and, and_true, exists_eq_left', exists_eq_left, exists_eq_right, exists_eq_right', exists_and_left, exists_and_right, List.getElem?_cons_succ, List.getElem?_cons_zero, List.length_cons, List.length_nil, List.set_cons_zero, List.set_cons_succ, Option.toList_some, Option.toList_none, List.nil_append, List.cons_append, mj_up_s, true_or, or_true, Nat.sub_zero, and_assoc, b10, not_true_eq_false, not_false_eq_true, false_implies, true_implies, implies_true, eq_self, and_self, rf_some, rf_none]
      exact hQ
    · refine ⟨45, by decide, by decide, ?_⟩
      have e : mj_tg 1 45 = 46 := by decide
      rw [e, sX2_count_46]
      refine sX2_count_47z hO rfl (m_packedItems (by omega) (by show 44 ≤ w - 21; omega) hM hC hW ?_)
      simp only [sX2_count_50, Option.some.injEq, Sum.inr.injEq, Sum.inl.injEq, Prod.mk.injEq, true_and, and_true, exists_eq_left', exists_eq_left, exists_eq_right, exists_eq_right', exists_and_left, exists_and_right, List.getElem?_cons_succ, List.getElem?_cons_zero, List.length_cons, List.length_nil, List.set_cons_zero, List.set_cons_succ, Option.toList_some, Option.toList_none, List.nil_append, List.cons_append, mj_up_s, true_or, or_true, Nat.sub_zero, and_assoc, b10, not_true_eq_false, not_false_eq_true, false_implies, true_implies, implies_true, eq_self, and_self, rf_some, rf_none]
      exact hQ
    · refine ⟨50, by decide, by decide, ?_⟩
      have e : mj_tg 1 50 = 51 := by decide
      rw [e, sX2_count_51]
      refine sX2_count_52z hO rfl (m_lostItems (by omega) (by show 136 ≤ w - 21; omega) hM hC hW ?_)
      simp only [sX2_count_55, Option.some.injEq, Sum.inr.injEq, Sum.inl.injEq, Prod.mk.injEq, true_and, and_true, exists_eq_left', exists_eq_left, exists_eq_right, exists_eq_right', exists_and_left, exists_and_right, List.getElem?_cons_succ, List.getElem?_cons_zero, List.length_cons, List.length_nil, List.set_cons_zero, List.set_cons_succ, Option.toList_some, Option.toList_none, List.nil_append, List.cons_append, mj_up_s, true_or, or_true, Nat.sub_zero, and_assoc, b10, not_true_eq_false, not_false_eq_true, false_implies, true_implies, implies_true, eq_self, and_self, rf_some, rf_none]
      exact hQ
    · refine ⟨55, by decide, by decide, ?_⟩
      have e : mj_tg 1 55 = 56 := by decide
      rw [e, sX2_count_56]
      refine sX2_count_57z hO rfl (m_allOctets (by omega) (by show 44 ≤ w - 21; omega) hM hC hW ?_)
      simp only [sX2_count_60, Option.some.injEq, Sum.inr.injEq, Sum.inl.injEq, Prod.mk.injEq, true_and, and_true, exists_eq_left', exists_eq_left, exists_eq_right, exists_eq_right', exists_and_left, exists_and_right, List.getElem?_cons_succ, List.getElem?_cons_zero, List.length_cons, List.length_nil, List.set_cons_zero, List.set_cons_succ, Option.toList_some, Option.toList_none, List.nil_append, List.cons_append, mj_up_s, true_or, or_true, Nat.sub_zero, and_assoc, b10, not_true_eq_false, not_false_eq_true, false_implies, true_implies, implies_true, eq_self, and_self, rf_some, rf_none]
      exact hQ
end
