/-! ===== the reference's plan ===== -/
/-- 0 is NONE, r + 1 is r -/
def rIn (r : Nat) : Int32 := if r = 0 then -1 else nI (r - 1)
theorem rIn_0 : rIn 0 = -1 := rfl
theorem rIn_s {q : Nat} : rIn (q + 1) = nI q := by unfold rIn; rw [if_neg (by omega)]; rfl
/-- the reference's plan lies there -/
def RPL (S : St) (A : Nat → Nat → Int32) (P : PL) : Prop :=
  (∀ i, i < S_no S → A 16 i = if P.tk i = true then 1 else 0) ∧ ∀ i, i < P.dn → A 14 i = nI (P.od i) ∧ A 15 i = nI (P.ok i)
theorem CM.pl {S : St} {X X' : Nat → Int32} {A A' : Nat → Nat → Int32} (hR : CM S X A) (h1 : X' 1 = X 1) (h7 : X' 7 = X 7) (h15 : X' 15 = X 15) (hA : ∀ j, j ≤ 13 → A' j = A j) : CM S X' A' := hR.congr h1 h7 h15 (fun j hj _ => hA j hj)
theorem INV.md_le {S : St} {most : Nat} {P : PL} (h : INV S most P) : P.md ≤ P.dn ∧ P.dn ≤ S_no S := by
  have hk : ∀ k, k < P.md → k + 1 ≤ P.en k := by
    intro k
    induction k with
    | zero => intro hk; have := (h.pks 0 hk).1; omega
    | succ k ih =>
      intro hk
      have h1 := (h.pks (k + 1) hk).1
      have h2 := ih (by omega)
      unfold stt at h1
      rw [if_neg (by omega), Nat.add_sub_cancel] at h1
      omega
  refine ⟨?_, by rw [h.cnt]; exact cntN_le _ _⟩
  by_cases hz : P.md = 0
  · omega
  · have := hk (P.md - 1) (by omega)
    rw [h.las.2 (by omega)] at this
    omega
section
variable {f w : Nat} {Q : mj_Q} {h0 h : mj_H} {n mc ms : Nat} {S : St} {AD : Ad} {X : Nat → Int32} {A : Nat → Nat → Int32}
set_option maxRecDepth 100000 in
theorem r_alike (hf : 1 ≤ f) (hw : 23 ≤ w) (hM : MHF h0 h AD X A) (hR : CM S X A) (hW : WF S) {a b : Nat} (ha : a < S_no S) (hb : b < S_no S) (pa : S_pk S a = 0) (pb : S_pk S b = 0) (hQ : Q (some (.int (nI (alk S a b)))) h n) : mj_bk f w 71 [.ref (AD 6 0), .int (nI a), .int (nI b)] h n mc ms Q := by
  have w1 := hW.1
  obtain ⟨a1, a2⟩ := (hR.2.2.2.1 a ha).2.2.2 pa
  obtain ⟨b1, b2⟩ := (hR.2.2.2.1 b hb).2.2.2 pb
  have za := (hW.2.2.2.1 a ha).2.1
  have zb := (hW.2.2.2.1 b hb).2.1
  have ca := nI_cl (show a < 2147483648 by omega)
  have cb := nI_cl (show b < 2147483648 by omega)
  have va : vp_in (nI a) 60 := vp_in_nI (by omega) (by decide)
  have vb : vp_in (nI b) 60 := vp_in_nI (by omega) (by decide)
  have i2 := hM.ar 2 (by omega) (by omega)
  have i3 := hM.ar 3 (by omega) (by omega)
  refine mj_begin (by omega) (by decide) (by show 23 ≤ w; omega) rfl ?_
  show mj_W _ _ 71 mj_noZ Q 0 [.ref (AD 6 0), .int (nI a), .int (nI b), .retAddr 0] [] h n mc ms
  have loop : ∀ m k, k + m = min (S_sz S a) (S_sz S b) → Q (some (.int (nI (alkB (S_by S a) (S_by S b) k m)))) h n → mj_W (f - 1) (w - (19 + mj_maxL 71)) 71 mj_noZ Q 2 [.ref (AD 6 0), .int (nI a), .int (nI b), .int (nI k)] [] h n mc ms := by
    intro m
    induction m with
    | zero =>
      intro k hk hQ
      rw [sX3_alike_2]
      simp only [sX3_alike_3, sX3_alike_4, sX3_alike_7, sX3_alike_8, sX3_alike_9, sX3_alike_53, sX3_alike_54, hM.ob, i2, Option.some.injEq, Sum.inr.injEq, Sum.inl.injEq, Prod.mk.injEq, true_and, and_true, exists_eq_left', exists_eq_left, exists_eq_right, exists_eq_right', exists_and_left, exists_and_right, List.getElem?_cons_succ, List.getElem?_cons_zero, List.length_cons, List.length_nil, List.set_cons_zero, List.set_cons_succ, Option.toList_some, Option.toList_none, List.nil_append, List.cons_append, mj_up_s, true_or, or_true, Nat.sub_zero, and_assoc, b10, not_true_eq_false, not_false_eq_true, false_implies, true_implies, implies_true, eq_self, and_self, rf_some, rf_none, ca, a1]
      refine And.intro va (And.intro (fun _ => hQ) (fun c => ?_))
      simp only [sX3_alike_12, sX3_alike_13, sX3_alike_14, sX3_alike_17, sX3_alike_18, sX3_alike_19, sX3_alike_53, sX3_alike_54, hM.ob, i2, Option.some.injEq, Sum.inr.injEq, Sum.inl.injEq, Prod.mk.injEq, true_and, and_true, exists_eq_left', exists_eq_left, exists_eq_right, exists_eq_right', exists_and_left, exists_and_right, List.getElem?_cons_succ, List.getElem?_cons_zero, List.length_cons, List.length_nil, List.set_cons_zero, List.set_cons_succ, Option.toList_some, Option.toList_none, List.nil_append, List.cons_append, mj_up_s, true_or, or_true, Nat.sub_zero, and_assoc, b10, not_true_eq_false, not_false_eq_true, false_implies, true_implies, implies_true, eq_self, and_self, rf_some, rf_none, cb, b1]
      refine And.intro vb (And.intro (fun _ => hQ) (fun c2 => ?_))
      exfalso
      have h1 : ¬ S_sz S a ≤ k := fun z => c (nI_le z (by omega))
      have h2 : ¬ S_sz S b ≤ k := fun z => c2 (nI_le z (by omega))
      omega
    | succ m ih =>
      intro k hk hQ
      have e1 : nI k + 1 = nI (k + 1) := nI_1 k
      have ea : (60 : Int32) * nI a + nI k = nI (60 * a + k) := by rw [show (60 : Int32) = nI 60 from rfl, pk_mul, nI_add]
      have eb : (60 : Int32) * nI b + nI k = nI (60 * b + k) := by rw [show (60 : Int32) = nI 60 from rfl, pk_mul, nI_add]
      have u1 := (hW.2.2.2.2.1 a k)
      have u2 := (hW.2.2.2.2.1 b k)
      rw [sX3_alike_2]
      simp only [sX3_alike_3, sX3_alike_4, sX3_alike_7, sX3_alike_8, sX3_alike_9, hM.ob, i2, Option.some.injEq, Sum.inr.injEq, Sum.inl.injEq, Prod.mk.injEq, true_and, and_true, exists_eq_left', exists_eq_left, exists_eq_right, exists_eq_right', exists_and_left, exists_and_right, List.getElem?_cons_succ, List.getElem?_cons_zero, List.length_cons, List.length_nil, List.set_cons_zero, List.set_cons_succ, Option.toList_some, Option.toList_none, List.nil_append, List.cons_append, mj_up_s, true_or, or_true, Nat.sub_zero, and_assoc, b10, not_true_eq_false, not_false_eq_true, false_implies, true_implies, implies_true, eq_self, and_self, rf_some, rf_none, ca, a1]
      refine And.intro va (And.intro (fun c => absurd c (nI_ge (by omega) (by omega))) (fun _ => ?_))
      simp only [sX3_alike_12, sX3_alike_13, sX3_alike_14, sX3_alike_17, sX3_alike_18, sX3_alike_19, hM.ob, i2, Option.some.injEq, Sum.inr.injEq, Sum.inl.injEq, Prod.mk.injEq, true_and, and_true, exists_eq_left', exists_eq_left, exists_eq_right, exists_eq_right', exists_and_left, exists_and_right, List.getElem?_cons_succ, List.getElem?_cons_zero, List.length_cons, List.length_nil, List.set_cons_zero, List.set_cons_succ, Option.toList_some, Option.toList_none, List.nil_append, List.cons_append, mj_up_s, true_or, or_true, Nat.sub_zero, and_assoc, b10, not_true_eq_false, not_false_eq_true, false_implies, true_implies, implies_true, eq_self, and_self, rf_some, rf_none, cb, b1]
      refine And.intro vb (And.intro (fun c => absurd c (nI_ge (by omega) (by omega))) (fun _ => ?_))
      simp only [sX3_alike_22, sX3_alike_23, sX3_alike_26, sX3_alike_28, sX3_alike_29, sX3_alike_30, sX3_alike_31, sX3_alike_32, sX3_alike_33, sX3_alike_34, sX3_alike_37, sX3_alike_39, sX3_alike_40, sX3_alike_41, sX3_alike_42, sX3_alike_43, sX3_alike_44, hM.ob, i3, Option.some.injEq, Sum.inr.injEq, Sum.inl.injEq, Prod.mk.injEq, true_and, and_true, exists_eq_left', exists_eq_left, exists_eq_right, exists_eq_right', exists_and_left, exists_and_right, List.getElem?_cons_succ, List.getElem?_cons_zero, List.length_cons, List.length_nil, List.set_cons_zero, List.set_cons_succ, Option.toList_some, Option.toList_none, List.nil_append, List.cons_append, mj_up_s, true_or, or_true, Nat.sub_zero, and_assoc, b10, not_true_eq_false, not_false_eq_true, false_implies, true_implies, implies_true, eq_self, and_self, rf_some, rf_none, ea, eb, nI_cl (show 60 * a + k < 2147483648 by omega), nI_cl (show 60 * b + k < 2147483648 by omega), a2 k (by omega), b2 k (by omega)]
      refine And.intro (vp_in_nI (show _ < 3600 by omega) (by decide)) (And.intro (vp_in_nI (show _ < 3600 by omega) (by decide)) ?_)
      rw [show alkB (S_by S a) (S_by S b) k (m + 1) = if S_by S a k = S_by S b k then alkB (S_by S a) (S_by S b) (k + 1) m else k from rfl] at hQ
      refine And.intro (fun c => ?_) (fun c => ?_)
      · rw [if_neg (fun z => c (by rw [z]))] at hQ
        simp only [sX3_alike_53, sX3_alike_54]; exact hQ
      · rw [if_pos ((nI_eq (by omega) (by omega)).mp (Classical.not_not.mp c))] at hQ
        have go := ih (k + 1) (by omega) hQ
        simp only [sX3_alike_47, sX3_alike_50, Option.some.injEq, Sum.inr.injEq, Sum.inl.injEq, Prod.mk.injEq, true_and, and_true, exists_eq_left', exists_eq_left, exists_eq_right, exists_eq_right', exists_and_left, exists_and_right, List.getElem?_cons_succ, List.getElem?_cons_zero, List.length_cons, List.length_nil, List.set_cons_zero, List.set_cons_succ, Option.toList_some, Option.toList_none, List.nil_append, List.cons_append, mj_up_s, true_or, or_true, Nat.sub_zero, and_assoc, b10, not_true_eq_false, not_false_eq_true, false_implies, true_implies, implies_true, eq_self, and_self, rf_some, rf_none, e1]
        exact go
  simp only [sX3_alike_0, sX3_alike_1, Option.some.injEq, Sum.inr.injEq, Sum.inl.injEq, Prod.mk.injEq, true_and, and_true, exists_eq_left', exists_eq_left, exists_eq_right, exists_eq_right', exists_and_left, exists_and_right, List.getElem?_cons_succ, List.getElem?_cons_zero, List.length_cons, List.length_nil, List.set_cons_zero, List.set_cons_succ, Option.toList_some, Option.toList_none, List.nil_append, List.cons_append, mj_up_s, true_or, or_true, Nat.sub_zero, and_assoc, b10, not_true_eq_false, not_false_eq_true, false_implies, true_implies, implies_true, eq_self, and_self, rf_some, rf_none]
  exact loop _ 0 (by omega) hQ
set_option maxRecDepth 100000 in
theorem r_waits (hf : 1 ≤ f) (hw : 21 ≤ w) (hM : MHF h0 h AD X A) (hR : CM S X A) (hW : WF S) {i : Nat} {t : Bool} (hi : i < S_no S) (ht : A 16 i = if t = true then 1 else 0) (hQ : Q (some (.int (if wts S i = true ∧ t = false then 1 else 0))) h n) : mj_bk f w 70 [.ref (AD 6 0), .int (nI i)] h n mc ms Q := by
  have w1 := hW.1
  obtain ⟨a1, a4, a5, a2⟩ := hR.2.2.2.1 i hi
  obtain ⟨u1, u2, u3, u4, u5⟩ := hW.2.2.2.1 i hi
  have w2 := hW.2.1
  have ci := nI_cl (show i < 2147483648 by omega)
  have vi : vp_in (nI i) 60 := vp_in_nI (by omega) (by decide)
  have i1 := hM.ar 1 (by omega) (by omega)
  have i2 := hM.ar 2 (by omega) (by omega)
  have i4 := hM.ar 4 (by omega) (by omega)
  have i16 := hM.tk
  refine mj_begin (by omega) (by decide) (by show 21 ≤ w; omega) rfl ?_
  show mj_W _ _ 70 mj_noZ Q 0 [.ref (AD 6 0), .int (nI i)] [] h n mc ms
  have no : ¬ (wts S i = true ∧ t = false) → mj_W (f - 1) (w - (19 + mj_maxL 70)) 70 mj_noZ Q 41 [.ref (AD 6 0), .int (nI i)] [] h n mc ms := fun z => by
    rw [if_neg z] at hQ
    simp only [sX3_waits_41, sX3_waits_42, Option.some.injEq, Sum.inr.injEq, Sum.inl.injEq, Prod.mk.injEq, true_and, and_true, exists_eq_left', exists_eq_left, exists_eq_right, exists_eq_right', exists_and_left, exists_and_right, List.getElem?_cons_succ, List.getElem?_cons_zero, List.length_cons, List.length_nil, List.set_cons_zero, List.set_cons_succ, Option.toList_some, Option.toList_none, List.nil_append, List.cons_append, mj_up_s, true_or, or_true, Nat.sub_zero, and_assoc, b10, not_true_eq_false, not_false_eq_true, false_implies, true_implies, implies_true, eq_self, and_self, rf_some, rf_none]
    exact And.intro rfl hQ
  simp only [sX3_waits_0, sX3_waits_1, sX3_waits_4, sX3_waits_5, sX3_waits_6, hM.ob, i1, Option.some.injEq, Sum.inr.injEq, Sum.inl.injEq, Prod.mk.injEq, true_and, and_true, exists_eq_left', exists_eq_left, exists_eq_right, exists_eq_right', exists_and_left, exists_and_right, List.getElem?_cons_succ, List.getElem?_cons_zero, List.length_cons, List.length_nil, List.set_cons_zero, List.set_cons_succ, Option.toList_some, Option.toList_none, List.nil_append, List.cons_append, mj_up_s, true_or, or_true, Nat.sub_zero, and_assoc, b10, not_true_eq_false, not_false_eq_true, false_implies, true_implies, implies_true, eq_self, and_self, rf_some, rf_none, ci, a1]
  refine And.intro vi (And.intro (fun c => no (fun z => c (by rw [(wts_iff.mp z.1).1]; rfl))) (fun c => ?_))
  have k0 : S_kd S i = 0 := (nI_eq (by omega) (by omega)).mp (show nI _ = nI 0 from Classical.not_not.mp c)
  simp only [sX3_waits_9, sX3_waits_10, sX3_waits_13, sX3_waits_14, sX3_waits_15, sX3_waits_16, hM.ob, i4, Option.some.injEq, Sum.inr.injEq, Sum.inl.injEq, Prod.mk.injEq, true_and, and_true, exists_eq_left', exists_eq_left, exists_eq_right, exists_eq_right', exists_and_left, exists_and_right, List.getElem?_cons_succ, List.getElem?_cons_zero, List.length_cons, List.length_nil, List.set_cons_zero, List.set_cons_succ, Option.toList_some, Option.toList_none, List.nil_append, List.cons_append, mj_up_s, true_or, or_true, Nat.sub_zero, and_assoc, b10, not_true_eq_false, not_false_eq_true, false_implies, true_implies, implies_true, eq_self, and_self, rf_some, rf_none, ci, a4]
  refine And.intro vi (And.intro (fun c => no (fun z => c (by rw [(wts_iff.mp z.1).2.1]; rfl))) (fun c => ?_))
  have p0 : S_pk S i = 0 := by
    by_cases hz : S_pk S i = 0
    · exact hz
    · rw [if_neg hz] at c
      exact absurd (Classical.not_not.mp c) (nIm1 (by omega))
  obtain ⟨b1, b2⟩ := a2 p0
  simp only [sX3_waits_19, sX3_waits_20, sX3_waits_23, sX3_waits_24, sX3_waits_25, hM.ob, i2, Option.some.injEq, Sum.inr.injEq, Sum.inl.injEq, Prod.mk.injEq, true_and, and_true, exists_eq_left', exists_eq_left, exists_eq_right, exists_eq_right', exists_and_left, exists_and_right, List.getElem?_cons_succ, List.getElem?_cons_zero, List.length_cons, List.length_nil, List.set_cons_zero, List.set_cons_succ, Option.toList_some, Option.toList_none, List.nil_append, List.cons_append, mj_up_s, true_or, or_true, Nat.sub_zero, and_assoc, b10, not_true_eq_false, not_false_eq_true, false_implies, true_implies, implies_true, eq_self, and_self, rf_some, rf_none, ci, b1]
  refine And.intro vi (And.intro (fun c => no (fun z => absurd c (show ¬ nI _ ≤ nI 0 from nI_ge (wts_iff.mp z.1).2.2 (by omega)))) (fun c => ?_))
  have z0 : 0 < S_sz S i := Nat.pos_of_ne_zero (fun z => c (by rw [z]; decide))
  have hw : wts S i = true := wts_iff.mpr ⟨k0, p0, z0⟩
  simp only [sX3_waits_28, sX3_waits_29, sX3_waits_32, sX3_waits_33, sX3_waits_34, hM.ob, i16, Option.some.injEq, Sum.inr.injEq, Sum.inl.injEq, Prod.mk.injEq, true_and, and_true, exists_eq_left', exists_eq_left, exists_eq_right, exists_eq_right', exists_and_left, exists_and_right, List.getElem?_cons_succ, List.getElem?_cons_zero, List.length_cons, List.length_nil, List.set_cons_zero, List.set_cons_succ, Option.toList_some, Option.toList_none, List.nil_append, List.cons_append, mj_up_s, true_or, or_true, Nat.sub_zero, and_assoc, b10, not_true_eq_false, not_false_eq_true, false_implies, true_implies, implies_true, eq_self, and_self, rf_some, rf_none, ci, ht]
  refine And.intro vi ?_
  cases t with
  | true =>
    refine And.intro (fun _ => no (fun z => by cases z.2)) (fun c => absurd (by decide) c)
  | false =>
    rw [if_pos ⟨hw, rfl⟩] at hQ
    refine And.intro (fun c => absurd c (by decide)) (fun _ => ?_)
    simp only [sX3_waits_37, sX3_waits_38, sX3_waits_42, Option.some.injEq, Sum.inr.injEq, Sum.inl.injEq, Prod.mk.injEq, true_and, and_true, exists_eq_left', exists_eq_left, exists_eq_right, exists_eq_right', exists_and_left, exists_and_right, List.getElem?_cons_succ, List.getElem?_cons_zero, List.length_cons, List.length_nil, List.set_cons_zero, List.set_cons_succ, Option.toList_some, Option.toList_none, List.nil_append, List.cons_append, mj_up_s, true_or, or_true, Nat.sub_zero, and_assoc, b10, not_true_eq_false, not_false_eq_true, false_implies, true_implies, implies_true, eq_self, and_self, rf_some, rf_none]
    exact And.intro rfl hQ
set_option maxRecDepth 100000 in
theorem r_nextBehind (hf : 2 ≤ f) (hw : 48 ≤ w) (hM : MHF h0 h AD X A) (hR : CM S X A) (hW : WF S) {tk : Nat → Bool} (ht : ∀ i, i < S_no S → A 16 i = if tk i = true then 1 else 0) {la : Nat} (hla : ∀ l, la = l + 1 → l < S_no S ∧ S_pk S l = 0) (hQ : Q (some (.int (rIn (nxt S tk la (S_no S))))) h n) : mj_bk f w 72 [.ref (AD 6 0), .int (rIn la)] h n mc ms Q := by
  have w1 := hW.1
  have i2 := hM.ar 2 (by omega) (by omega)
  refine mj_begin (by omega) (by decide) (by show 25 ≤ w; omega) rfl ?_
  show mj_W _ _ 72 mj_noZ Q 0 [.ref (AD 6 0), .int (rIn la), .retAddr 0, .retAddr 0, .retAddr 0, .retAddr 0] [] h n mc ms
  have loop : ∀ m k, k + m = S_no S → ∀ v5, mj_W (f - 1) (w - (19 + mj_maxL 72)) 72 mj_noZ Q 7 [.ref (AD 6 0), .int (rIn la), .int (rIn (nxt S tk la k)), .int (nI (if nxt S tk la k = 0 then 0 else cst S la (nxt S tk la k - 1))), .int (nI k), v5] [] h n mc ms := by
    intro m
    induction m with
    | zero =>
      intro k hk v5
      obtain rfl : k = S_no S := by omega
      rw [sX3_nextBehind_7]
      simp only [sX3_nextBehind_9, sX3_nextBehind_10, sX3_nextBehind_13, sX3_nextBehind_74, sX3_nextBehind_75, hM.ob, Option.some.injEq, Sum.inr.injEq, Sum.inl.injEq, Prod.mk.injEq, true_and, and_true, exists_eq_left', exists_eq_left, exists_eq_right, exists_eq_right', exists_and_left, exists_and_right, List.getElem?_cons_succ, List.getElem?_cons_zero, List.length_cons, List.length_nil, List.set_cons_zero, List.set_cons_succ, Option.toList_some, Option.toList_none, List.nil_append, List.cons_append, mj_up_s, true_or, or_true, Nat.sub_zero, and_assoc, b10, not_true_eq_false, not_false_eq_true, false_implies, true_implies, implies_true, eq_self, and_self, rf_some, rf_none, hR.1]
      exact And.intro (fun _ => hQ) (fun c => absurd (nI_le (Nat.le_refl _) (by omega)) c)
    | succ m ih =>
      intro k hk v5
      have e1 : nI k + 1 = nI (k + 1) := nI_1 k
      have hkn : k < S_no S := by omega
      have ck := nI_cl (show k < 2147483648 by omega)
      have vk : vp_in (nI k) 60 := vp_in_nI (by omega) (by decide)
      have hzk := (hW.2.2.2.1 k hkn).2.1
      have en : nxt S tk la (k + 1) = if wts S k = true ∧ tk k = false ∧ (nxt S tk la k = 0 ∨ cst S la k < cst S la (nxt S tk la k - 1)) then k + 1 else nxt S tk la k := rfl
      have stay : nxt S tk la (k + 1) = nxt S tk la k → ∀ v5, mj_W (f - 1) (w - (19 + mj_maxL 72)) 72 mj_noZ Q 68 [.ref (AD 6 0), .int (rIn la), .int (rIn (nxt S tk la k)), .int (nI (if nxt S tk la k = 0 then 0 else cst S la (nxt S tk la k - 1))), .int (nI k), v5] [] h n mc ms := fun e v5 => by
        have go := ih (k + 1) (by omega) v5
        rw [e] at go
        simp only [sX3_nextBehind_68, sX3_nextBehind_71, Option.some.injEq, Sum.inr.injEq, Sum.inl.injEq, Prod.mk.injEq, true_and, and_true, exists_eq_left', exists_eq_left, exists_eq_right, exists_eq_right', exists_and_left, exists_and_right, List.getElem?_cons_succ, List.getElem?_cons_zero, List.length_cons, List.length_nil, List.set_cons_zero, List.set_cons_succ, Option.toList_some, Option.toList_none, List.nil_append, List.cons_append, mj_up_s, true_or, or_true, Nat.sub_zero, and_assoc, b10, not_true_eq_false, not_false_eq_true, false_implies, true_implies, implies_true, eq_self, and_self, rf_some, rf_none, e1]
        exact go
      rw [sX3_nextBehind_7]
      simp only [sX3_nextBehind_9, sX3_nextBehind_10, sX3_nextBehind_13, sX3_nextBehind_16, sX3_nextBehind_17, hM.ob, Option.some.injEq, Sum.inr.injEq, Sum.inl.injEq, Prod.mk.injEq, true_and, and_true, exists_eq_left', exists_eq_left, exists_eq_right, exists_eq_right', exists_and_left, exists_and_right, List.getElem?_cons_succ, List.getElem?_cons_zero, List.length_cons, List.length_nil, List.set_cons_zero, List.set_cons_succ, Option.toList_some, Option.toList_none, List.nil_append, List.cons_append, mj_up_s, true_or, or_true, Nat.sub_zero, and_assoc, b10, not_true_eq_false, not_false_eq_true, false_implies, true_implies, implies_true, eq_self, and_self, rf_some, rf_none, hR.1]
      refine And.intro (fun c => absurd c (nI_ge (by omega) (by omega))) (fun _ => ?_)
      refine sX3_nextBehind_19z hM.ob rfl (r_waits (by omega) (by show 21 ≤ w - 25; omega) hM hR hW hkn (ht k hkn) ?_)
      by_cases hwt : wts S k = true ∧ tk k = false
      · rw [if_pos hwt]
        obtain ⟨q1, q2, q3⟩ := wts_iff.mp hwt.1
        have hcost : cst S la k ≤ 60 := by unfold cst; split <;> first | omega | (have := un_le (S := S) (la := la) (o := k); omega)
        -- behind the cost
        have tail : ∀ b, b = nI (cst S la k) → mj_W (f - 1) (w - (19 + mj_maxL 72)) 72 mj_noZ Q 49 [.ref (AD 6 0), .int (rIn la), .int (rIn (nxt S tk la k)), .int (nI (if nxt S tk la k = 0 then 0 else cst S la (nxt S tk la k - 1))), .int (nI k), v5] [.int b] h n mc ms := by
          intro b hb
          subst hb
          have taken : nxt S tk la (k + 1) = k + 1 → mj_W (f - 1) (w - (19 + mj_maxL 72)) 72 mj_noZ Q 62 [.ref (AD 6 0), .int (rIn la), .int (rIn (nxt S tk la k)), .int (nI (if nxt S tk la k = 0 then 0 else cst S la (nxt S tk la k - 1))), .int (nI k), .int (nI (cst S la k))] [] h n mc ms := fun e => by
            have go := ih (k + 1) (by omega) (.int (nI (cst S la k)))
            rw [e, rIn_s, if_neg (by omega), Nat.add_sub_cancel] at go
            simp only [sX3_nextBehind_62, sX3_nextBehind_64, sX3_nextBehind_65, sX3_nextBehind_67, sX3_nextBehind_68, sX3_nextBehind_71, Option.some.injEq, Sum.inr.injEq, Sum.inl.injEq, Prod.mk.injEq, true_and, and_true, exists_eq_left', exists_eq_left, exists_eq_right, exists_eq_right', exists_and_left, exists_and_right, List.getElem?_cons_succ, List.getElem?_cons_zero, List.length_cons, List.length_nil, List.set_cons_zero, List.set_cons_succ, Option.toList_some, Option.toList_none, List.nil_append, List.cons_append, mj_up_s, true_or, or_true, Nat.sub_zero, and_assoc, b10, not_true_eq_false, not_false_eq_true, false_implies, true_implies, implies_true, eq_self, and_self, rf_some, rf_none, e1]
            exact go
          rw [sX3_nextBehind_49, sX3_nextBehind_51, sX3_nextBehind_52, sX3_nextBehind_53]
          by_cases hn0 : nxt S tk la k = 0
          · refine And.intro (fun _ => ?_) (fun c => absurd (by rw [hn0]; rfl) c)
            exact taken (by rw [en, if_pos ⟨hwt.1, hwt.2, Or.inl hn0⟩])
          · have hle := nxt_le (S := S) (tk := tk) (la := la) k
            refine And.intro (fun c => ?_) (fun _ => ?_)
            · exfalso
              unfold rIn at c
              rw [if_neg hn0] at c
              exact nIm1 (by omega) c
            · have hb2 : cst S la (nxt S tk la k - 1) ≤ 60 := by
                have hzz := (hW.2.2.2.1 (nxt S tk la k - 1) (by omega)).2.1
                unfold cst; split <;> first | omega | (have := un_le (S := S) (la := la) (o := nxt S tk la k - 1); omega)
              rw [if_neg hn0] at stay taken ⊢
              simp only [sX3_nextBehind_56, sX3_nextBehind_58, sX3_nextBehind_59]
              by_cases hlt : cst S la k < cst S la (nxt S tk la k - 1)
              · refine And.intro (fun c => absurd c (nI_ge hlt (by omega))) (fun _ => ?_)
                exact taken (by rw [en, if_pos ⟨hwt.1, hwt.2, Or.inr hlt⟩])
              · refine And.intro (fun _ => ?_) (fun c => absurd (nI_le (by omega) (by omega)) c)
                exact stay (by rw [en, if_neg (fun z => z.2.2.elim hn0 hlt)]) _
        simp only [sX3_nextBehind_22, sX3_nextBehind_25, sX3_nextBehind_26, sX3_nextBehind_27, Option.some.injEq, Sum.inr.injEq, Sum.inl.injEq, Prod.mk.injEq, true_and, and_true, exists_eq_left', exists_eq_left, exists_eq_right, exists_eq_right', exists_and_left, exists_and_right, List.getElem?_cons_succ, List.getElem?_cons_zero, List.length_cons, List.length_nil, List.set_cons_zero, List.set_cons_succ, Option.toList_some, Option.toList_none, List.nil_append, List.cons_append, mj_up_s, true_or, or_true, Nat.sub_zero, and_assoc, b10, not_true_eq_false, not_false_eq_true, false_implies, true_implies, implies_true, eq_self, and_self, rf_some, rf_none]
        cases la with
        | zero =>
          refine And.intro (fun c => absurd rfl c) (fun _ => ?_)
          simp only [sX3_nextBehind_30, sX3_nextBehind_31]
          exact tail 0 rfl
        | succ l =>
          obtain ⟨l1, l2⟩ := hla l rfl
          obtain ⟨a1, a2⟩ := (hR.2.2.2.1 k hkn).2.2.2 q2
          rw [rIn_s] at tail ⊢
          refine And.intro (fun _ => ?_) (fun c => absurd (nIm1 (by omega)) c)
          simp only [sX3_nextBehind_34, sX3_nextBehind_35, sX3_nextBehind_38, sX3_nextBehind_40, sX3_nextBehind_41, sX3_nextBehind_42, sX3_nextBehind_44, hM.ob, i2, Option.some.injEq, Sum.inr.injEq, Sum.inl.injEq, Prod.mk.injEq, true_and, and_true, exists_eq_left', exists_eq_left, exists_eq_right, exists_eq_right', exists_and_left, exists_and_right, List.getElem?_cons_succ, List.getElem?_cons_zero, List.length_cons, List.length_nil, List.set_cons_zero, List.set_cons_succ, Option.toList_some, Option.toList_none, List.nil_append, List.cons_append, mj_up_s, true_or, or_true, Nat.sub_zero, and_assoc, b10, not_true_eq_false, not_false_eq_true, false_implies, true_implies, implies_true, eq_self, and_self, rf_some, rf_none, ck, a1]
          refine And.intro vk ?_
          refine sX3_nextBehind_45z hM.ob rfl (r_alike (by omega) (by show 23 ≤ w - 25; omega) hM hR hW hkn l1 q2 l2 ?_)
          have hal := alk_le (S := S) (a := k) (b := l)
          simp only [sX3_nextBehind_48, Option.some.injEq, Sum.inr.injEq, Sum.inl.injEq, Prod.mk.injEq, true_and, and_true, exists_eq_left', exists_eq_left, exists_eq_right, exists_eq_right', exists_and_left, exists_and_right, List.getElem?_cons_succ, List.getElem?_cons_zero, List.length_cons, List.length_nil, List.set_cons_zero, List.set_cons_succ, Option.toList_some, Option.toList_none, List.nil_append, List.cons_append, mj_up_s, true_or, or_true, Nat.sub_zero, and_assoc, b10, not_true_eq_false, not_false_eq_true, false_implies, true_implies, implies_true, eq_self, and_self, rf_some, rf_none]
          refine tail _ ?_
          rw [pk_sub hal]; rfl
      · rw [if_neg hwt]
        simp only [sX3_nextBehind_22, Option.some.injEq, Sum.inr.injEq, Sum.inl.injEq, Prod.mk.injEq, true_and, and_true, exists_eq_left', exists_eq_left, exists_eq_right, exists_eq_right', exists_and_left, exists_and_right, List.getElem?_cons_succ, List.getElem?_cons_zero, List.length_cons, List.length_nil, List.set_cons_zero, List.set_cons_succ, Option.toList_some, Option.toList_none, List.nil_append, List.cons_append, mj_up_s, true_or, or_true, Nat.sub_zero, and_assoc, b10, not_true_eq_false, not_false_eq_true, false_implies, true_implies, implies_true, eq_self, and_self, rf_some, rf_none]
        exact stay (by rw [en, if_neg (fun z => hwt ⟨z.1, z.2.1⟩)]) _
  simp only [sX3_nextBehind_0, sX3_nextBehind_1, sX3_nextBehind_2, sX3_nextBehind_3, sX3_nextBehind_4, sX3_nextBehind_5, Option.some.injEq, Sum.inr.injEq, Sum.inl.injEq, Prod.mk.injEq, true_and, and_true, exists_eq_left', exists_eq_left, exists_eq_right, exists_eq_right', exists_and_left, exists_and_right, List.getElem?_cons_succ, List.getElem?_cons_zero, List.length_cons, List.length_nil, List.set_cons_zero, List.set_cons_succ, Option.toList_some, Option.toList_none, List.nil_append, List.cons_append, mj_up_s, true_or, or_true, Nat.sub_zero, and_assoc, b10, not_true_eq_false, not_false_eq_true, false_implies, true_implies, implies_true, eq_self, and_self, rf_some, rf_none]
  exact loop (S_no S) 0 (by omega) _
end
