/-! ===== the class's plan ===== -/
def itv (AD : Ad) (r : Nat) : Value := match r with
  | 0 => .null
  | o + 1 => .ref (AD 1 o)
def wtv (S : St) (tk : Nat → Bool) (i : Nat) : Int32 := if wts S i = true ∧ tk i = false then 1 else 0
/-- the class's plan lies there -/
def CP (S : St) (AD : Ad) (C : Ct) (P : PL) : Prop :=
  C 5 0 = OSc AD S (nI P.dn) ∧ (∃ g, C 0 4 = .inl (.int, 60, .inl g) ∧ ∀ i, i < P.dn → g i = nI (P.od i)) ∧
  ∀ i, i < S_no S → C 1 i = ITc i (S_kd S i) (AD 2 i) (S_sz S i) (hmv AD (S_pk S i)) (S_ix S i) (wtv S P.tk i)
section
variable {f w : Nat} {Q : mj_Q} {h : mj_H} {n mc ms : Nat} {S : St} {AD : Ad} {C : Ct} {P : PL}
theorem m_unlike (hf : 3 ≤ f) (hw : 64 ≤ w) (hM : MEM h n AD (VS S) C) (hC : CC S AD C) (hW : WF S) {o la : Nat} (ho : o < S_no S) (hla : ∀ l, la = l + 1 → l < S_no S) (hQ : Q (some (.int (nI (un S la o)))) h n) : mj_bk f w 7 [.ref (AD 1 o), itv AD la] h n mc ms Q := by
  obtain ⟨wt, hx⟩ := hC.it hM ho
  cases la with
  | zero => exact c_unlikeN (by omega) (by omega) hx hQ
  | succ l =>
    have hl := hla l rfl
    obtain ⟨wt2, hx2⟩ := hC.it hM hl
    obtain ⟨g1, y1, y2⟩ := hC.ow hM ho
    obtain ⟨g2, z1, z2⟩ := hC.ow hM hl
    refine c_unlike (by omega) (by omega) hx y1 hx2 z1 (hW.2.2.2.1 o ho).2.1 (hW.2.2.2.1 l hl).2.1 ?_
    rw [alikeN_alkB (u := S_by S o) (v := S_by S l) (hW.2.2.2.2.1 o) (hW.2.2.2.2.1 l) _ 0 (fun j hj => y2 j (by omega)) (fun j hj => z2 j (by omega))]
    exact hQ
theorem m_alike (hf : 2 ≤ f) (hw : 43 ≤ w) (hM : MEM h n AD (VS S) C) (hC : CC S AD C) (hW : WF S) {o la : Nat} (ho : o < S_no S) (hla : ∀ l, la = l + 1 → l < S_no S) (hQ : Q (some (.int (nI (sam S la o)))) h n) : mj_bk f w 6 [.ref (AD 1 o), itv AD la] h n mc ms Q := by
  obtain ⟨wt, hx⟩ := hC.it hM ho
  cases la with
  | zero => exact c_alikeN (by omega) (by omega) hQ
  | succ l =>
    have hl := hla l rfl
    obtain ⟨wt2, hx2⟩ := hC.it hM hl
    obtain ⟨g1, y1, y2⟩ := hC.ow hM ho
    obtain ⟨g2, z1, z2⟩ := hC.ow hM hl
    refine c_alike (by omega) (by omega) hx y1 hx2 z1 (hW.2.2.2.1 o ho).2.1 (hW.2.2.2.1 l hl).2.1 ?_
    rw [alikeN_alkB (u := S_by S o) (v := S_by S l) (hW.2.2.2.2.1 o) (hW.2.2.2.2.1 l) _ 0 (fun j hj => y2 j (by omega)) (fun j hj => z2 j (by omega))]
    exact hQ
set_option maxRecDepth 100000 in
theorem m_nextBehind (hf : 4 ≤ f) (hw : 90 ≤ w) (hM : MEM h n AD (VS S) C) (hC : CC S AD C) (hW : WF S) {tk : Nat → Bool} (hI : ∀ i, i < S_no S → C 1 i = ITc i (S_kd S i) (AD 2 i) (S_sz S i) (hmv AD (S_pk S i)) (S_ix S i) (wtv S tk i)) {la : Nat} (hla : ∀ l, la = l + 1 → l < S_no S) (hQ : Q (some (itv AD (nxt S tk la (S_no S)))) h n) : mj_bk f w 49 [.ref (AD 5 0), itv AD la] h n mc ms Q := by
  have w1 := hW.1
  obtain ⟨plc, hO⟩ := hC.os hM
  have it : ∀ i, i < S_no S → h (AD 1 i) = some (ITc i (S_kd S i) (AD 2 i) (S_sz S i) (hmv AD (S_pk S i)) (S_ix S i) (wtv S tk i)) := fun i hi => by rw [hM.1 1 i hi, hI i hi]
  cases la with
  | zero =>
    refine mj_begin (by omega) (by decide) (by show 26 ≤ w; omega) rfl ?_
    show mj_W _ _ 49 mj_noZ Q 0 [.ref (AD 5 0), .null, .retAddr 0, .retAddr 0, .retAddr 0, .retAddr 0, .retAddr 0] [] h n mc ms
    have loop : ∀ m k, k + m = S_no S → nxt S tk 0 k = 0 → ∀ v5 v6, mj_W (f - 1) (w - (19 + mj_maxL 49)) 49 mj_noZ Q 7 [.ref (AD 5 0), .null, .null, .int 0, .int (nI k), v5, v6] [] h n mc ms := by
      intro m
      induction m with
      | zero =>
        intro k hk hn v5 v6
        obtain rfl : k = S_no S := by omega
        rw [hn] at hQ
        rw [sX2_nextBehind_7]
        simp only [sX2_nextBehind_9, sX2_nextBehind_10, sX2_nextBehind_13, sX2_nextBehind_77n, sX2_nextBehind_78n, hO, Option.some.injEq, Sum.inr.injEq, Sum.inl.injEq, Prod.mk.injEq, true_and, and_true, exists_eq_left', exists_eq_left, exists_eq_right, exists_eq_right', exists_and_left, exists_and_right, List.getElem?_cons_succ, List.getElem?_cons_zero, List.length_cons, List.length_nil, List.set_cons_zero, List.set_cons_succ, Option.toList_some, Option.toList_none, List.nil_append, List.cons_append, mj_up_s, true_or, or_true, Nat.sub_zero, and_assoc, b10, not_true_eq_false, not_false_eq_true, false_implies, true_implies, implies_true, eq_self, and_self, rf_some, rf_none]
        exact And.intro (fun _ => hQ) (fun c => absurd (nI_le (Nat.le_refl _) (by omega)) c)
      | succ m ih =>
        intro k hk hn v5 v6
        have e1 : nI k + 1 = nI (k + 1) := nI_1 k
        have en : nxt S tk 0 (k + 1) = if wts S k = true ∧ tk k = false ∧ (nxt S tk 0 k = 0 ∨ cst S 0 k < cst S 0 (nxt S tk 0 k - 1)) then k + 1 else nxt S tk 0 k := rfl
        have hx := it k (by omega)
        rw [sX2_nextBehind_7]
        simp only [sX2_nextBehind_9, sX2_nextBehind_10, sX2_nextBehind_13, sX2_nextBehind_16, sX2_nextBehind_17, hO, Option.some.injEq, Sum.inr.injEq, Sum.inl.injEq, Prod.mk.injEq, true_and, and_true, exists_eq_left', exists_eq_left, exists_eq_right, exists_eq_right', exists_and_left, exists_and_right, List.getElem?_cons_succ, List.getElem?_cons_zero, List.length_cons, List.length_nil, List.set_cons_zero, List.set_cons_succ, Option.toList_some, Option.toList_none, List.nil_append, List.cons_append, mj_up_s, true_or, or_true, Nat.sub_zero, and_assoc, b10, not_true_eq_false, not_false_eq_true, false_implies, true_implies, implies_true, eq_self, and_self, rf_some, rf_none]
        refine And.intro (fun c => absurd c (nI_ge (by omega) (by omega))) (fun _ => ?_)
        refine sX2_nextBehind_19z hO rfl (m_itemOf (by omega) (by show 21 ≤ w - 26; omega) hM hC hW ?_)
        rw [obI_n (by omega), nI_cl (by omega), if_pos (show decide (k < S_no S) = true by simp; omega)]
        by_cases hwt : wts S k = true ∧ tk k = false
        · rw [show wtv S tk k = 1 from if_pos hwt] at hx
          have hk1 : nxt S tk 0 (k + 1) = k + 1 := by rw [en, if_pos ⟨hwt.1, hwt.2, Or.inl hn⟩]
          rw [nxt_first (k := k + 1) (by omega) (S_no S) (by omega), hk1] at hQ
          simp only [sX2_nextBehind_22, sX2_nextBehind_24, sX2_nextBehind_26, sX2_nextBehind_29, sX2_nextBehind_31, sX2_nextBehind_34, hx, Option.some.injEq, Sum.inr.injEq, Sum.inl.injEq, Prod.mk.injEq, true_and, and_true, exists_eq_left', exists_eq_left, exists_eq_right, exists_eq_right', exists_and_left, exists_and_right, List.getElem?_cons_succ, List.getElem?_cons_zero, List.length_cons, List.length_nil, List.set_cons_zero, List.set_cons_succ, Option.toList_some, Option.toList_none, List.nil_append, List.cons_append, mj_up_s, true_or, or_true, Nat.sub_zero, and_assoc, b10, not_true_eq_false, not_false_eq_true, false_implies, true_implies, implies_true, eq_self, and_self, rf_some, rf_none]
          simp only [sX2_nextBehind_40n, sX2_nextBehind_41n, sX2_nextBehind_44, sX2_nextBehind_46, Option.some.injEq, Sum.inr.injEq, Sum.inl.injEq, Prod.mk.injEq, true_and, and_true, exists_eq_left', exists_eq_left, exists_eq_right, exists_eq_right', exists_and_left, exists_and_right, List.getElem?_cons_succ, List.getElem?_cons_zero, List.length_cons, List.length_nil, List.set_cons_zero, List.set_cons_succ, Option.toList_some, Option.toList_none, List.nil_append, List.cons_append, mj_up_s, true_or, or_true, Nat.sub_zero, and_assoc, b10, not_true_eq_false, not_false_eq_true, false_implies, true_implies, implies_true, eq_self, and_self, rf_some, rf_none]
          exact hQ
        · rw [show wtv S tk k = 0 from if_neg hwt] at hx
          have hk1 : nxt S tk 0 (k + 1) = 0 := by rw [en, if_neg (fun z => hwt ⟨z.1, z.2.1⟩)]; exact hn
          have go := ih (k + 1) (by omega) hk1 (.ref (AD 1 k)) v6
          simp only [sX2_nextBehind_22, sX2_nextBehind_24, sX2_nextBehind_26, sX2_nextBehind_29, sX2_nextBehind_31, sX2_nextBehind_34, sX2_nextBehind_37, sX2_nextBehind_71, sX2_nextBehind_74, hx, Option.some.injEq, Sum.inr.injEq, Sum.inl.injEq, Prod.mk.injEq, true_and, and_true, exists_eq_left', exists_eq_left, exists_eq_right, exists_eq_right', exists_and_left, exists_and_right, List.getElem?_cons_succ, List.getElem?_cons_zero, List.length_cons, List.length_nil, List.set_cons_zero, List.set_cons_succ, Option.toList_some, Option.toList_none, List.nil_append, List.cons_append, mj_up_s, true_or, or_true, Nat.sub_zero, and_assoc, b10, not_true_eq_false, not_false_eq_true, false_implies, true_implies, implies_true, eq_self, and_self, rf_some, rf_none, e1]
          exact go
    simp only [sX2_nextBehind_0, sX2_nextBehind_1n, sX2_nextBehind_2, sX2_nextBehind_3, sX2_nextBehind_4, sX2_nextBehind_5, Option.some.injEq, Sum.inr.injEq, Sum.inl.injEq, Prod.mk.injEq, true_and, and_true, exists_eq_left', exists_eq_left, exists_eq_right, exists_eq_right', exists_and_left, exists_and_right, List.getElem?_cons_succ, List.getElem?_cons_zero, List.length_cons, List.length_nil, List.set_cons_zero, List.set_cons_succ, Option.toList_some, Option.toList_none, List.nil_append, List.cons_append, mj_up_s, true_or, or_true, Nat.sub_zero, and_assoc, b10, not_true_eq_false, not_false_eq_true, false_implies, true_implies, implies_true, eq_self, and_self, rf_some, rf_none]
    exact loop (S_no S) 0 (by omega) rfl _ _
  | succ l =>
    have hl := hla l rfl
    refine mj_begin (by omega) (by decide) (by show 26 ≤ w; omega) rfl ?_
    show mj_W _ _ 49 mj_noZ Q 0 [.ref (AD 5 0), .ref (AD 1 l), .retAddr 0, .retAddr 0, .retAddr 0, .retAddr 0, .retAddr 0] [] h n mc ms
    have loop : ∀ m k, k + m = S_no S → ∀ v5 v6, mj_W (f - 1) (w - (19 + mj_maxL 49)) 49 mj_noZ Q 7 [.ref (AD 5 0), .ref (AD 1 l), itv AD (nxt S tk (l + 1) k), .int (nI (if nxt S tk (l + 1) k = 0 then 0 else un S (l + 1) (nxt S tk (l + 1) k - 1))), .int (nI k), v5, v6] [] h n mc ms := by
      intro m
      induction m with
      | zero =>
        intro k hk v5 v6
        obtain rfl : k = S_no S := by omega
        rw [sX2_nextBehind_7]
        cases hn : nxt S tk (l + 1) (S_no S) with
        | zero =>
          rw [hn] at hQ
          simp only [itv, sX2_nextBehind_9, sX2_nextBehind_10, sX2_nextBehind_13, sX2_nextBehind_77n, sX2_nextBehind_78n, hO, Option.some.injEq, Sum.inr.injEq, Sum.inl.injEq, Prod.mk.injEq, true_and, and_true, exists_eq_left', exists_eq_left, exists_eq_right, exists_eq_right', exists_and_left, exists_and_right, List.getElem?_cons_succ, List.getElem?_cons_zero, List.length_cons, List.length_nil, List.set_cons_zero, List.set_cons_succ, Option.toList_some, Option.toList_none, List.nil_append, List.cons_append, mj_up_s, true_or, or_true, Nat.sub_zero, and_assoc, b10, not_true_eq_false, not_false_eq_true, false_implies, true_implies, implies_true, eq_self, and_self, rf_some, rf_none]
          exact And.intro (fun _ => hQ) (fun c => absurd (nI_le (Nat.le_refl _) (by omega)) c)
        | succ o =>
          rw [hn] at hQ
          simp only [itv, sX2_nextBehind_9, sX2_nextBehind_10, sX2_nextBehind_13, sX2_nextBehind_77, sX2_nextBehind_78, hO, Option.some.injEq, Sum.inr.injEq, Sum.inl.injEq, Prod.mk.injEq, true_and, and_true, exists_eq_left', exists_eq_left, exists_eq_right, exists_eq_right', exists_and_left, exists_and_right, List.getElem?_cons_succ, List.getElem?_cons_zero, List.length_cons, List.length_nil, List.set_cons_zero, List.set_cons_succ, Option.toList_some, Option.toList_none, List.nil_append, List.cons_append, mj_up_s, true_or, or_true, Nat.sub_zero, and_assoc, b10, not_true_eq_false, not_false_eq_true, false_implies, true_implies, implies_true, eq_self, and_self, rf_some, rf_none]
          exact And.intro (fun _ => hQ) (fun c => absurd (nI_le (Nat.le_refl _) (by omega)) c)
      | succ m ih =>
        intro k hk v5 v6
        have e1 : nI k + 1 = nI (k + 1) := nI_1 k
        have en : nxt S tk (l + 1) (k + 1) = if wts S k = true ∧ tk k = false ∧ (nxt S tk (l + 1) k = 0 ∨ cst S (l + 1) k < cst S (l + 1) (nxt S tk (l + 1) k - 1)) then k + 1 else nxt S tk (l + 1) k := rfl
        have ecst : ∀ o, cst S (l + 1) o = un S (l + 1) o := fun o => if_neg (by omega)
        rw [ecst, ecst] at en
        have hx := it k (by omega)
        have hzk := (hW.2.2.2.1 k (by omega)).2.1
        have huk := un_le (S := S) (la := l + 1) (o := k)
        have stay : nxt S tk (l + 1) (k + 1) = nxt S tk (l + 1) k → ∀ v5 v6, mj_W (f - 1) (w - (19 + mj_maxL 49)) 49 mj_noZ Q 71 [.ref (AD 5 0), .ref (AD 1 l), itv AD (nxt S tk (l + 1) k), .int (nI (if nxt S tk (l + 1) k = 0 then 0 else un S (l + 1) (nxt S tk (l + 1) k - 1))), .int (nI k), v5, v6] [] h n mc ms := fun e v5 v6 => by
          have go := ih (k + 1) (by omega) v5 v6
          rw [e] at go
          simp only [sX2_nextBehind_71, sX2_nextBehind_74, Option.some.injEq, Sum.inr.injEq, Sum.inl.injEq, Prod.mk.injEq, true_and, and_true, exists_eq_left', exists_eq_left, exists_eq_right, exists_eq_right', exists_and_left, exists_and_right, List.getElem?_cons_succ, List.getElem?_cons_zero, List.length_cons, List.length_nil, List.set_cons_zero, List.set_cons_succ, Option.toList_some, Option.toList_none, List.nil_append, List.cons_append, mj_up_s, true_or, or_true, Nat.sub_zero, and_assoc, b10, not_true_eq_false, not_false_eq_true, false_implies, true_implies, implies_true, eq_self, and_self, rf_some, rf_none, e1]
          exact go
        have taken : nxt S tk (l + 1) (k + 1) = k + 1 → ∀ v2 v3, mj_W (f - 1) (w - (19 + mj_maxL 49)) 49 mj_noZ Q 65 [.ref (AD 5 0), .ref (AD 1 l), v2, v3, .int (nI k), .ref (AD 1 k), .int (nI (un S (l + 1) k))] [] h n mc ms := fun e v2 v3 => by
          have go := ih (k + 1) (by omega) (.ref (AD 1 k)) (.int (nI (un S (l + 1) k)))
          rw [e, if_neg (by omega), Nat.add_sub_cancel] at go
          simp only [sX2_nextBehind_65, sX2_nextBehind_67, sX2_nextBehind_68, sX2_nextBehind_70, sX2_nextBehind_71, sX2_nextBehind_74, Option.some.injEq, Sum.inr.injEq, Sum.inl.injEq, Prod.mk.injEq, true_and, and_true, exists_eq_left', exists_eq_left, exists_eq_right, exists_eq_right', exists_and_left, exists_and_right, List.getElem?_cons_succ, List.getElem?_cons_zero, List.length_cons, List.length_nil, List.set_cons_zero, List.set_cons_succ, Option.toList_some, Option.toList_none, List.nil_append, List.cons_append, mj_up_s, true_or, or_true, Nat.sub_zero, and_assoc, b10, not_true_eq_false, not_false_eq_true, false_implies, true_implies, implies_true, eq_self, and_self, rf_some, rf_none, e1]
          exact go
        rw [sX2_nextBehind_7]
        simp only [sX2_nextBehind_9, sX2_nextBehind_10, sX2_nextBehind_13, sX2_nextBehind_16, sX2_nextBehind_17, hO, Option.some.injEq, Sum.inr.injEq, Sum.inl.injEq, Prod.mk.injEq, true_and, and_true, exists_eq_left', exists_eq_left, exists_eq_right, exists_eq_right', exists_and_left, exists_and_right, List.getElem?_cons_succ, List.getElem?_cons_zero, List.length_cons, List.length_nil, List.set_cons_zero, List.set_cons_succ, Option.toList_some, Option.toList_none, List.nil_append, List.cons_append, mj_up_s, true_or, or_true, Nat.sub_zero, and_assoc, b10, not_true_eq_false, not_false_eq_true, false_implies, true_implies, implies_true, eq_self, and_self, rf_some, rf_none]
        refine And.intro (fun c => absurd c (nI_ge (by omega) (by omega))) (fun _ => ?_)
        refine sX2_nextBehind_19z hO rfl (m_itemOf (by omega) (by show 21 ≤ w - 26; omega) hM hC hW ?_)
        rw [obI_n (by omega), nI_cl (by omega), if_pos (show decide (k < S_no S) = true by simp; omega)]
        by_cases hwt : wts S k = true ∧ tk k = false
        · rw [show wtv S tk k = 1 from if_pos hwt] at hx
          simp only [sX2_nextBehind_22, sX2_nextBehind_24, sX2_nextBehind_26, sX2_nextBehind_29, sX2_nextBehind_31, sX2_nextBehind_34, hx, Option.some.injEq, Sum.inr.injEq, Sum.inl.injEq, Prod.mk.injEq, true_and, and_true, exists_eq_left', exists_eq_left, exists_eq_right, exists_eq_right', exists_and_left, exists_and_right, List.getElem?_cons_succ, List.getElem?_cons_zero, List.length_cons, List.length_nil, List.set_cons_zero, List.set_cons_succ, Option.toList_some, Option.toList_none, List.nil_append, List.cons_append, mj_up_s, true_or, or_true, Nat.sub_zero, and_assoc, b10, not_true_eq_false, not_false_eq_true, false_implies, true_implies, implies_true, eq_self, and_self, rf_some, rf_none]
          simp only [sX2_nextBehind_40, sX2_nextBehind_41, sX2_nextBehind_47, sX2_nextBehind_49, Option.some.injEq, Sum.inr.injEq, Sum.inl.injEq, Prod.mk.injEq, true_and, and_true, exists_eq_left', exists_eq_left, exists_eq_right, exists_eq_right', exists_and_left, exists_and_right, List.getElem?_cons_succ, List.getElem?_cons_zero, List.length_cons, List.length_nil, List.set_cons_zero, List.set_cons_succ, Option.toList_some, Option.toList_none, List.nil_append, List.cons_append, mj_up_s, true_or, or_true, Nat.sub_zero, and_assoc, b10, not_true_eq_false, not_false_eq_true, false_implies, true_implies, implies_true, eq_self, and_self, rf_some, rf_none]
          refine sX2_nextBehind_50z hx rfl (m_unlike (la := l + 1) (by omega) (by show 64 ≤ w - 26; omega) hM hC hW (by omega) (fun l' hl' => by omega) ?_)
          simp only [sX2_nextBehind_53, Option.some.injEq, Sum.inr.injEq, Sum.inl.injEq, Prod.mk.injEq, true_and, and_true, exists_eq_left', exists_eq_left, exists_eq_right, exists_eq_right', exists_and_left, exists_and_right, List.getElem?_cons_succ, List.getElem?_cons_zero, List.length_cons, List.length_nil, List.set_cons_zero, List.set_cons_succ, Option.toList_some, Option.toList_none, List.nil_append, List.cons_append, mj_up_s, true_or, or_true, Nat.sub_zero, and_assoc, b10, not_true_eq_false, not_false_eq_true, false_implies, true_implies, implies_true, eq_self, and_self, rf_some, rf_none]
          cases hn : nxt S tk (l + 1) k with
          | zero =>
            simp only [itv, sX2_nextBehind_55n, sX2_nextBehind_56n]
            exact taken (by rw [en, if_pos ⟨hwt.1, hwt.2, Or.inl hn⟩]) _ _
          | succ b =>
            have hb := nxt_some hn
            have hzb := (hW.2.2.2.1 b (by omega)).2.1
            have hub := un_le (S := S) (la := l + 1) (o := b)
            rw [hn] at stay en
            rw [if_neg (by omega), Nat.add_sub_cancel] at stay ⊢
            rw [Nat.add_sub_cancel] at en
            simp only [itv, sX2_nextBehind_55, sX2_nextBehind_56, sX2_nextBehind_59, sX2_nextBehind_61, sX2_nextBehind_62]
            by_cases hlt : un S (l + 1) k < un S (l + 1) b
            · refine And.intro (fun c => absurd c (nI_ge hlt (by omega))) (fun _ => ?_)
              exact taken (by rw [en, if_pos ⟨hwt.1, hwt.2, Or.inr hlt⟩]) _ _
            · refine And.intro (fun _ => ?_) (fun c => absurd (nI_le (by omega) (by omega)) c)
              exact stay (by rw [en, if_neg (fun z => z.2.2.elim (by omega) hlt)]) _ _
        · rw [show wtv S tk k = 0 from if_neg hwt] at hx
          simp only [sX2_nextBehind_22, sX2_nextBehind_24, sX2_nextBehind_26, sX2_nextBehind_29, sX2_nextBehind_31, sX2_nextBehind_34, hx, Option.some.injEq, Sum.inr.injEq, Sum.inl.injEq, Prod.mk.injEq, true_and, and_true, exists_eq_left', exists_eq_left, exists_eq_right, exists_eq_right', exists_and_left, exists_and_right, List.getElem?_cons_succ, List.getElem?_cons_zero, List.length_cons, List.length_nil, List.set_cons_zero, List.set_cons_succ, Option.toList_some, Option.toList_none, List.nil_append, List.cons_append, mj_up_s, true_or, or_true, Nat.sub_zero, and_assoc, b10, not_true_eq_false, not_false_eq_true, false_implies, true_implies, implies_true, eq_self, and_self, rf_some, rf_none]
          simp only [sX2_nextBehind_37]
          exact stay (by rw [en, if_neg (fun z => hwt ⟨z.1, z.2.1⟩)]) _ _
    simp only [sX2_nextBehind_0, sX2_nextBehind_1n, sX2_nextBehind_2, sX2_nextBehind_3, sX2_nextBehind_4, sX2_nextBehind_5, Option.some.injEq, Sum.inr.injEq, Sum.inl.injEq, Prod.mk.injEq, true_and, and_true, exists_eq_left', exists_eq_left, exists_eq_right, exists_eq_right', exists_and_left, exists_and_right, List.getElem?_cons_succ, List.getElem?_cons_zero, List.length_cons, List.length_nil, List.set_cons_zero, List.set_cons_succ, Option.toList_some, Option.toList_none, List.nil_append, List.cons_append, mj_up_s, true_or, or_true, Nat.sub_zero, and_assoc, b10, not_true_eq_false, not_false_eq_true, false_implies, true_implies, implies_true, eq_self, and_self, rf_some, rf_none]
    exact loop (S_no S) 0 (by omega) _ _
set_option maxRecDepth 100000 in
theorem m_planned (hf : 2 ≤ f) (hw : 42 ≤ w) (hM : MEM h n AD (VS S) C) (hC : CC S AD C) (hW : WF S) {dn : Nat} {od : Nat → Nat} (h5 : C 5 0 = OSc AD S (nI dn)) (h4 : ∃ g, C 0 4 = .inl (.int, 60, .inl g) ∧ ∀ i, i < dn → g i = nI (od i)) {i : Nat} (hi : i < dn) (hd : dn ≤ 60) (ho : od i < S_no S) (hQ : Q (some (.ref (AD 1 (od i)))) h n) : mj_bk f w 50 [.ref (AD 5 0), .int (nI i)] h n mc ms Q := by
  have w1 := hW.1
  have hO := hM.1 5 0 rfl
  rw [h5] at hO
  obtain ⟨g, g1, g2⟩ := h4
  have hA := hM.1 0 4 (show 4 < 6 by omega)
  rw [g1] at hA
  refine mj_begin (by omega) (by decide) (by show 21 ≤ w; omega) rfl ?_
  show mj_W _ _ 50 mj_noZ Q 0 [.ref (AD 5 0), .int (nI i)] [] h n mc ms
  simp only [sX2_planned_0, sX2_planned_1, sX2_planned_4, sX2_planned_5, sX2_planned_6, sX2_planned_9, sX2_planned_12, sX2_planned_13, sX2_planned_15, sX2_planned_18, sX2_planned_19, sX2_planned_20, sX2_planned_23, sX2_planned_24, hO, hA, Option.some.injEq, Sum.inr.injEq, Sum.inl.injEq, Prod.mk.injEq, true_and, and_true, exists_eq_left', exists_eq_left, exists_eq_right, exists_eq_right', exists_and_left, exists_and_right, List.getElem?_cons_succ, List.getElem?_cons_zero, List.length_cons, List.length_nil, List.set_cons_zero, List.set_cons_succ, Option.toList_some, Option.toList_none, List.nil_append, List.cons_append, mj_up_s, true_or, or_true, Nat.sub_zero, and_assoc, b10, not_true_eq_false, not_false_eq_true, false_implies, true_implies, implies_true, eq_self, and_self, rf_some, rf_none, nI_cl (show i < 2147483648 by omega), g2 i hi]
  refine And.intro (fun c => absurd c (nI_pos (by omega))) (fun _ => And.intro (fun c => absurd c (nI_ge (by omega) (by omega))) (fun _ => And.intro (fun c => absurd c (show ¬ nI 60 ≤ nI i from nI_ge (by omega) (by omega))) (fun _ => And.intro (vp_in_nI (by omega) (by decide)) ?_)))
  refine sX2_planned_25z hO rfl (m_itemOf (by omega) (by show 21 ≤ w - 21; omega) hM hC hW ?_)
  rw [obI_n (by omega), nI_cl (by omega), if_pos (by simp; omega)]
  simp only [sX2_planned_28, sX2_planned_32, Option.some.injEq, Sum.inr.injEq, Sum.inl.injEq, Prod.mk.injEq, true_and, and_true, exists_eq_left', exists_eq_left, exists_eq_right, exists_eq_right', exists_and_left, exists_and_right, List.getElem?_cons_succ, List.getElem?_cons_zero, List.length_cons, List.length_nil, List.set_cons_zero, List.set_cons_succ, Option.toList_some, Option.toList_none, List.nil_append, List.cons_append, mj_up_s, true_or, or_true, Nat.sub_zero, and_assoc, b10, not_true_eq_false, not_false_eq_true, false_implies, true_implies, implies_true, eq_self, and_self, rf_some, rf_none]
  exact hQ
end
