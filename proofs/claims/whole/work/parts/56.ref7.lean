/-! ===== the reference: isBefore, wrongOf, read, find, count ===== -/
theorem findN_snoc {P : Nat → Bool} : ∀ {m a : Nat}, (findN P a (m + 1)).isSome = ((findN P a m).isSome || P (a + m))
  | 0, a => by
    simp only [findN, Nat.add_zero]
    cases P a <;> simp
  | m + 1, a => by
    have ih := findN_snoc (P := P) (m := m) (a := a + 1)
    rw [show findN P a (m + 1 + 1) = if P a = true then some a else findN P (a + 1) (m + 1) from rfl, show findN P a (m + 1) = if P a = true then some a else findN P (a + 1) m from rfl]
    by_cases h : P a = true
    · rw [if_pos h, if_pos h]; rfl
    · rw [if_neg h, if_neg h, ih]
      rw [show a + 1 + m = a + (m + 1) by omega]
theorem CM_told {S : St} {X X' : Nat → Int32} {A A' : Nat → Nat → Int32} (hR : CM S X A) {wv k : Nat} (h1 : X' 1 = X 1) (h7 : X' 7 = X 7) (h15 : X' 15 = nI (S_nt S + 1)) (hA : ∀ j, j ≤ 10 → A' j = A j) (h12 : A' 12 = upd (A 12) (S_nt S) (nI wv)) (h13 : A' 13 = upd (A 13) (S_nt S) (nI k)) : CM (S_told S wv k) X' A' := by
  have hS : sameLo S (S_told S wv k) := fun r a b hr => S_told_lo hr
  have e0 : S_no (S_told S wv k) = S_no S := hS 0 0 0 (by omega)
  have e6 : S_np (S_told S wv k) = S_np S := hS 6 0 0 (by omega)
  obtain ⟨r1, r2, r3, r4, r5, r6, r7⟩ := hR
  refine ⟨by rw [h1, r1, e0], by rw [h7, r2, e6], by rw [h15, S_told_nt], fun j hj => ?_, fun j hj => ?_, fun p hp => ?_, fun j hj => ?_⟩
  · rw [hA 1 (by omega), hA 2 (by omega), hA 3 (by omega), hA 4 (by omega), hA 5 (by omega), show S_kd (S_told S wv k) j = S_kd S j from hS 1 j 0 (by omega), show S_sz (S_told S wv k) j = S_sz S j from hS 2 j 0 (by omega), show S_pk (S_told S wv k) j = S_pk S j from hS 4 j 0 (by omega), show S_ix (S_told S wv k) j = S_ix S j from hS 5 j 0 (by omega)]
    obtain ⟨q1, q2, q3, q4⟩ := r4 j (by omega)
    exact ⟨q1, q2, q3, fun hz => ⟨(q4 hz).1, fun t ht => by rw [show S_by (S_told S wv k) j t = S_by S j t from hS 3 j t (by omega)]; exact (q4 hz).2 t ht⟩⟩
  · rw [hA 2 (by omega), hA 5 (by omega)]; exact r5 j (by omega)
  · rw [hA 6 (by omega), hA 7 (by omega), hA 8 (by omega), hA 9 (by omega), hA 10 (by omega), show S_ct (S_told S wv k) p = S_ct S p from hS 7 p 0 (by omega), show S_fs (S_told S wv k) p = S_fs S p from hS 8 p 0 (by omega), show S_ex (S_told S wv k) p = S_ex S p from hS 9 p 0 (by omega), show S_pz (S_told S wv k) p = S_pz S p from hS 10 p 0 (by omega)]
    obtain ⟨q1, q2, q3, q4, q5⟩ := r6 p (by omega)
    exact ⟨q1, q2, q3, q4, fun t ht => by rw [show S_pb (S_told S wv k) p t = S_pb S p t from hS 11 p t (by omega)]; exact q5 t ht⟩
  · rw [h12, h13, S_told_tf, S_told_tp]
    rw [S_told_nt] at hj
    by_cases he : j = S_nt S
    · subst he; rw [pk_us, pk_us, if_pos rfl, if_pos rfl]; exact ⟨rfl, rfl⟩
    · rw [pk_un he, pk_un he, if_neg he, if_neg he]; exact r7 j (by omega)
theorem CM_told0 {S : St} {X X' : Nat → Int32} {A : Nat → Nat → Int32} (hR : CM S X A) (h1 : X' 1 = X 1) (h7 : X' 7 = X 7) (h15 : X' 15 = 0) : CM (S_up S 12 0 0 0) X' A := by
  have nt0 : S_nt (S_up S 12 0 0 0) = 0 := by simp [S_nt, S_up]
  obtain ⟨r1, r2, r3, r4, r5, r6, r7⟩ := hR
  exact ⟨h1.trans r1, h7.trans r2, by rw [h15, nt0]; rfl, r4, r5, r6, fun j hj => by omega⟩
section
variable {f w : Nat} {Q : mj_Q} {h0 h : mj_H} {n mc ms : Nat} {S : St} {AD : Ad} {X : Nat → Int32} {A : Nat → Nat → Int32}
theorem nI_p0 {k : Nat} : nI k + 0 = nI k := nI_add k 0
theorem pk4 {k : Nat} : (4 : Int32) * nI k = nI (4 * k + 2 * 0) := by rw [show (4 : Int32) = nI 4 from rfl, pk_mul]; rfl
set_option maxRecDepth 100000 in
theorem r_isBefore (hf : 3 ≤ f) (hw : 69 ≤ w) (hM : MHF h0 h AD X A) (hR : CM S X A) (hW : WF S) {p k o : Nat} (hp : p < S_np S) (hk : k < 99) (ho : o < 65536) (hQ : Q (some (.int (if S_bef S p k o = true then 1 else 0))) h n) : mj_bk f w 82 [.ref (AD 6 0), .int (nI p), .int (nI k), .int (nI o)] h n mc ms Q := by
  obtain ⟨p1, p2, p3, p4⟩ := (hW.2.2.2.2.2 p hp).1
  refine mj_begin (by omega) (by decide) (by show 25 ≤ w; omega) rfl ?_
  show mj_W _ _ 82 mj_noZ Q 0 [.ref (AD 6 0), .int (nI p), .int (nI k), .int (nI o), .retAddr 0, .retAddr 0] [] h n mc ms
  have loop : ∀ m j, j + m = k → mj_W (f - 1) (w - (19 + mj_maxL 82)) 82 mj_noZ Q 6 [.ref (AD 6 0), .int (nI p), .int (nI k), .int (nI o), .int (if (findN (S_isO S p (nI o)) 0 j).isSome = true then 1 else 0), .int (nI j)] [] h n mc ms := by
    intro m
    induction m with
    | zero =>
      intro j hj
      obtain rfl : j = k := by omega
      rw [sX3_isBefore_6]
      simp only [sX3_isBefore_8, sX3_isBefore_9, sX3_isBefore_53, sX3_isBefore_55, Option.some.injEq, Sum.inr.injEq, Sum.inl.injEq, Prod.mk.injEq, true_and, and_true, exists_eq_left', exists_eq_left, exists_eq_right, exists_eq_right', exists_and_left, exists_and_right, List.getElem?_cons_succ, List.getElem?_cons_zero, List.length_cons, List.length_nil, List.set_cons_zero, List.set_cons_succ, Option.toList_some, Option.toList_none, List.nil_append, List.cons_append, mj_up_s, true_or, or_true, Nat.sub_zero, and_assoc, b10, not_true_eq_false, not_false_eq_true, false_implies, true_implies, implies_true, eq_self, and_self, rf_some, rf_none]
      refine And.intro (fun _ => ?_) (fun c => absurd (nI_le (Nat.le_refl _) (by omega)) c)
      unfold S_bef at hQ
      split at hQ <;> rename_i hc
      · rw [if_pos hc]; exact And.intro rfl hQ
      · rw [if_neg hc]; exact And.intro rfl hQ
    | succ m ih =>
      intro j hj
      have e1 : nI j + 1 = nI (j + 1) := nI_1 j
      have go := ih (j + 1) (by omega)
      have hs := findN_snoc (P := S_isO S p (nI o)) (m := j) (a := 0)
      rw [Nat.zero_add] at hs
      rw [sX3_isBefore_6]
      simp only [sX3_isBefore_8, sX3_isBefore_9]
      refine And.intro (fun c => absurd c (nI_ge (by omega) (by omega))) (fun _ => ?_)
      have fin : ∀ b : Int32, b = (if (findN (S_isO S p (nI o)) 0 (j + 1)).isSome = true then 1 else 0) → ∀ v4, mj_W (f - 1) (w - (19 + mj_maxL 82)) 82 mj_noZ Q 45 [.ref (AD 6 0), .int (nI p), .int (nI k), .int (nI o), v4, .int (nI j)] [.int b] h n mc ms := by
        intro b hb v4
        simp only [sX3_isBefore_45, sX3_isBefore_47, sX3_isBefore_50, Option.some.injEq, Sum.inr.injEq, Sum.inl.injEq, Prod.mk.injEq, true_and, and_true, exists_eq_left', exists_eq_left, exists_eq_right, exists_eq_right', exists_and_left, exists_and_right, List.getElem?_cons_succ, List.getElem?_cons_zero, List.length_cons, List.length_nil, List.set_cons_zero, List.set_cons_succ, Option.toList_some, Option.toList_none, List.nil_append, List.cons_append, mj_up_s, true_or, or_true, Nat.sub_zero, and_assoc, b10, not_true_eq_false, not_false_eq_true, false_implies, true_implies, implies_true, eq_self, and_self, rf_some, rf_none, e1]
        rw [hb]; exact go
      by_cases hc : (findN (S_isO S p (nI o)) 0 j).isSome = true
      · rw [if_pos hc]
        simp only [sX3_isBefore_12, sX3_isBefore_14, sX3_isBefore_40, sX3_isBefore_41, Option.some.injEq, Sum.inr.injEq, Sum.inl.injEq, Prod.mk.injEq, true_and, and_true, exists_eq_left', exists_eq_left, exists_eq_right, exists_eq_right', exists_and_left, exists_and_right, List.getElem?_cons_succ, List.getElem?_cons_zero, List.length_cons, List.length_nil, List.set_cons_zero, List.set_cons_succ, Option.toList_some, Option.toList_none, List.nil_append, List.cons_append, mj_up_s, true_or, or_true, Nat.sub_zero, and_assoc, b10, not_true_eq_false, not_false_eq_true, false_implies, true_implies, implies_true, eq_self, and_self, rf_some, rf_none]
        exact fin 1 (by rw [hs, hc]; rfl) _
      · rw [if_neg hc]
        simp only [sX3_isBefore_12, sX3_isBefore_14, sX3_isBefore_17, sX3_isBefore_18, sX3_isBefore_19, Option.some.injEq, Sum.inr.injEq, Sum.inl.injEq, Prod.mk.injEq, true_and, and_true, exists_eq_left', exists_eq_left, exists_eq_right, exists_eq_right', exists_and_left, exists_and_right, List.getElem?_cons_succ, List.getElem?_cons_zero, List.length_cons, List.length_nil, List.set_cons_zero, List.set_cons_succ, Option.toList_some, Option.toList_none, List.nil_append, List.cons_append, mj_up_s, true_or, or_true, Nat.sub_zero, and_assoc, b10, not_true_eq_false, not_false_eq_true, false_implies, true_implies, implies_true, eq_self, and_self, rf_some, rf_none]
        refine sX3_isBefore_21z hM.ob rfl (r_isThere (by omega) (by show 44 ≤ w - 25; omega) hM hR hW hp ?_)
        rw [S_thI_n (by omega)]
        by_cases ht : S_th S p j = true
        · rw [if_pos ht]
          simp only [sX3_isBefore_24, sX3_isBefore_27, sX3_isBefore_28, sX3_isBefore_29, sX3_isBefore_30, sX3_isBefore_32, Option.some.injEq, Sum.inr.injEq, Sum.inl.injEq, Prod.mk.injEq, true_and, and_true, exists_eq_left', exists_eq_left, exists_eq_right, exists_eq_right', exists_and_left, exists_and_right, List.getElem?_cons_succ, List.getElem?_cons_zero, List.length_cons, List.length_nil, List.set_cons_zero, List.set_cons_succ, Option.toList_some, Option.toList_none, List.nil_append, List.cons_append, mj_up_s, true_or, or_true, Nat.sub_zero, and_assoc, b10, not_true_eq_false, not_false_eq_true, false_implies, true_implies, implies_true, eq_self, and_self, rf_some, rf_none]
          rw [pk4]
          refine sX3_isBefore_33z hM.ob rfl (r_two (wh := 0) (by omega) (by show 22 ≤ w - 25; omega) hM hR hW hp (by omega) ht ?_)
          simp only [sX3_isBefore_36, sX3_isBefore_37, Option.some.injEq, Sum.inr.injEq, Sum.inl.injEq, Prod.mk.injEq, true_and, and_true, exists_eq_left', exists_eq_left, exists_eq_right, exists_eq_right', exists_and_left, exists_and_right, List.getElem?_cons_succ, List.getElem?_cons_zero, List.length_cons, List.length_nil, List.set_cons_zero, List.set_cons_succ, Option.toList_some, Option.toList_none, List.nil_append, List.cons_append, mj_up_s, true_or, or_true, Nat.sub_zero, and_assoc, b10, not_true_eq_false, not_false_eq_true, false_implies, true_implies, implies_true, eq_self, and_self, rf_some, rf_none]
          refine And.intro (fun c => ?_) (fun c => ?_)
          · rw [sX3_isBefore_44]
            refine fin 0 ?_ _
            rw [hs, if_neg]
            simp only [S_isO, ht, Bool.true_and, Bool.or_eq_true, decide_eq_true_eq]
            exact fun z => z.elim hc c
          · simp only [sX3_isBefore_40, sX3_isBefore_41]
            refine fin 1 ?_ _
            rw [hs, if_pos]
            simp only [S_isO, ht, Bool.true_and, Bool.or_eq_true, decide_eq_true_eq]
            exact Or.inr (Classical.not_not.mp c)
        · rw [if_neg ht]
          simp only [sX3_isBefore_24, sX3_isBefore_44, Option.some.injEq, Sum.inr.injEq, Sum.inl.injEq, Prod.mk.injEq, true_and, and_true, exists_eq_left', exists_eq_left, exists_eq_right, exists_eq_right', exists_and_left, exists_and_right, List.getElem?_cons_succ, List.getElem?_cons_zero, List.length_cons, List.length_nil, List.set_cons_zero, List.set_cons_succ, Option.toList_some, Option.toList_none, List.nil_append, List.cons_append, mj_up_s, true_or, or_true, Nat.sub_zero, and_assoc, b10, not_true_eq_false, not_false_eq_true, false_implies, true_implies, implies_true, eq_self, and_self, rf_some, rf_none]
          refine fin 0 ?_ _
          rw [hs, if_neg]
          simp only [S_isO, Bool.or_eq_true, Bool.and_eq_true]
          exact fun z => z.elim hc (fun y => ht y.1)
  simp only [sX3_isBefore_0, sX3_isBefore_1, sX3_isBefore_3, sX3_isBefore_4, Option.some.injEq, Sum.inr.injEq, Sum.inl.injEq, Prod.mk.injEq, true_and, and_true, exists_eq_left', exists_eq_left, exists_eq_right, exists_eq_right', exists_and_left, exists_and_right, List.getElem?_cons_succ, List.getElem?_cons_zero, List.length_cons, List.length_nil, List.set_cons_zero, List.set_cons_succ, Option.toList_some, Option.toList_none, List.nil_append, List.cons_append, mj_up_s, true_or, or_true, Nat.sub_zero, and_assoc, b10, not_true_eq_false, not_false_eq_true, false_implies, true_implies, implies_true, eq_self, and_self, rf_some, rf_none]
  exact loop k 0 (by omega)
set_option maxRecDepth 100000 in
theorem r_wrongOf (hf : 4 ≤ f) (hw : 92 ≤ w) (hM : MHF h0 h AD X A) (hR : CM S X A) (hW : WF S) {p k : Nat} (hp : p < S_np S) (hk : k < 99) (h14 : X 14 = oI (S_cl S p k)) (hQ : Q (some (.int (nI (S_wr S p k)))) h n) : mj_bk f w 83 [.ref (AD 6 0), .int (nI p), .int (nI k)] h n mc ms Q := by
  obtain ⟨p1, p2, p3, p4⟩ := (hW.2.2.2.2.2 p hp).1
  have w1 := hW.1
  refine mj_begin (by omega) (by decide) (by show 23 ≤ w; omega) rfl ?_
  show mj_W _ _ 83 mj_noZ Q 0 [.ref (AD 6 0), .int (nI p), .int (nI k), .retAddr 0] [] h n mc ms
  simp only [sX3_wrongOf_0, sX3_wrongOf_1, sX3_wrongOf_2, Option.some.injEq, Sum.inr.injEq, Sum.inl.injEq, Prod.mk.injEq, true_and, and_true, exists_eq_left', exists_eq_left, exists_eq_right, exists_eq_right', exists_and_left, exists_and_right, List.getElem?_cons_succ, List.getElem?_cons_zero, List.length_cons, List.length_nil, List.set_cons_zero, List.set_cons_succ, Option.toList_some, Option.toList_none, List.nil_append, List.cons_append, mj_up_s, true_or, or_true, Nat.sub_zero, and_assoc, b10, not_true_eq_false, not_false_eq_true, false_implies, true_implies, implies_true, eq_self, and_self, rf_some, rf_none]
  refine sX3_wrongOf_3z hM.ob rfl (r_isThere (by omega) (by show 44 ≤ w - 23; omega) hM hR hW hp ?_)
  rw [S_thI_n (by omega)]
  unfold S_wr at hQ
  by_cases ht : S_th S p k = true
  · rw [if_pos ht] at hQ ⊢
    have hlt := S_num_lt (S := S) (p := p) (k := k) (wh := 0) p4
    simp only [sX3_wrongOf_6, sX3_wrongOf_11, sX3_wrongOf_12, sX3_wrongOf_13, sX3_wrongOf_14, sX3_wrongOf_15, Option.some.injEq, Sum.inr.injEq, Sum.inl.injEq, Prod.mk.injEq, true_and, and_true, exists_eq_left', exists_eq_left, exists_eq_right, exists_eq_right', exists_and_left, exists_and_right, List.getElem?_cons_succ, List.getElem?_cons_zero, List.length_cons, List.length_nil, List.set_cons_zero, List.set_cons_succ, Option.toList_some, Option.toList_none, List.nil_append, List.cons_append, mj_up_s, true_or, or_true, Nat.sub_zero, and_assoc, b10, not_true_eq_false, not_false_eq_true, false_implies, true_implies, implies_true, eq_self, and_self, rf_some, rf_none]
    rw [pk4]
    refine sX3_wrongOf_16z hM.ob rfl (r_two (wh := 0) (by omega) (by show 22 ≤ w - 23; omega) hM hR hW hp (by omega) ht ?_)
    simp only [sX3_wrongOf_19, sX3_wrongOf_20, sX3_wrongOf_21, sX3_wrongOf_24, hM.ob, Option.some.injEq, Sum.inr.injEq, Sum.inl.injEq, Prod.mk.injEq, true_and, and_true, exists_eq_left', exists_eq_left, exists_eq_right, exists_eq_right', exists_and_left, exists_and_right, List.getElem?_cons_succ, List.getElem?_cons_zero, List.length_cons, List.length_nil, List.set_cons_zero, List.set_cons_succ, Option.toList_some, Option.toList_none, List.nil_append, List.cons_append, mj_up_s, true_or, or_true, Nat.sub_zero, and_assoc, b10, not_true_eq_false, not_false_eq_true, false_implies, true_implies, implies_true, eq_self, and_self, rf_some, rf_none]
    rw [h14]
    cases hcl : S_cl S p k with
    | none =>
      rw [hcl, if_pos rfl] at hQ
      simp only [oI]
      refine And.intro (fun c => absurd c (by decide)) (fun _ => ?_)
      simp only [sX3_wrongOf_27, sX3_wrongOf_28, sX3_wrongOf_72, Option.some.injEq, Sum.inr.injEq, Sum.inl.injEq, Prod.mk.injEq, true_and, and_true, exists_eq_left', exists_eq_left, exists_eq_right, exists_eq_right', exists_and_left, exists_and_right, List.getElem?_cons_succ, List.getElem?_cons_zero, List.length_cons, List.length_nil, List.set_cons_zero, List.set_cons_succ, Option.toList_some, Option.toList_none, List.nil_append, List.cons_append, mj_up_s, true_or, or_true, Nat.sub_zero, and_assoc, b10, not_true_eq_false, not_false_eq_true, false_implies, true_implies, implies_true, eq_self, and_self, rf_some, rf_none]
      exact hQ
    | some L =>
      rw [hcl, if_neg (by simp)] at hQ
      have hL := S_cl_lt p4 hcl
      simp only [oI]
      refine And.intro (fun _ => ?_) (fun c => absurd (nI_pos' (by omega)) c)
      simp only [sX3_wrongOf_31, sX3_wrongOf_32, sX3_wrongOf_33, sX3_wrongOf_36, hM.ob, Option.some.injEq, Sum.inr.injEq, Sum.inl.injEq, Prod.mk.injEq, true_and, and_true, exists_eq_left', exists_eq_left, exists_eq_right, exists_eq_right', exists_and_left, exists_and_right, List.getElem?_cons_succ, List.getElem?_cons_zero, List.length_cons, List.length_nil, List.set_cons_zero, List.set_cons_succ, Option.toList_some, Option.toList_none, List.nil_append, List.cons_append, mj_up_s, true_or, or_true, Nat.sub_zero, and_assoc, b10, not_true_eq_false, not_false_eq_true, false_implies, true_implies, implies_true, eq_self, and_self, rf_some, rf_none, hR.1]
      by_cases h3 : S_no S ≤ S_num S p k 0
      · rw [if_pos h3] at hQ
        refine And.intro (fun c => absurd c (by have a1 := nI_tI (n := S_no S) (by omega); have a2 := nI_tI (n := S_num S p k 0) (by omega); clear hQ hM hR h14; (simp only [Int32.le_iff_toInt_le, Int32.lt_iff_toInt_lt, i32_eq, i32_0, i32_m1, i32_600, i32_60, i32_20, i32_99, i32_10, i32_1, i32_2] at *; omega))) (fun _ => ?_)
        simp only [sX3_wrongOf_39, sX3_wrongOf_40, sX3_wrongOf_72, Option.some.injEq, Sum.inr.injEq, Sum.inl.injEq, Prod.mk.injEq, true_and, and_true, exists_eq_left', exists_eq_left, exists_eq_right, exists_eq_right', exists_and_left, exists_and_right, List.getElem?_cons_succ, List.getElem?_cons_zero, List.length_cons, List.length_nil, List.set_cons_zero, List.set_cons_succ, Option.toList_some, Option.toList_none, List.nil_append, List.cons_append, mj_up_s, true_or, or_true, Nat.sub_zero, and_assoc, b10, not_true_eq_false, not_false_eq_true, false_implies, true_implies, implies_true, eq_self, and_self, rf_some, rf_none]
        exact hQ
      · rw [if_neg h3] at hQ
        obtain ⟨a1, a4, a5, a2⟩ := hR.2.2.2.1 (S_num S p k 0) (by omega)
        have i1 := hM.ar 1 (by omega) (by omega)
        refine And.intro (fun _ => ?_) (fun c => absurd (nI_lt (by omega) (by omega)) c)
        simp only [sX3_wrongOf_43, sX3_wrongOf_44, sX3_wrongOf_47, sX3_wrongOf_48, sX3_wrongOf_49, sX3_wrongOf_50, hM.ob, i1, Option.some.injEq, Sum.inr.injEq, Sum.inl.injEq, Prod.mk.injEq, true_and, and_true, exists_eq_left', exists_eq_left, exists_eq_right, exists_eq_right', exists_and_left, exists_and_right, List.getElem?_cons_succ, List.getElem?_cons_zero, List.length_cons, List.length_nil, List.set_cons_zero, List.set_cons_succ, Option.toList_some, Option.toList_none, List.nil_append, List.cons_append, mj_up_s, true_or, or_true, Nat.sub_zero, and_assoc, b10, not_true_eq_false, not_false_eq_true, false_implies, true_implies, implies_true, eq_self, and_self, rf_some, rf_none, nI_cl (show S_num S p k 0 < 2147483648 by omega), a1]
        refine And.intro (vp_in_nI (show _ < 60 by omega) (by decide)) ?_
        have hkd := (hW.2.2.2.1 (S_num S p k 0) (by omega)).1
        by_cases h4 : S_kd S (S_num S p k 0) = 1
        · rw [if_pos h4] at hQ
          refine And.intro (fun c => absurd (by rw [h4]; rfl) c) (fun _ => ?_)
          simp only [sX3_wrongOf_53, sX3_wrongOf_54, sX3_wrongOf_72, Option.some.injEq, Sum.inr.injEq, Sum.inl.injEq, Prod.mk.injEq, true_and, and_true, exists_eq_left', exists_eq_left, exists_eq_right, exists_eq_right', exists_and_left, exists_and_right, List.getElem?_cons_succ, List.getElem?_cons_zero, List.length_cons, List.length_nil, List.set_cons_zero, List.set_cons_succ, Option.toList_some, Option.toList_none, List.nil_append, List.cons_append, mj_up_s, true_or, or_true, Nat.sub_zero, and_assoc, b10, not_true_eq_false, not_false_eq_true, false_implies, true_implies, implies_true, eq_self, and_self, rf_some, rf_none]
          exact hQ
        · rw [if_neg h4] at hQ
          refine And.intro (fun _ => ?_) (fun c => absurd (fun e => h4 ((nI_eq (by omega) (by omega)).mp (show nI _ = nI 1 from e))) c)
          simp only [sX3_wrongOf_57, sX3_wrongOf_58, sX3_wrongOf_59, sX3_wrongOf_60, Option.some.injEq, Sum.inr.injEq, Sum.inl.injEq, Prod.mk.injEq, true_and, and_true, exists_eq_left', exists_eq_left, exists_eq_right, exists_eq_right', exists_and_left, exists_and_right, List.getElem?_cons_succ, List.getElem?_cons_zero, List.length_cons, List.length_nil, List.set_cons_zero, List.set_cons_succ, Option.toList_some, Option.toList_none, List.nil_append, List.cons_append, mj_up_s, true_or, or_true, Nat.sub_zero, and_assoc, b10, not_true_eq_false, not_false_eq_true, false_implies, true_implies, implies_true, eq_self, and_self, rf_some, rf_none]
          refine sX3_wrongOf_61z hM.ob rfl (r_isBefore (by omega) (by show 69 ≤ w - 23; omega) hM hR hW hp hk hlt ?_)
          by_cases h5 : S_bef S p k (S_num S p k 0) = true
          · rw [if_pos h5] at hQ ⊢
            simp only [sX3_wrongOf_64, sX3_wrongOf_67, sX3_wrongOf_68, sX3_wrongOf_72, Option.some.injEq, Sum.inr.injEq, Sum.inl.injEq, Prod.mk.injEq, true_and, and_true, exists_eq_left', exists_eq_left, exists_eq_right, exists_eq_right', exists_and_left, exists_and_right, List.getElem?_cons_succ, List.getElem?_cons_zero, List.length_cons, List.length_nil, List.set_cons_zero, List.set_cons_succ, Option.toList_some, Option.toList_none, List.nil_append, List.cons_append, mj_up_s, true_or, or_true, Nat.sub_zero, and_assoc, b10, not_true_eq_false, not_false_eq_true, false_implies, true_implies, implies_true, eq_self, and_self, rf_some, rf_none]
            exact hQ
          · rw [if_neg h5] at hQ ⊢
            simp only [sX3_wrongOf_64, sX3_wrongOf_71, sX3_wrongOf_72, Option.some.injEq, Sum.inr.injEq, Sum.inl.injEq, Prod.mk.injEq, true_and, and_true, exists_eq_left', exists_eq_left, exists_eq_right, exists_eq_right', exists_and_left, exists_and_right, List.getElem?_cons_succ, List.getElem?_cons_zero, List.length_cons, List.length_nil, List.set_cons_zero, List.set_cons_succ, Option.toList_some, Option.toList_none, List.nil_append, List.cons_append, mj_up_s, true_or, or_true, Nat.sub_zero, and_assoc, b10, not_true_eq_false, not_false_eq_true, false_implies, true_implies, implies_true, eq_self, and_self, rf_some, rf_none]
            exact hQ
  · rw [if_neg ht] at hQ ⊢
    simp only [sX3_wrongOf_6, sX3_wrongOf_9, sX3_wrongOf_10, Option.some.injEq, Sum.inr.injEq, Sum.inl.injEq, Prod.mk.injEq, true_and, and_true, exists_eq_left', exists_eq_left, exists_eq_right, exists_eq_right', exists_and_left, exists_and_right, List.getElem?_cons_succ, List.getElem?_cons_zero, List.length_cons, List.length_nil, List.set_cons_zero, List.set_cons_succ, Option.toList_some, Option.toList_none, List.nil_append, List.cons_append, mj_up_s, true_or, or_true, Nat.sub_zero, and_assoc, b10, not_true_eq_false, not_false_eq_true, false_implies, true_implies, implies_true, eq_self, and_self, rf_some, rf_none]
    exact hQ
set_option maxRecDepth 100000 in
theorem r_read (hf : 5 ≤ f) (hw : 116 ≤ w) (hM : MHF h0 h AD X A) (hR : CM S X A) (hW : WF S) {p : Int32} (hQ : ∀ h', RK h0 AD (op_read S p).2 0 h' → Q (some (.int (op_read S p).1)) h' n) : mj_bk f w 84 [.ref (AD 6 0), .int p] h n mc ms Q := by
  refine mj_begin (by omega) (by decide) (by show 24 ≤ w; omega) rfl ?_
  show mj_W _ _ 84 mj_noZ Q 0 [.ref (AD 6 0), .int p, .retAddr 0, .retAddr 0, .retAddr 0] [] h n mc ms
  simp only [sX3_read_0, sX3_read_1, sX3_read_2, sX3_read_5, sX3_read_6, hM.ob, nfi_3_0, ffi_3_0, nfi_3_1, ffi_3_1, nfr_3_2, ffr_3_2, nfu_3_2, ffu_3_2, nfr_3_3, ffr_3_3, nfu_3_3, ffu_3_3, nfr_3_4, ffr_3_4, nfu_3_4, ffu_3_4, nfr_3_5, ffr_3_5, nfu_3_5, ffu_3_5, nfr_3_6, ffr_3_6, nfu_3_6, ffu_3_6, nfi_3_7, ffi_3_7, nfr_3_8, ffr_3_8, nfu_3_8, ffu_3_8, nfr_3_9, ffr_3_9, nfu_3_9, ffu_3_9, nfr_3_10, ffr_3_10, nfu_3_10, ffu_3_10, nfr_3_11, ffr_3_11, nfu_3_11, ffu_3_11, nfr_3_12, ffr_3_12, nfu_3_12, ffu_3_12, nfr_3_13, ffr_3_13, nfu_3_13, ffu_3_13, nfi_3_14, ffi_3_14, nfi_3_15, ffi_3_15, nfr_3_16, ffr_3_16, nfu_3_16, ffu_3_16, nfr_3_17, ffr_3_17, nfu_3_17, ffu_3_17, nfr_3_18, ffr_3_18, nfu_3_18, ffu_3_18, nfr_3_19, ffr_3_19, nfu_3_19, ffu_3_19, nfr_3_20, ffr_3_20, nfu_3_20, ffu_3_20, nfi_3_21, ffi_3_21, Option.some.injEq, Sum.inr.injEq, Sum.inl.injEq, Prod.mk.injEq, true_and, and_true, exists_eq_left', exists_eq_left, exists_eq_right, exists_eq_right', exists_and_left, exists_and_right, List.getElem?_cons_succ, List.getElem?_cons_zero, List.length_cons, List.length_nil, List.set_cons_zero, List.set_cons_succ, Option.toList_some, Option.toList_none, List.nil_append, List.cons_append, mj_up_s, true_or, or_true, Nat.sub_zero, and_assoc, b10, not_true_eq_false, not_false_eq_true, false_implies, true_implies, implies_true, eq_self, and_self, rf_some, rf_none]
  refine And.intro (by decide) ?_
  generalize hH : mj_up h (AD 6 0) _ = h1
  have hM1 : MHF h0 h1 AD (Xw X 0 0) A := hH ▸ hM.putX 0 0
  have hR1 : CM S (Xw X 0 0) A := hR.x0
  clear hH
  refine sX3_read_7z hM1.ob rfl (r_isPack (by omega) (by show 43 ≤ w - 24; omega) hM1 hR1 hW ?_)
  unfold op_read at hQ
  by_cases hc : pkI S p = true
  · rw [if_pos hc] at hQ ⊢
    obtain ⟨q, rfl, j1, j2⟩ := cl_iff.mp hc
    rw [nI_cl j1] at hQ
    obtain ⟨p1, p2, p3, p4⟩ := (hW.2.2.2.2.2 q j2).1
    have w2 := hW.2.1
    have vq : vp_in (nI q) 20 := vp_in_nI (by omega) (by decide)
    have loop : ∀ m k, k + m = S_ct S q → ∀ h1 X1 A1 bf v4, MHF h0 h1 AD X1 A1 → CM (rdN S q k).2 X1 A1 → X1 0 = 0 → X1 14 = oI bf → (k = 0 ∧ bf = none ∨ ∃ t, k = t + 1 ∧ bf = S_cl S q t) → mj_W (f - 1) (w - (19 + mj_maxL 84)) 84 mj_noZ Q 30 [.ref (AD 6 0), .int (nI q), .int (nI (rdN S q k).1), .int (nI k), v4] [] h1 n mc ms := by
      intro m
      induction m with
      | zero =>
        intro k hk h1 X1 A1 bf v4 hM1 hR1 hx0 hx14 hb
        obtain rfl : k = S_ct S q := by omega
        have eP : eqP S (rdN S q (S_ct S q)).2 q := fun r h1 h2 b => rdN_lo _ (by omega)
        have hnp : S_np (rdN S q (S_ct S q)).2 = S_np S := rdN_lo _ (by omega)
        have ect : S_ct (rdN S q (S_ct S q)).2 q = S_ct S q := eP 7 (by omega) (by omega) 0
        have i6 := hM1.ar 6 (by omega) (by omega)
        obtain ⟨b6, b7, b8, b9, bX⟩ := hR1.2.2.2.2.2.1 q (by omega)
        rw [ect] at b6
        rw [sX3_read_30]
        simp only [sX3_read_31, sX3_read_32, sX3_read_35, sX3_read_36, sX3_read_37, sX3_read_109, sX3_read_110, hM1.ob, i6, Option.some.injEq, Sum.inr.injEq, Sum.inl.injEq, Prod.mk.injEq, true_and, and_true, exists_eq_left', exists_eq_left, exists_eq_right, exists_eq_right', exists_and_left, exists_and_right, List.getElem?_cons_succ, List.getElem?_cons_zero, List.length_cons, List.length_nil, List.set_cons_zero, List.set_cons_succ, Option.toList_some, Option.toList_none, List.nil_append, List.cons_append, mj_up_s, true_or, or_true, Nat.sub_zero, and_assoc, b10, not_true_eq_false, not_false_eq_true, false_implies, true_implies, implies_true, eq_self, and_self, rf_some, rf_none, nI_cl j1, b6]
        exact And.intro vq (And.intro (fun _ => hQ _ ⟨X1, A1, hM1, hR1, hx0⟩) (fun c => absurd (nI_le (Nat.le_refl _) (by omega)) c))
      | succ m ih =>
        intro k hk h1 X1 A1 bf v4 hM1 hR1 hx0 hx14 hb
        have e1 : nI k + 1 = nI (k + 1) := nI_1 k
        have eP : eqP S (rdN S q k).2 q := fun r h1 h2 b => rdN_lo _ (by omega)
        have hlo : sameLo S (rdN S q k).2 := fun r a b hr => rdN_lo _ hr
        have hnt := rdN_nt (S := S) (p := q) k
        have hW1 : WF (rdN S q k).2 := hW.lo hlo (by omega)
        have hnp : S_np (rdN S q k).2 = S_np S := hlo 6 0 0 (by omega)
        have ect : S_ct (rdN S q k).2 q = S_ct S q := eP 7 (by omega) (by omega) 0
        have i6 := hM1.ar 6 (by omega) (by omega)
        obtain ⟨b6, b7, b8, b9, bX⟩ := hR1.2.2.2.2.2.1 q (by omega)
        rw [ect] at b6
        rw [sX3_read_30]
        simp only [sX3_read_31, sX3_read_32, sX3_read_35, sX3_read_36, sX3_read_37, sX3_read_40, sX3_read_41, sX3_read_42, hM1.ob, i6, Option.some.injEq, Sum.inr.injEq, Sum.inl.injEq, Prod.mk.injEq, true_and, and_true, exists_eq_left', exists_eq_left, exists_eq_right, exists_eq_right', exists_and_left, exists_and_right, List.getElem?_cons_succ, List.getElem?_cons_zero, List.length_cons, List.length_nil, List.set_cons_zero, List.set_cons_succ, Option.toList_some, Option.toList_none, List.nil_append, List.cons_append, mj_up_s, true_or, or_true, Nat.sub_zero, and_assoc, b10, not_true_eq_false, not_false_eq_true, false_implies, true_implies, implies_true, eq_self, and_self, rf_some, rf_none, nI_cl j1, b6]
        refine And.intro vq (And.intro (fun c => absurd c (nI_ge (by omega) (by omega))) (fun _ => ?_))
        have hbf : bf.getD 0 ≤ 510 := by
          rcases hb with ⟨-, rfl⟩ | ⟨t, -, rfl⟩
          · simp
          · cases hx : S_cl S q t with
            | none => simp
            | some x => have := S_cl_lt p4 hx; simpa using this
        have elb : S_lb (rdN S q k).2 q k (bf.getD 0) = S_cl S q k := by
          rw [eP.lb]
          rcases hb with ⟨rfl, rfl⟩ | ⟨t, rfl, rfl⟩
          · rfl
          · rfl
        refine sX3_read_43z hM1.ob rfl (r_unpack (prev := bf) (by omega) (by show 71 ≤ w - 24; omega) hM1 hR1 hW1 (by omega) (by omega) hx14 hbf (fun h2 X2 A2 hM2 hs2 hx2 _ => ?_))
        have hR2 : CM (rdN S q k).2 X2 A2 := hR1.same hs2
        rw [elb] at hx2
        have hx20 : X2 0 = 0 := (hs2.1 0 (by omega)).trans hx0
        simp only [sX3_read_46, sX3_read_47, sX3_read_48, Option.some.injEq, Sum.inr.injEq, Sum.inl.injEq, Prod.mk.injEq, true_and, and_true, exists_eq_left', exists_eq_left, exists_eq_right, exists_eq_right', exists_and_left, exists_and_right, List.getElem?_cons_succ, List.getElem?_cons_zero, List.length_cons, List.length_nil, List.set_cons_zero, List.set_cons_succ, Option.toList_some, Option.toList_none, List.nil_append, List.cons_append, mj_up_s, true_or, or_true, Nat.sub_zero, and_assoc, b10, not_true_eq_false, not_false_eq_true, false_implies, true_implies, implies_true, eq_self, and_self, rf_some, rf_none]
        refine sX3_read_49z hM2.ob rfl (r_wrongOf (by omega) (by show 92 ≤ w - 24; omega) hM2 hR2 hW1 (by omega) (by omega) (by rw [eP.cl]; exact hx2) ?_)
        rw [eP.wr (hlo 0 0 0 (by omega)) (fun i => hlo 1 i 0 (by omega))]
        have hwl := S_wr_le (S := S) (p := q) (k := k)
        simp only [sX3_read_52, sX3_read_54, sX3_read_56, Option.some.injEq, Sum.inr.injEq, Sum.inl.injEq, Prod.mk.injEq, true_and, and_true, exists_eq_left', exists_eq_left, exists_eq_right, exists_eq_right', exists_and_left, exists_and_right, List.getElem?_cons_succ, List.getElem?_cons_zero, List.length_cons, List.length_nil, List.set_cons_zero, List.set_cons_succ, Option.toList_some, Option.toList_none, List.nil_append, List.cons_append, mj_up_s, true_or, or_true, Nat.sub_zero, and_assoc, b10, not_true_eq_false, not_false_eq_true, false_implies, true_implies, implies_true, eq_self, and_self, rf_some, rf_none]
        by_cases hw0 : S_wr S q k = 0
        · have er : rdN S q (k + 1) = ((rdN S q k).1 + 1, (rdN S q k).2) := by conv => lhs; unfold rdN; rw [if_pos hw0]
          have go := ih (k + 1) (by omega) h2 X2 A2 (S_cl S q k) (.int (nI (S_wr S q k)))
          rw [er] at go
          refine And.intro (fun _ => ?_) (fun c => absurd (show nI (S_wr S q k) ≤ nI 0 by rw [hw0]; decide) c)
          simp only [sX3_read_90, sX3_read_91, sX3_read_93]
          refine And.intro (fun c => absurd (show nI (S_wr S q k) = 0 by rw [hw0]; rfl) c) (fun _ => ?_)
          simp only [sX3_read_96, sX3_read_97, sX3_read_101, sX3_read_102, sX3_read_103, sX3_read_106, Option.some.injEq, Sum.inr.injEq, Sum.inl.injEq, Prod.mk.injEq, true_and, and_true, exists_eq_left', exists_eq_left, exists_eq_right, exists_eq_right', exists_and_left, exists_and_right, List.getElem?_cons_succ, List.getElem?_cons_zero, List.length_cons, List.length_nil, List.set_cons_zero, List.set_cons_succ, Option.toList_some, Option.toList_none, List.nil_append, List.cons_append, mj_up_s, true_or, or_true, Nat.sub_zero, and_assoc, b10, not_true_eq_false, not_false_eq_true, false_implies, true_implies, implies_true, eq_self, and_self, rf_some, rf_none, e1]
          rw [show nI (rdN S q k).1 + 1 = nI ((rdN S q k).1 + 1) from nI_1 _]
          exact go hM2 hR2 hx20 hx2 (Or.inr ⟨k, rfl, rfl⟩)
        · have er : rdN S q (k + 1) = ((rdN S q k).1, S_told (rdN S q k).2 (S_wr S q k) k) := by conv => lhs; unfold rdN; rw [if_neg hw0]
          have hne : nI (S_wr S q k) ≠ 0 := fun e => hw0 ((nI_eq (by omega) (by omega)).mp (show nI _ = nI 0 from e))
          refine And.intro (fun c => absurd c (show ¬ nI (S_wr S q k) ≤ nI 0 from nI_ge (by omega) (by omega))) (fun _ => ?_)
          have x15 : X2 15 = nI (S_nt (rdN S q k).2) := hR2.2.2.1
          have vt : vp_in (nI (S_nt (rdN S q k).2)) 100 := vp_in_nI (by omega) (by decide)
          have ct := nI_cl (show S_nt (rdN S q k).2 < 2147483648 by omega)
          have i12 := hM2.ar 12 (by omega) (by omega)
          simp only [sX3_read_59, sX3_read_60, sX3_read_63, sX3_read_64, sX3_read_67, sX3_read_69, hM2.ob, i12, Option.some.injEq, Sum.inr.injEq, Sum.inl.injEq, Prod.mk.injEq, true_and, and_true, exists_eq_left', exists_eq_left, exists_eq_right, exists_eq_right', exists_and_left, exists_and_right, List.getElem?_cons_succ, List.getElem?_cons_zero, List.length_cons, List.length_nil, List.set_cons_zero, List.set_cons_succ, Option.toList_some, Option.toList_none, List.nil_append, List.cons_append, mj_up_s, true_or, or_true, Nat.sub_zero, and_assoc, b10, not_true_eq_false, not_false_eq_true, false_implies, true_implies, implies_true, eq_self, and_self, rf_some, rf_none, x15, ct]
          refine And.intro vt ?_
          generalize hH : mj_up h2 (AD 6 12) _ = h3
          have hM3 : MHF h0 h3 AD X2 (Aw A2 12 (S_nt (rdN S q k).2) (nI (S_wr S q k))) := hH ▸ hM2.putA 12 _ _ (by omega) (by omega)
          clear hH
          have i13 := hM3.ar 13 (by omega) (by omega)
          simp only [sX3_read_70, sX3_read_71, sX3_read_74, sX3_read_75, sX3_read_78, sX3_read_79, hM3.ob, i13, Option.some.injEq, Sum.inr.injEq, Sum.inl.injEq, Prod.mk.injEq, true_and, and_true, exists_eq_left', exists_eq_left, exists_eq_right, exists_eq_right', exists_and_left, exists_and_right, List.getElem?_cons_succ, List.getElem?_cons_zero, List.length_cons, List.length_nil, List.set_cons_zero, List.set_cons_succ, Option.toList_some, Option.toList_none, List.nil_append, List.cons_append, mj_up_s, true_or, or_true, Nat.sub_zero, and_assoc, b10, not_true_eq_false, not_false_eq_true, false_implies, true_implies, implies_true, eq_self, and_self, rf_some, rf_none, x15, ct]
          refine And.intro vt ?_
          generalize hH : mj_up h3 (AD 6 13) _ = h4
          have hM4 : MHF h0 h4 AD X2 (Aw (Aw A2 12 (S_nt (rdN S q k).2) (nI (S_wr S q k))) 13 (S_nt (rdN S q k).2) (nI k)) := hH ▸ hM3.putA 13 _ _ (by omega) (by omega)
          clear hH
          simp only [sX3_read_80, sX3_read_81, sX3_read_82, sX3_read_85, sX3_read_86, sX3_read_87, hM4.ob, nfi_3_0, ffi_3_0, nfi_3_1, ffi_3_1, nfr_3_2, ffr_3_2, nfu_3_2, ffu_3_2, nfr_3_3, ffr_3_3, nfu_3_3, ffu_3_3, nfr_3_4, ffr_3_4, nfu_3_4, ffu_3_4, nfr_3_5, ffr_3_5, nfu_3_5, ffu_3_5, nfr_3_6, ffr_3_6, nfu_3_6, ffu_3_6, nfi_3_7, ffi_3_7, nfr_3_8, ffr_3_8, nfu_3_8, ffu_3_8, nfr_3_9, ffr_3_9, nfu_3_9, ffu_3_9, nfr_3_10, ffr_3_10, nfu_3_10, ffu_3_10, nfr_3_11, ffr_3_11, nfu_3_11, ffu_3_11, nfr_3_12, ffr_3_12, nfu_3_12, ffu_3_12, nfr_3_13, ffr_3_13, nfu_3_13, ffu_3_13, nfi_3_14, ffi_3_14, nfi_3_15, ffi_3_15, nfr_3_16, ffr_3_16, nfu_3_16, ffu_3_16, nfr_3_17, ffr_3_17, nfu_3_17, ffu_3_17, nfr_3_18, ffr_3_18, nfu_3_18, ffu_3_18, nfr_3_19, ffr_3_19, nfu_3_19, ffu_3_19, nfr_3_20, ffr_3_20, nfu_3_20, ffu_3_20, nfi_3_21, ffi_3_21, Option.some.injEq, Sum.inr.injEq, Sum.inl.injEq, Prod.mk.injEq, true_and, and_true, exists_eq_left', exists_eq_left, exists_eq_right, exists_eq_right', exists_and_left, exists_and_right, List.getElem?_cons_succ, List.getElem?_cons_zero, List.length_cons, List.length_nil, List.set_cons_zero, List.set_cons_succ, Option.toList_some, Option.toList_none, List.nil_append, List.cons_append, mj_up_s, true_or, or_true, Nat.sub_zero, and_assoc, b10, not_true_eq_false, not_false_eq_true, false_implies, true_implies, implies_true, eq_self, and_self, rf_some, rf_none, x15]
          refine And.intro (by decide) ?_
          generalize hH : mj_up h4 (AD 6 0) _ = h5
          have hM5 : MHF h0 h5 AD (Xw X2 15 (nI (S_nt (rdN S q k).2) + 1)) (Aw (Aw A2 12 (S_nt (rdN S q k).2) (nI (S_wr S q k))) 13 (S_nt (rdN S q k).2) (nI k)) := hH ▸ hM4.putX 15 _
          clear hH
          have go := ih (k + 1) (by omega) h5 _ _ (S_cl S q k) (.int (nI (S_wr S q k))) hM5
          rw [er] at go
          simp only [sX3_read_90, sX3_read_91, sX3_read_93]
          refine And.intro (fun _ => ?_) (fun c => absurd hne c)
          have z0 : nI (rdN S q k).1 + 0 = nI (rdN S q k).1 := nI_add _ 0
          simp only [sX3_read_100, sX3_read_101, sX3_read_102, sX3_read_103, sX3_read_106, Option.some.injEq, Sum.inr.injEq, Sum.inl.injEq, Prod.mk.injEq, true_and, and_true, exists_eq_left', exists_eq_left, exists_eq_right, exists_eq_right', exists_and_left, exists_and_right, List.getElem?_cons_succ, List.getElem?_cons_zero, List.length_cons, List.length_nil, List.set_cons_zero, List.set_cons_succ, Option.toList_some, Option.toList_none, List.nil_append, List.cons_append, mj_up_s, true_or, or_true, Nat.sub_zero, and_assoc, b10, not_true_eq_false, not_false_eq_true, false_implies, true_implies, implies_true, eq_self, and_self, rf_some, rf_none, e1, z0]
          refine go ?_ (by rw [Xw_n (by omega)]; exact hx20) (by rw [Xw_n (by omega)]; exact hx2) (Or.inr ⟨k, rfl, rfl⟩)
          refine CM_told hR2 (Xw_n (by omega)) (Xw_n (by omega)) (by rw [Xw_s]; exact nI_1 _) (fun j hj => by rw [Aw_n (by omega), Aw_n (by omega)]) (by rw [Aw_n (by omega), Aw_s]) (by rw [Aw_s, Aw_n (by omega)])
    simp only [sX3_read_10, sX3_read_16, sX3_read_17, sX3_read_18, hM1.ob, nfi_3_0, ffi_3_0, nfi_3_1, ffi_3_1, nfr_3_2, ffr_3_2, nfu_3_2, ffu_3_2, nfr_3_3, ffr_3_3, nfu_3_3, ffu_3_3, nfr_3_4, ffr_3_4, nfu_3_4, ffu_3_4, nfr_3_5, ffr_3_5, nfu_3_5, ffu_3_5, nfr_3_6, ffr_3_6, nfu_3_6, ffu_3_6, nfi_3_7, ffi_3_7, nfr_3_8, ffr_3_8, nfu_3_8, ffu_3_8, nfr_3_9, ffr_3_9, nfu_3_9, ffu_3_9, nfr_3_10, ffr_3_10, nfu_3_10, ffu_3_10, nfr_3_11, ffr_3_11, nfu_3_11, ffu_3_11, nfr_3_12, ffr_3_12, nfu_3_12, ffu_3_12, nfr_3_13, ffr_3_13, nfu_3_13, ffu_3_13, nfi_3_14, ffi_3_14, nfi_3_15, ffi_3_15, nfr_3_16, ffr_3_16, nfu_3_16, ffu_3_16, nfr_3_17, ffr_3_17, nfu_3_17, ffu_3_17, nfr_3_18, ffr_3_18, nfu_3_18, ffu_3_18, nfr_3_19, ffr_3_19, nfu_3_19, ffu_3_19, nfr_3_20, ffr_3_20, nfu_3_20, ffu_3_20, nfi_3_21, ffi_3_21, Option.some.injEq, Sum.inr.injEq, Sum.inl.injEq, Prod.mk.injEq, true_and, and_true, exists_eq_left', exists_eq_left, exists_eq_right, exists_eq_right', exists_and_left, exists_and_right, List.getElem?_cons_succ, List.getElem?_cons_zero, List.length_cons, List.length_nil, List.set_cons_zero, List.set_cons_succ, Option.toList_some, Option.toList_none, List.nil_append, List.cons_append, mj_up_s, true_or, or_true, Nat.sub_zero, and_assoc, b10, not_true_eq_false, not_false_eq_true, false_implies, true_implies, implies_true, eq_self, and_self, rf_some, rf_none]
    refine And.intro (by decide) ?_
    generalize hH : mj_up h1 (AD 6 0) _ = h2
    have hM2 : MHF h0 h2 AD (Xw (Xw X 0 0) 15 0) A := hH ▸ hM1.putX 15 0
    clear hH
    simp only [sX3_read_21, sX3_read_22, sX3_read_23, sX3_read_24, sX3_read_25, hM2.ob, nfi_3_0, ffi_3_0, nfi_3_1, ffi_3_1, nfr_3_2, ffr_3_2, nfu_3_2, ffu_3_2, nfr_3_3, ffr_3_3, nfu_3_3, ffu_3_3, nfr_3_4, ffr_3_4, nfu_3_4, ffu_3_4, nfr_3_5, ffr_3_5, nfu_3_5, ffu_3_5, nfr_3_6, ffr_3_6, nfu_3_6, ffu_3_6, nfi_3_7, ffi_3_7, nfr_3_8, ffr_3_8, nfu_3_8, ffu_3_8, nfr_3_9, ffr_3_9, nfu_3_9, ffu_3_9, nfr_3_10, ffr_3_10, nfu_3_10, ffu_3_10, nfr_3_11, ffr_3_11, nfu_3_11, ffu_3_11, nfr_3_12, ffr_3_12, nfu_3_12, ffu_3_12, nfr_3_13, ffr_3_13, nfu_3_13, ffu_3_13, nfi_3_14, ffi_3_14, nfi_3_15, ffi_3_15, nfr_3_16, ffr_3_16, nfu_3_16, ffu_3_16, nfr_3_17, ffr_3_17, nfu_3_17, ffu_3_17, nfr_3_18, ffr_3_18, nfu_3_18, ffu_3_18, nfr_3_19, ffr_3_19, nfu_3_19, ffu_3_19, nfr_3_20, ffr_3_20, nfu_3_20, ffu_3_20, nfi_3_21, ffi_3_21, Option.some.injEq, Sum.inr.injEq, Sum.inl.injEq, Prod.mk.injEq, true_and, and_true, exists_eq_left', exists_eq_left, exists_eq_right, exists_eq_right', exists_and_left, exists_and_right, List.getElem?_cons_succ, List.getElem?_cons_zero, List.length_cons, List.length_nil, List.set_cons_zero, List.set_cons_succ, Option.toList_some, Option.toList_none, List.nil_append, List.cons_append, mj_up_s, true_or, or_true, Nat.sub_zero, and_assoc, b10, not_true_eq_false, not_false_eq_true, false_implies, true_implies, implies_true, eq_self, and_self, rf_some, rf_none]
    refine And.intro (by decide) ?_
    generalize hH : mj_up h2 (AD 6 0) _ = h3
    have hM3 : MHF h0 h3 AD (Xw (Xw (Xw X 0 0) 15 0) 14 (-1)) A := hH ▸ hM2.putX 14 (-1)
    clear hH
    simp only [sX3_read_28, sX3_read_29, Option.some.injEq, Sum.inr.injEq, Sum.inl.injEq, Prod.mk.injEq, true_and, and_true, exists_eq_left', exists_eq_left, exists_eq_right, exists_eq_right', exists_and_left, exists_and_right, List.getElem?_cons_succ, List.getElem?_cons_zero, List.length_cons, List.length_nil, List.set_cons_zero, List.set_cons_succ, Option.toList_some, Option.toList_none, List.nil_append, List.cons_append, mj_up_s, true_or, or_true, Nat.sub_zero, and_assoc, b10, not_true_eq_false, not_false_eq_true, false_implies, true_implies, implies_true, eq_self, and_self, rf_some, rf_none]
    refine loop (S_ct S q) 0 (by omega) h3 _ A none _ hM3 ?_ ?_ (by rw [Xw_s]; rfl) (Or.inl ⟨rfl, rfl⟩)
    · exact CM_told0 hR1 (by rw [Xw_n (by omega), Xw_n (by omega)]) (by rw [Xw_n (by omega), Xw_n (by omega)]) (by rw [Xw_n (by omega), Xw_s])
    · rw [Xw_n (by omega), Xw_n (by omega), Xw_s]
  · rw [if_neg hc] at hQ ⊢
    simp only [sX3_read_10, sX3_read_13, sX3_read_15, Option.some.injEq, Sum.inr.injEq, Sum.inl.injEq, Prod.mk.injEq, true_and, and_true, exists_eq_left', exists_eq_left, exists_eq_right, exists_eq_right', exists_and_left, exists_and_right, List.getElem?_cons_succ, List.getElem?_cons_zero, List.length_cons, List.length_nil, List.set_cons_zero, List.set_cons_succ, Option.toList_some, Option.toList_none, List.nil_append, List.cons_append, mj_up_s, true_or, or_true, Nat.sub_zero, and_assoc, b10, not_true_eq_false, not_false_eq_true, false_implies, true_implies, implies_true, eq_self, and_self, rf_some, rf_none]
    exact hQ h1 ⟨_, A, hM1, hR1, Xw_s⟩
set_option maxRecDepth 100000 in
theorem r_find (hf : 3 ≤ f) (hw : 68 ≤ w) (hM : MHF h0 h AD X A) (hR : CM S X A) (hW : WF S) (hE : ACY S) {o p : Int32} (hQ : ∀ h', RK h0 AD S 0 h' → Q (some (.int (op_find S o p))) h' n) : mj_bk f w 87 [.ref (AD 6 0), .int o, .int p] h n mc ms Q := by
  have w2 := hW.2.1
  refine mj_begin (by omega) (by decide) (by show 24 ≤ w; omega) rfl ?_
  show mj_W _ _ 87 mj_noZ Q 0 [.ref (AD 6 0), .int o, .int p, .retAddr 0, .retAddr 0] [] h n mc ms
  simp only [sX3_find_0, sX3_find_1, sX3_find_2, sX3_find_5, sX3_find_6, hM.ob, nfi_3_0, ffi_3_0, nfi_3_1, ffi_3_1, nfr_3_2, ffr_3_2, nfu_3_2, ffu_3_2, nfr_3_3, ffr_3_3, nfu_3_3, ffu_3_3, nfr_3_4, ffr_3_4, nfu_3_4, ffu_3_4, nfr_3_5, ffr_3_5, nfu_3_5, ffu_3_5, nfr_3_6, ffr_3_6, nfu_3_6, ffu_3_6, nfi_3_7, ffi_3_7, nfr_3_8, ffr_3_8, nfu_3_8, ffu_3_8, nfr_3_9, ffr_3_9, nfu_3_9, ffu_3_9, nfr_3_10, ffr_3_10, nfu_3_10, ffu_3_10, nfr_3_11, ffr_3_11, nfu_3_11, ffu_3_11, nfr_3_12, ffr_3_12, nfu_3_12, ffu_3_12, nfr_3_13, ffr_3_13, nfu_3_13, ffu_3_13, nfi_3_14, ffi_3_14, nfi_3_15, ffi_3_15, nfr_3_16, ffr_3_16, nfu_3_16, ffu_3_16, nfr_3_17, ffr_3_17, nfu_3_17, ffu_3_17, nfr_3_18, ffr_3_18, nfu_3_18, ffu_3_18, nfr_3_19, ffr_3_19, nfu_3_19, ffu_3_19, nfr_3_20, ffr_3_20, nfu_3_20, ffu_3_20, nfi_3_21, ffi_3_21, Option.some.injEq, Sum.inr.injEq, Sum.inl.injEq, Prod.mk.injEq, true_and, and_true, exists_eq_left', exists_eq_left, exists_eq_right, exists_eq_right', exists_and_left, exists_and_right, List.getElem?_cons_succ, List.getElem?_cons_zero, List.length_cons, List.length_nil, List.set_cons_zero, List.set_cons_succ, Option.toList_some, Option.toList_none, List.nil_append, List.cons_append, mj_up_s, true_or, or_true, Nat.sub_zero, and_assoc, b10, not_true_eq_false, not_false_eq_true, false_implies, true_implies, implies_true, eq_self, and_self, rf_some, rf_none]
  refine And.intro (by decide) ?_
  generalize hH : mj_up h (AD 6 0) _ = h1
  have hM1 : MHF h0 h1 AD (Xw X 0 0) A := hH ▸ hM.putX 0 0
  have hR1 : CM S (Xw X 0 0) A := hR.x0
  clear hH
  have fin := hQ h1 ⟨_, A, hM1, hR1, Xw_s⟩
  refine sX3_find_7z hM1.ob rfl (r_isPack (by omega) (by show 43 ≤ w - 24; omega) hM1 hR1 hW ?_)
  unfold op_find at fin
  have i6 := hM1.ar 6 (by omega) (by omega)
  have i8 := hM1.ar 8 (by omega) (by omega)
  let rI : Nat → Int32 := fun r => if r = 0 then -1 else nI (r - 1)
  have rI_s : ∀ q, rI (q + 1) = nI q := fun q => by show (if q + 1 = 0 then _ else _) = _; rw [if_neg (by omega)]; rfl
  have loop : ∀ m s, s ≤ S_np S → chEnd S s m = true → Q (some (.int (oI (findP S o s m)))) h1 n → ∀ v4, mj_W (f - 1) (w - (19 + mj_maxL 87)) 87 mj_noZ Q 18 [.ref (AD 6 0), .int o, .int p, .int (rI s), v4] [] h1 n mc ms := by
    have done : Q (some (.int (-1))) h1 n → ∀ v4, mj_W (f - 1) (w - (19 + mj_maxL 87)) 87 mj_noZ Q 18 [.ref (AD 6 0), .int o, .int p, .int (rI 0), v4] [] h1 n mc ms := by
      intro hq v4
      rw [sX3_find_18, sX3_find_19, sX3_find_20]
      refine And.intro (fun _ => ?_) (fun c => absurd rfl c)
      simp only [sX3_find_84, sX3_find_85]
      exact hq
    intro m
    induction m with
    | zero =>
      intro s hs hch hq v4
      have hs0 : s = 0 := by
        cases s with
        | zero => rfl
        | succ q => simp [chEnd] at hch
      subst hs0
      exact done hq v4
    | succ m ih =>
      intro s hs hch hq v4
      cases s with
      | zero => exact done hq v4
      | succ q =>
        have hqn : q < S_np S := by omega
        obtain ⟨b6, b7, b8, b9, bX⟩ := hR.2.2.2.2.2.1 q hqn
        obtain ⟨p1, p2, p3, p4⟩ := (hW.2.2.2.2.2 q hqn).1
        have vq : vp_in (nI q) 20 := vp_in_nI (by omega) (by decide)
        have cq := nI_cl (show q < 2147483648 by omega)
        have hex := (hW.2.2.2.2.2 q hqn).2
        have inner : ∀ mm k, k + mm = S_ct S q → S_fp S q o = findN (S_isO S q o) k mm → mj_W (f - 1) (w - (19 + mj_maxL 87)) 87 mj_noZ Q 26 [.ref (AD 6 0), .int o, .int p, .int (nI q), .int (nI k)] [] h1 n mc ms := by
          intro mm
          induction mm with
          | zero =>
            intro k hk hfp
            obtain rfl : k = S_ct S q := by omega
            have hnone : S_fp S q o = none := hfp
            have go := ih (S_ex S q) hex hch (by
              rw [show findP S o (q + 1) (m + 1) = (match S_fp S q o with | some k => some (100 * q + k) | none => findP S o (S_ex S q) m) from rfl, hnone] at hq
              exact hq) (.int (nI (S_ct S q)))
            rw [sX3_find_26]
            simp only [sX3_find_28, sX3_find_29, sX3_find_32, sX3_find_33, sX3_find_34, sX3_find_74, sX3_find_75, sX3_find_78, sX3_find_79, sX3_find_80, sX3_find_81, hM1.ob, i6, i8, Option.some.injEq, Sum.inr.injEq, Sum.inl.injEq, Prod.mk.injEq, true_and, and_true, exists_eq_left', exists_eq_left, exists_eq_right, exists_eq_right', exists_and_left, exists_and_right, List.getElem?_cons_succ, List.getElem?_cons_zero, List.length_cons, List.length_nil, List.set_cons_zero, List.set_cons_succ, Option.toList_some, Option.toList_none, List.nil_append, List.cons_append, mj_up_s, true_or, or_true, Nat.sub_zero, and_assoc, b10, not_true_eq_false, not_false_eq_true, false_implies, true_implies, implies_true, eq_self, and_self, rf_some, rf_none, cq, b6, b8]
            exact And.intro vq (And.intro (fun _ => And.intro vq go) (fun c => absurd (nI_le (Nat.le_refl _) (by omega)) c))
          | succ mm ihi =>
            intro k hk hfp
            have e1 : nI k + 1 = nI (k + 1) := nI_1 k
            rw [show findN (S_isO S q o) k (mm + 1) = if S_isO S q o k = true then some k else findN (S_isO S q o) (k + 1) mm from rfl] at hfp
            rw [sX3_find_26]
            simp only [sX3_find_28, sX3_find_29, sX3_find_32, sX3_find_33, sX3_find_34, sX3_find_37, sX3_find_38, sX3_find_39, hM1.ob, i6, Option.some.injEq, Sum.inr.injEq, Sum.inl.injEq, Prod.mk.injEq, true_and, and_true, exists_eq_left', exists_eq_left, exists_eq_right, exists_eq_right', exists_and_left, exists_and_right, List.getElem?_cons_succ, List.getElem?_cons_zero, List.length_cons, List.length_nil, List.set_cons_zero, List.set_cons_succ, Option.toList_some, Option.toList_none, List.nil_append, List.cons_append, mj_up_s, true_or, or_true, Nat.sub_zero, and_assoc, b10, not_true_eq_false, not_false_eq_true, false_implies, true_implies, implies_true, eq_self, and_self, rf_some, rf_none, cq, b6]
            refine And.intro vq (And.intro (fun c => absurd c (nI_ge (by omega) (by omega))) (fun _ => ?_))
            refine sX3_find_41z hM1.ob rfl (r_isThere (by omega) (by show 44 ≤ w - 24; omega) hM1 hR1 hW hqn ?_)
            rw [S_thI_n (by omega)]
            by_cases ht : S_th S q k = true
            · rw [if_pos ht]
              simp only [sX3_find_44, sX3_find_47, sX3_find_48, sX3_find_49, sX3_find_50, sX3_find_52, Option.some.injEq, Sum.inr.injEq, Sum.inl.injEq, Prod.mk.injEq, true_and, and_true, exists_eq_left', exists_eq_left, exists_eq_right, exists_eq_right', exists_and_left, exists_and_right, List.getElem?_cons_succ, List.getElem?_cons_zero, List.length_cons, List.length_nil, List.set_cons_zero, List.set_cons_succ, Option.toList_some, Option.toList_none, List.nil_append, List.cons_append, mj_up_s, true_or, or_true, Nat.sub_zero, and_assoc, b10, not_true_eq_false, not_false_eq_true, false_implies, true_implies, implies_true, eq_self, and_self, rf_some, rf_none]
              rw [pk4]
              refine sX3_find_53z hM1.ob rfl (r_two (k := k) (wh := 0) (show 1 ≤ f - 1 by omega) (by show 22 ≤ w - 24; omega) hM1 hR1 hW hqn (by omega) ht ?_)
              simp only [sX3_find_56, sX3_find_57, Option.some.injEq, Sum.inr.injEq, Sum.inl.injEq, Prod.mk.injEq, true_and, and_true, exists_eq_left', exists_eq_left, exists_eq_right, exists_eq_right', exists_and_left, exists_and_right, List.getElem?_cons_succ, List.getElem?_cons_zero, List.length_cons, List.length_nil, List.set_cons_zero, List.set_cons_succ, Option.toList_some, Option.toList_none, List.nil_append, List.cons_append, mj_up_s, true_or, or_true, Nat.sub_zero, and_assoc, b10, not_true_eq_false, not_false_eq_true, false_implies, true_implies, implies_true, eq_self, and_self, rf_some, rf_none]
              refine And.intro (fun c => ?_) (fun c => ?_)
              · rw [if_neg (by simp only [S_isO, ht, Bool.true_and, decide_eq_true_eq]; exact c)] at hfp
                have go := ihi (k + 1) (by omega) hfp
                simp only [sX3_find_68, sX3_find_71, Option.some.injEq, Sum.inr.injEq, Sum.inl.injEq, Prod.mk.injEq, true_and, and_true, exists_eq_left', exists_eq_left, exists_eq_right, exists_eq_right', exists_and_left, exists_and_right, List.getElem?_cons_succ, List.getElem?_cons_zero, List.length_cons, List.length_nil, List.set_cons_zero, List.set_cons_succ, Option.toList_some, Option.toList_none, List.nil_append, List.cons_append, mj_up_s, true_or, or_true, Nat.sub_zero, and_assoc, b10, not_true_eq_false, not_false_eq_true, false_implies, true_implies, implies_true, eq_self, and_self, rf_some, rf_none, e1]
                exact go
              · rw [if_pos (by simp only [S_isO, ht, Bool.true_and, decide_eq_true_eq]; exact Classical.not_not.mp c)] at hfp
                rw [show findP S o (q + 1) (m + 1) = (match S_fp S q o with | some k => some (100 * q + k) | none => findP S o (S_ex S q) m) from rfl, hfp] at hq
                have e : (100 : Int32) * nI q + nI k = nI (100 * q + k) := by
                  rw [show (100 : Int32) = nI 100 from rfl, pk_mul, nI_add]
                simp only [sX3_find_60, sX3_find_62, sX3_find_63, sX3_find_64, sX3_find_66, sX3_find_67, Option.some.injEq, Sum.inr.injEq, Sum.inl.injEq, Prod.mk.injEq, true_and, and_true, exists_eq_left', exists_eq_left, exists_eq_right, exists_eq_right', exists_and_left, exists_and_right, List.getElem?_cons_succ, List.getElem?_cons_zero, List.length_cons, List.length_nil, List.set_cons_zero, List.set_cons_succ, Option.toList_some, Option.toList_none, List.nil_append, List.cons_append, mj_up_s, true_or, or_true, Nat.sub_zero, and_assoc, b10, not_true_eq_false, not_false_eq_true, false_implies, true_implies, implies_true, eq_self, and_self, rf_some, rf_none, e]
                exact hq
            · rw [if_neg ht]
              rw [if_neg (by simp only [S_isO, Bool.and_eq_true]; exact fun z => ht z.1)] at hfp
              have go := ihi (k + 1) (by omega) hfp
              simp only [sX3_find_44, sX3_find_68, sX3_find_71, Option.some.injEq, Sum.inr.injEq, Sum.inl.injEq, Prod.mk.injEq, true_and, and_true, exists_eq_left', exists_eq_left, exists_eq_right, exists_eq_right', exists_and_left, exists_and_right, List.getElem?_cons_succ, List.getElem?_cons_zero, List.length_cons, List.length_nil, List.set_cons_zero, List.set_cons_succ, Option.toList_some, Option.toList_none, List.nil_append, List.cons_append, mj_up_s, true_or, or_true, Nat.sub_zero, and_assoc, b10, not_true_eq_false, not_false_eq_true, false_implies, true_implies, implies_true, eq_self, and_self, rf_some, rf_none, e1]
              exact go
        rw [rI_s, sX3_find_18, sX3_find_19, sX3_find_20]
        refine And.intro (fun c => absurd c (nIm1 (by omega))) (fun _ => ?_)
        simp only [sX3_find_23, sX3_find_24, Option.some.injEq, Sum.inr.injEq, Sum.inl.injEq, Prod.mk.injEq, true_and, and_true, exists_eq_left', exists_eq_left, exists_eq_right, exists_eq_right', exists_and_left, exists_and_right, List.getElem?_cons_succ, List.getElem?_cons_zero, List.length_cons, List.length_nil, List.set_cons_zero, List.set_cons_succ, Option.toList_some, Option.toList_none, List.nil_append, List.cons_append, mj_up_s, true_or, or_true, Nat.sub_zero, and_assoc, b10, not_true_eq_false, not_false_eq_true, false_implies, true_implies, implies_true, eq_self, and_self, rf_some, rf_none]
        exact inner (S_ct S q) 0 (by omega) rfl
  by_cases hc : pkI S p = true
  · rw [if_pos hc] at fin ⊢
    obtain ⟨q, rfl, j1, j2⟩ := cl_iff.mp hc
    rw [nI_cl j1] at fin
    have := loop 20 (q + 1) (by omega) (hE _ (by omega)) fin (.retAddr 0)
    rw [rI_s] at this
    simp only [sX3_find_10, sX3_find_16, sX3_find_17, Option.some.injEq, Sum.inr.injEq, Sum.inl.injEq, Prod.mk.injEq, true_and, and_true, exists_eq_left', exists_eq_left, exists_eq_right, exists_eq_right', exists_and_left, exists_and_right, List.getElem?_cons_succ, List.getElem?_cons_zero, List.length_cons, List.length_nil, List.set_cons_zero, List.set_cons_succ, Option.toList_some, Option.toList_none, List.nil_append, List.cons_append, mj_up_s, true_or, or_true, Nat.sub_zero, and_assoc, b10, not_true_eq_false, not_false_eq_true, false_implies, true_implies, implies_true, eq_self, and_self, rf_some, rf_none]
    exact this
  · rw [if_neg hc] at fin ⊢
    simp only [sX3_find_10, sX3_find_13, sX3_find_15, Option.some.injEq, Sum.inr.injEq, Sum.inl.injEq, Prod.mk.injEq, true_and, and_true, exists_eq_left', exists_eq_left, exists_eq_right, exists_eq_right', exists_and_left, exists_and_right, List.getElem?_cons_succ, List.getElem?_cons_zero, List.length_cons, List.length_nil, List.set_cons_zero, List.set_cons_succ, Option.toList_some, Option.toList_none, List.nil_append, List.cons_append, mj_up_s, true_or, or_true, Nat.sub_zero, and_assoc, b10, not_true_eq_false, not_false_eq_true, false_implies, true_implies, implies_true, eq_self, and_self, rf_some, rf_none]
    exact fin
set_option maxRecDepth 100000 in
theorem r_count (hf : 6 ≤ f) (hw : 142 ≤ w) (hM : MHF h0 h AD X A) (hR : CM S X A) (hW : WF S) {x : Int32} (hQ : ∀ h', RK h0 AD S 0 h' → Q (some (.int (op_count S x))) h' n) : mj_bk f w 88 [.ref (AD 6 0), .int x] h n mc ms Q := by
  have w0 := hW.1
  have w2 := hW.2.1
  refine mj_begin (by omega) (by decide) (by show 25 ≤ w; omega) rfl ?_
  show mj_W _ _ 88 mj_noZ Q 0 [.ref (AD 6 0), .int x, .retAddr 0, .retAddr 0, .retAddr 0, .retAddr 0] [] h n mc ms
  simp only [sX3_count_0, sX3_count_1, sX3_count_2, hM.ob, nfi_3_0, ffi_3_0, nfi_3_1, ffi_3_1, nfr_3_2, ffr_3_2, nfu_3_2, ffu_3_2, nfr_3_3, ffr_3_3, nfu_3_3, ffu_3_3, nfr_3_4, ffr_3_4, nfu_3_4, ffu_3_4, nfr_3_5, ffr_3_5, nfu_3_5, ffu_3_5, nfr_3_6, ffr_3_6, nfu_3_6, ffu_3_6, nfi_3_7, ffi_3_7, nfr_3_8, ffr_3_8, nfu_3_8, ffu_3_8, nfr_3_9, ffr_3_9, nfu_3_9, ffu_3_9, nfr_3_10, ffr_3_10, nfu_3_10, ffu_3_10, nfr_3_11, ffr_3_11, nfu_3_11, ffu_3_11, nfr_3_12, ffr_3_12, nfu_3_12, ffu_3_12, nfr_3_13, ffr_3_13, nfu_3_13, ffu_3_13, nfi_3_14, ffi_3_14, nfi_3_15, ffi_3_15, nfr_3_16, ffr_3_16, nfu_3_16, ffu_3_16, nfr_3_17, ffr_3_17, nfu_3_17, ffu_3_17, nfr_3_18, ffr_3_18, nfu_3_18, ffu_3_18, nfr_3_19, ffr_3_19, nfu_3_19, ffu_3_19, nfr_3_20, ffr_3_20, nfu_3_20, ffu_3_20, nfi_3_21, ffi_3_21, Option.some.injEq, Sum.inr.injEq, Sum.inl.injEq, Prod.mk.injEq, true_and, and_true, exists_eq_left', exists_eq_left, exists_eq_right, exists_eq_right', exists_and_left, exists_and_right, List.getElem?_cons_succ, List.getElem?_cons_zero, List.length_cons, List.length_nil, List.set_cons_zero, List.set_cons_succ, Option.toList_some, Option.toList_none, List.nil_append, List.cons_append, mj_up_s, true_or, or_true, Nat.sub_zero, and_assoc, b10, not_true_eq_false, not_false_eq_true, false_implies, true_implies, implies_true, eq_self, and_self, rf_some, rf_none]
  refine And.intro (by decide) ?_
  generalize hH : mj_up h (AD 6 0) _ = h1
  have hM1 : MHF h0 h1 AD (Xw X 0 0) A := hH ▸ hM.putX 0 0
  have hR1 : CM S (Xw X 0 0) A := hR.x0
  have hx1 : (Xw X 0 0) 0 = 0 := Xw_s
  clear hH
  generalize Xw X 0 0 = X1 at hM1 hR1 hx1
  -- the last loop and the choice
  have tail : ∀ m k, k + m = S_np S → ∀ h1 X1 A1, MHF h0 h1 AD X1 A1 → CM S X1 A1 → X1 0 = 0 → mj_W (f - 1) (w - (19 + mj_maxL 88)) 88 mj_noZ Q 73 [.ref (AD 6 0), .int x, .int (nI (cntN (fun i => decide (S_pk S i ≠ 0)) (S_no S))), .int (nI (cntN (fun i => decide (S_size S i = none)) (S_no S))), .int (nI (sumN (S_pz S) k)), .int (nI k)] [] h1 n mc ms := by
    intro m
    induction m with
    | zero =>
      intro k hk h1 X1 A1 hM1 hR1 hx1
      obtain rfl : k = S_np S := by omega
      have fin := hQ h1 ⟨X1, A1, hM1, hR1, hx1⟩
      unfold op_count at fin
      rw [sX3_count_73]
      simp only [sX3_count_75, sX3_count_76, sX3_count_79, hM1.ob, Option.some.injEq, Sum.inr.injEq, Sum.inl.injEq, Prod.mk.injEq, true_and, and_true, exists_eq_left', exists_eq_left, exists_eq_right, exists_eq_right', exists_and_left, exists_and_right, List.getElem?_cons_succ, List.getElem?_cons_zero, List.length_cons, List.length_nil, List.set_cons_zero, List.set_cons_succ, Option.toList_some, Option.toList_none, List.nil_append, List.cons_append, mj_up_s, true_or, or_true, Nat.sub_zero, and_assoc, b10, not_true_eq_false, not_false_eq_true, false_implies, true_implies, implies_true, eq_self, and_self, rf_some, rf_none, hR1.2.1]
      refine And.intro (fun _ => ?_) (fun c => absurd (nI_le (Nat.le_refl _) (by omega)) c)
      rw [sX3_count_100, sX3_count_101]
      refine And.intro (fun c0 => ?_) (fun c0 => ?_)
      · rw [if_neg c0] at fin
        rw [sX3_count_111, sX3_count_112, sX3_count_113]
        refine And.intro (fun c1 => ?_) (fun c1 => ?_)
        · rw [if_neg c1] at fin
          rw [sX3_count_123, sX3_count_124, sX3_count_125]
          refine And.intro (fun c2 => ?_) (fun c2 => ?_)
          · rw [if_neg c2] at fin
            rw [sX3_count_132, sX3_count_133, sX3_count_134]
            refine And.intro (fun c3 => ?_) (fun c3 => ?_)
            · rw [if_neg c3] at fin
              rw [sX3_count_141, sX3_count_142, sX3_count_143]
              refine And.intro (fun c4 => ?_) (fun c4 => ?_)
              · rw [if_neg c4] at fin
                simp only [sX3_count_151, sX3_count_153, Option.some.injEq, Sum.inr.injEq, Sum.inl.injEq, Prod.mk.injEq, true_and, and_true, exists_eq_left', exists_eq_left, exists_eq_right, exists_eq_right', exists_and_left, exists_and_right, List.getElem?_cons_succ, List.getElem?_cons_zero, List.length_cons, List.length_nil, List.set_cons_zero, List.set_cons_succ, Option.toList_some, Option.toList_none, List.nil_append, List.cons_append, mj_up_s, true_or, or_true, Nat.sub_zero, and_assoc, b10, not_true_eq_false, not_false_eq_true, false_implies, true_implies, implies_true, eq_self, and_self, rf_some, rf_none]; exact fin
              · rw [if_pos (Classical.not_not.mp c4)] at fin
                simp only [sX3_count_146, sX3_count_148, sX3_count_153, Option.some.injEq, Sum.inr.injEq, Sum.inl.injEq, Prod.mk.injEq, true_and, and_true, exists_eq_left', exists_eq_left, exists_eq_right, exists_eq_right', exists_and_left, exists_and_right, List.getElem?_cons_succ, List.getElem?_cons_zero, List.length_cons, List.length_nil, List.set_cons_zero, List.set_cons_succ, Option.toList_some, Option.toList_none, List.nil_append, List.cons_append, mj_up_s, true_or, or_true, Nat.sub_zero, and_assoc, b10, not_true_eq_false, not_false_eq_true, false_implies, true_implies, implies_true, eq_self, and_self, rf_some, rf_none]; exact fin
            · rw [if_pos (Classical.not_not.mp c3)] at fin
              simp only [sX3_count_137, sX3_count_138, sX3_count_153, Option.some.injEq, Sum.inr.injEq, Sum.inl.injEq, Prod.mk.injEq, true_and, and_true, exists_eq_left', exists_eq_left, exists_eq_right, exists_eq_right', exists_and_left, exists_and_right, List.getElem?_cons_succ, List.getElem?_cons_zero, List.length_cons, List.length_nil, List.set_cons_zero, List.set_cons_succ, Option.toList_some, Option.toList_none, List.nil_append, List.cons_append, mj_up_s, true_or, or_true, Nat.sub_zero, and_assoc, b10, not_true_eq_false, not_false_eq_true, false_implies, true_implies, implies_true, eq_self, and_self, rf_some, rf_none]; exact fin
          · rw [if_pos (Classical.not_not.mp c2)] at fin
            simp only [sX3_count_128, sX3_count_129, sX3_count_153, Option.some.injEq, Sum.inr.injEq, Sum.inl.injEq, Prod.mk.injEq, true_and, and_true, exists_eq_left', exists_eq_left, exists_eq_right, exists_eq_right', exists_and_left, exists_and_right, List.getElem?_cons_succ, List.getElem?_cons_zero, List.length_cons, List.length_nil, List.set_cons_zero, List.set_cons_succ, Option.toList_some, Option.toList_none, List.nil_append, List.cons_append, mj_up_s, true_or, or_true, Nat.sub_zero, and_assoc, b10, not_true_eq_false, not_false_eq_true, false_implies, true_implies, implies_true, eq_self, and_self, rf_some, rf_none]; exact fin
        · rw [if_pos (Classical.not_not.mp c1)] at fin
          simp only [sX3_count_116, sX3_count_117, sX3_count_120, sX3_count_153, hM1.ob, Option.some.injEq, Sum.inr.injEq, Sum.inl.injEq, Prod.mk.injEq, true_and, and_true, exists_eq_left', exists_eq_left, exists_eq_right, exists_eq_right', exists_and_left, exists_and_right, List.getElem?_cons_succ, List.getElem?_cons_zero, List.length_cons, List.length_nil, List.set_cons_zero, List.set_cons_succ, Option.toList_some, Option.toList_none, List.nil_append, List.cons_append, mj_up_s, true_or, or_true, Nat.sub_zero, and_assoc, b10, not_true_eq_false, not_false_eq_true, false_implies, true_implies, implies_true, eq_self, and_self, rf_some, rf_none, hR1.2.1]; exact fin
      · rw [if_pos (Classical.not_not.mp c0)] at fin
        simp only [sX3_count_104, sX3_count_105, sX3_count_108, sX3_count_153, hM1.ob, Option.some.injEq, Sum.inr.injEq, Sum.inl.injEq, Prod.mk.injEq, true_and, and_true, exists_eq_left', exists_eq_left, exists_eq_right, exists_eq_right', exists_and_left, exists_and_right, List.getElem?_cons_succ, List.getElem?_cons_zero, List.length_cons, List.length_nil, List.set_cons_zero, List.set_cons_succ, Option.toList_some, Option.toList_none, List.nil_append, List.cons_append, mj_up_s, true_or, or_true, Nat.sub_zero, and_assoc, b10, not_true_eq_false, not_false_eq_true, false_implies, true_implies, implies_true, eq_self, and_self, rf_some, rf_none, hR1.1]; exact fin
    | succ m ih =>
      intro k hk h1 X1 A1 hM1 hR1 hx1
      have e1 : nI k + 1 = nI (k + 1) := nI_1 k
      obtain ⟨b6, b7, b8, b9, bX⟩ := hR1.2.2.2.2.2.1 k (by omega)
      have i9 := hM1.ar 9 (by omega) (by omega)
      have go := ih (k + 1) (by omega) h1 X1 A1 hM1 hR1 hx1
      have es : nI (sumN (S_pz S) k) + nI (S_pz S k) = nI (sumN (S_pz S) (k + 1)) := nI_add _ _
      rw [sX3_count_73]
      simp only [sX3_count_75, sX3_count_76, sX3_count_79, sX3_count_82, sX3_count_84, sX3_count_85, sX3_count_88, sX3_count_90, sX3_count_91, sX3_count_92, sX3_count_94, sX3_count_97, hM1.ob, i9, Option.some.injEq, Sum.inr.injEq, Sum.inl.injEq, Prod.mk.injEq, true_and, and_true, exists_eq_left', exists_eq_left, exists_eq_right, exists_eq_right', exists_and_left, exists_and_right, List.getElem?_cons_succ, List.getElem?_cons_zero, List.length_cons, List.length_nil, List.set_cons_zero, List.set_cons_succ, Option.toList_some, Option.toList_none, List.nil_append, List.cons_append, mj_up_s, true_or, or_true, Nat.sub_zero, and_assoc, b10, not_true_eq_false, not_false_eq_true, false_implies, true_implies, implies_true, eq_self, and_self, rf_some, rf_none, hR1.2.1, nI_cl (show k < 2147483648 by omega), b9, e1, es]
      exact And.intro (fun c => absurd c (nI_ge (by omega) (by omega))) (fun _ => And.intro (vp_in_nI (show _ < 20 by omega) (by decide)) go)
  have loop : ∀ m k, k + m = S_no S → ∀ h1 X1 A1, MHF h0 h1 AD X1 A1 → CM S X1 A1 → X1 0 = 0 → mj_W (f - 1) (w - (19 + mj_maxL 88)) 88 mj_noZ Q 12 [.ref (AD 6 0), .int x, .int (nI (cntN (fun i => decide (S_pk S i ≠ 0)) k)), .int (nI (cntN (fun i => decide (S_size S i = none)) k)), .int (nI k), .retAddr 0] [] h1 n mc ms := by
    intro m
    induction m with
    | zero =>
      intro k hk h1 X1 A1 hM1 hR1 hx1
      obtain rfl : k = S_no S := by omega
      rw [sX3_count_12]
      simp only [sX3_count_14, sX3_count_15, sX3_count_18, hM1.ob, Option.some.injEq, Sum.inr.injEq, Sum.inl.injEq, Prod.mk.injEq, true_and, and_true, exists_eq_left', exists_eq_left, exists_eq_right, exists_eq_right', exists_and_left, exists_and_right, List.getElem?_cons_succ, List.getElem?_cons_zero, List.length_cons, List.length_nil, List.set_cons_zero, List.set_cons_succ, Option.toList_some, Option.toList_none, List.nil_append, List.cons_append, mj_up_s, true_or, or_true, Nat.sub_zero, and_assoc, b10, not_true_eq_false, not_false_eq_true, false_implies, true_implies, implies_true, eq_self, and_self, rf_some, rf_none, hR1.1]
      refine And.intro (fun _ => ?_) (fun c => absurd (nI_le (Nat.le_refl _) (by omega)) c)
      simp only [sX3_count_67, sX3_count_68, sX3_count_70, sX3_count_71, Option.some.injEq, Sum.inr.injEq, Sum.inl.injEq, Prod.mk.injEq, true_and, and_true, exists_eq_left', exists_eq_left, exists_eq_right, exists_eq_right', exists_and_left, exists_and_right, List.getElem?_cons_succ, List.getElem?_cons_zero, List.length_cons, List.length_nil, List.set_cons_zero, List.set_cons_succ, Option.toList_some, Option.toList_none, List.nil_append, List.cons_append, mj_up_s, true_or, or_true, Nat.sub_zero, and_assoc, b10, not_true_eq_false, not_false_eq_true, false_implies, true_implies, implies_true, eq_self, and_self, rf_some, rf_none]
      exact tail (S_np S) 0 (by omega) h1 X1 A1 hM1 hR1 hx1
    | succ m ih =>
      intro k hk h1 X1 A1 hM1 hR1 hx1
      have e1 : nI k + 1 = nI (k + 1) := nI_1 k
      rw [sX3_count_12]
      simp only [sX3_count_14, sX3_count_15, sX3_count_18, hM1.ob, Option.some.injEq, Sum.inr.injEq, Sum.inl.injEq, Prod.mk.injEq, true_and, and_true, exists_eq_left', exists_eq_left, exists_eq_right, exists_eq_right', exists_and_left, exists_and_right, List.getElem?_cons_succ, List.getElem?_cons_zero, List.length_cons, List.length_nil, List.set_cons_zero, List.set_cons_succ, Option.toList_some, Option.toList_none, List.nil_append, List.cons_append, mj_up_s, true_or, or_true, Nat.sub_zero, and_assoc, b10, not_true_eq_false, not_false_eq_true, false_implies, true_implies, implies_true, eq_self, and_self, rf_some, rf_none, hR1.1]
      refine And.intro (fun c => absurd c (nI_ge (by omega) (by omega))) (fun _ => ?_)
      simp only [sX3_count_21, sX3_count_22]
      refine sX3_count_24z hM1.ob rfl (r_load (by omega) (by show 117 ≤ w - 25; omega) hM1 hR1 hW (by omega) (fun h2 X2 A2 hM2 hs2 hc2 => ?_))
      have hR2 := hR1.same hs2
      have hx2 : X2 0 = 0 := (hs2.1 0 (by omega)).trans hx1
      obtain ⟨a1, a4, a5, a2⟩ := hR2.2.2.2.1 k (by omega)
      have i4 := hM2.ar 4 (by omega) (by omega)
      have go := ih (k + 1) (by omega) h2 X2 A2 hM2 hR2 hx2
      have vk : vp_in (nI k) 60 := vp_in_nI (by omega) (by decide)
      have second : ∀ b v2, mj_W (f - 1) (w - (19 + mj_maxL 88)) 88 mj_noZ Q 12 [.ref (AD 6 0), .int x, v2, .int (nI (cntN (fun i => decide (S_size S i = none)) (k + 1))), .int (nI (k + 1)), .retAddr 0] [] h2 n mc ms → v2 = b → mj_W (f - 1) (w - (19 + mj_maxL 88)) 88 mj_noZ Q 46 [.ref (AD 6 0), .int x, b, .int (nI (cntN (fun i => decide (S_size S i = none)) k)), .int (nI k), .retAddr 0] [] h2 n mc ms := by
        intro b v2 go hb
        subst hb
        simp only [sX3_count_46, sX3_count_47, sX3_count_48, sX3_count_51, hM2.ob, Option.some.injEq, Sum.inr.injEq, Sum.inl.injEq, Prod.mk.injEq, true_and, and_true, exists_eq_left', exists_eq_left, exists_eq_right, exists_eq_right', exists_and_left, exists_and_right, List.getElem?_cons_succ, List.getElem?_cons_zero, List.length_cons, List.length_nil, List.set_cons_zero, List.set_cons_succ, Option.toList_some, Option.toList_none, List.nil_append, List.cons_append, mj_up_s, true_or, or_true, Nat.sub_zero, and_assoc, b10, not_true_eq_false, not_false_eq_true, false_implies, true_implies, implies_true, eq_self, and_self, rf_some, rf_none, hc2.1]
        cases hz : S_size S k with
        | none =>
          have e2 : cntN (fun i => decide (S_size S i = none)) (k + 1) = cntN (fun i => decide (S_size S i = none)) k + 1 := by simp [cntN, hz]
          rw [e2, ← nI_1] at go
          refine And.intro (fun c => absurd c (by decide)) (fun _ => ?_)
          simp only [sX3_count_54, sX3_count_55, sX3_count_59, sX3_count_60, sX3_count_61, sX3_count_64, Option.some.injEq, Sum.inr.injEq, Sum.inl.injEq, Prod.mk.injEq, true_and, and_true, exists_eq_left', exists_eq_left, exists_eq_right, exists_eq_right', exists_and_left, exists_and_right, List.getElem?_cons_succ, List.getElem?_cons_zero, List.length_cons, List.length_nil, List.set_cons_zero, List.set_cons_succ, Option.toList_some, Option.toList_none, List.nil_append, List.cons_append, mj_up_s, true_or, or_true, Nat.sub_zero, and_assoc, b10, not_true_eq_false, not_false_eq_true, false_implies, true_implies, implies_true, eq_self, and_self, rf_some, rf_none, e1]
          exact go
        | some L =>
          have e2 : cntN (fun i => decide (S_size S i = none)) (k + 1) = cntN (fun i => decide (S_size S i = none)) k := by simp [cntN, hz]
          have hL := S_size_lt hW (by omega) hz
          rw [e2] at go
          refine And.intro (fun _ => ?_) (fun c => absurd (nI_pos' (by omega)) c)
          simp only [sX3_count_58, sX3_count_59, sX3_count_60, sX3_count_61, sX3_count_64, Option.some.injEq, Sum.inr.injEq, Sum.inl.injEq, Prod.mk.injEq, true_and, and_true, exists_eq_left', exists_eq_left, exists_eq_right, exists_eq_right', exists_and_left, exists_and_right, List.getElem?_cons_succ, List.getElem?_cons_zero, List.length_cons, List.length_nil, List.set_cons_zero, List.set_cons_succ, Option.toList_some, Option.toList_none, List.nil_append, List.cons_append, mj_up_s, true_or, or_true, Nat.sub_zero, and_assoc, b10, not_true_eq_false, not_false_eq_true, false_implies, true_implies, implies_true, eq_self, and_self, rf_some, rf_none, e1, nI_p0]
          exact go
      simp only [sX3_count_27, sX3_count_28, sX3_count_29, sX3_count_32, sX3_count_34, sX3_count_35, sX3_count_36, hM2.ob, i4, Option.some.injEq, Sum.inr.injEq, Sum.inl.injEq, Prod.mk.injEq, true_and, and_true, exists_eq_left', exists_eq_left, exists_eq_right, exists_eq_right', exists_and_left, exists_and_right, List.getElem?_cons_succ, List.getElem?_cons_zero, List.length_cons, List.length_nil, List.set_cons_zero, List.set_cons_succ, Option.toList_some, Option.toList_none, List.nil_append, List.cons_append, mj_up_s, true_or, or_true, Nat.sub_zero, and_assoc, b10, not_true_eq_false, not_false_eq_true, false_implies, true_implies, implies_true, eq_self, and_self, rf_some, rf_none, nI_cl (show k < 2147483648 by omega), a4]
      refine And.intro vk ?_
      by_cases hp : S_pk S k = 0
      · have e2 : cntN (fun i => decide (S_pk S i ≠ 0)) (k + 1) = cntN (fun i => decide (S_pk S i ≠ 0)) k := by simp [cntN, hp]
        rw [e2] at go
        rw [if_pos hp]
        refine And.intro (fun _ => ?_) (fun c => absurd rfl c)
        simp only [sX3_count_43, sX3_count_44, sX3_count_45, Option.some.injEq, Sum.inr.injEq, Sum.inl.injEq, Prod.mk.injEq, true_and, and_true, exists_eq_left', exists_eq_left, exists_eq_right, exists_eq_right', exists_and_left, exists_and_right, List.getElem?_cons_succ, List.getElem?_cons_zero, List.length_cons, List.length_nil, List.set_cons_zero, List.set_cons_succ, Option.toList_some, Option.toList_none, List.nil_append, List.cons_append, mj_up_s, true_or, or_true, Nat.sub_zero, and_assoc, b10, not_true_eq_false, not_false_eq_true, false_implies, true_implies, implies_true, eq_self, and_self, rf_some, rf_none, nI_p0]
        exact second _ _ go rfl
      · have e2 : cntN (fun i => decide (S_pk S i ≠ 0)) (k + 1) = cntN (fun i => decide (S_pk S i ≠ 0)) k + 1 := by simp [cntN, hp]
        rw [e2, ← nI_1] at go
        rw [if_neg hp]
        have hpl := (hW.2.2.2.1 k (by omega)).2.2.1
        refine And.intro (fun c => absurd c (nIm1 (by omega))) (fun _ => ?_)
        simp only [sX3_count_39, sX3_count_40, sX3_count_44, sX3_count_45, Option.some.injEq, Sum.inr.injEq, Sum.inl.injEq, Prod.mk.injEq, true_and, and_true, exists_eq_left', exists_eq_left, exists_eq_right, exists_eq_right', exists_and_left, exists_and_right, List.getElem?_cons_succ, List.getElem?_cons_zero, List.length_cons, List.length_nil, List.set_cons_zero, List.set_cons_succ, Option.toList_some, Option.toList_none, List.nil_append, List.cons_append, mj_up_s, true_or, or_true, Nat.sub_zero, and_assoc, b10, not_true_eq_false, not_false_eq_true, false_implies, true_implies, implies_true, eq_self, and_self, rf_some, rf_none]
        exact second _ _ go rfl
  simp only [sX3_count_5, sX3_count_6, sX3_count_7, sX3_count_8, sX3_count_9, sX3_count_10, Option.some.injEq, Sum.inr.injEq, Sum.inl.injEq, Prod.mk.injEq, true_and, and_true, exists_eq_left', exists_eq_left, exists_eq_right, exists_eq_right', exists_and_left, exists_and_right, List.getElem?_cons_succ, List.getElem?_cons_zero, List.length_cons, List.length_nil, List.set_cons_zero, List.set_cons_succ, Option.toList_some, Option.toList_none, List.nil_append, List.cons_append, mj_up_s, true_or, or_true, Nat.sub_zero, and_assoc, b10, not_true_eq_false, not_false_eq_true, false_implies, true_implies, implies_true, eq_self, and_self, rf_some, rf_none]
  exact loop (S_no S) 0 (by omega) h1 X1 A hM1 hR1 hx1
end
