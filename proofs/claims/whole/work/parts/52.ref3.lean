/-! ===== the reference: objects ===== -/
theorem CM_item {S S' : St} {X X' : Nat → Int32} {A A' : Nat → Nat → Int32} (hR : CM S X A) (hW : WF S) {i : Nat} (hi : i < S_no S) (hS : sameBut S S' 1 5 i) (x1 : X' 1 = X 1) (x7 : X' 7 = X 7) (x15 : X' 15 = X 15)
    (hA : ∀ j, j ≤ 13 → (6 ≤ j) → j ≠ 11 → A' j = A j) (hk : ∀ k, k ≠ i → A' 1 k = A 1 k ∧ A' 2 k = A 2 k ∧ A' 4 k = A 4 k ∧ A' 5 k = A 5 k) (h3 : ∀ x, x < 60 * i ∨ 60 * i + 60 ≤ x → A' 3 x = A 3 x)
    (hn : A' 1 i = nI (S_kd S' i) ∧ A' 4 i = (if S_pk S' i = 0 then -1 else nI (S_pk S' i - 1)) ∧ A' 5 i = nI (S_ix S' i) ∧ (S_pk S' i = 0 → A' 2 i = nI (S_sz S' i) ∧ ∀ j, j < S_sz S' i → A' 3 (60 * i + j) = nI (S_by S' i j))) : CM S' X' A' := by
  have e0 : S_no S' = S_no S := hS 0 0 0 (by omega)
  have e6 : S_np S' = S_np S := hS 6 0 0 (by omega)
  have e12 : S_nt S' = S_nt S := hS 12 0 0 (by omega)
  obtain ⟨r1, r2, r3, r4, r5, r6, r7⟩ := hR
  refine ⟨by rw [x1, r1, e0], by rw [x7, r2, e6], by rw [x15, r3, e12], fun j hj => ?_, fun j hj => ?_, fun p hp => ?_, fun j hj => ?_⟩
  · by_cases hji : j = i
    · subst hji; exact hn
    · obtain ⟨k1, k2, k4, k5⟩ := hk j hji
      have hsz := (hW.2.2.2.1 j (by omega)).2.1
      rw [show S_kd S' j = S_kd S j from hS 1 j 0 (by omega), show S_sz S' j = S_sz S j from hS 2 j 0 (by omega), show S_pk S' j = S_pk S j from hS 4 j 0 (by omega), show S_ix S' j = S_ix S j from hS 5 j 0 (by omega), k1, k2, k4, k5]
      obtain ⟨q1, q2, q3, q4⟩ := r4 j (by omega)
      refine ⟨q1, q2, q3, fun hz => ⟨(q4 hz).1, fun t ht => ?_⟩⟩
      rw [h3 _ (by omega), show S_by S' j t = S_by S j t from hS 3 j t (by omega)]
      exact (q4 hz).2 t ht
  · obtain ⟨k1, k2, k4, k5⟩ := hk j (by omega)
    rw [k2, k5]; exact r5 j (by omega)
  · rw [hA 6 (by omega) (by omega) (by omega), hA 7 (by omega) (by omega) (by omega), hA 8 (by omega) (by omega) (by omega), hA 9 (by omega) (by omega) (by omega), hA 10 (by omega) (by omega) (by omega), show S_ct S' p = S_ct S p from hS 7 p 0 (by omega), show S_fs S' p = S_fs S p from hS 8 p 0 (by omega), show S_ex S' p = S_ex S p from hS 9 p 0 (by omega), show S_pz S' p = S_pz S p from hS 10 p 0 (by omega)]
    obtain ⟨q1, q2, q3, q4, q5⟩ := r6 p (by omega)
    exact ⟨q1, q2, q3, q4, fun t ht => by rw [show S_pb S' p t = S_pb S p t from hS 11 p t (by omega)]; exact q5 t ht⟩
  · rw [hA 12 (by omega) (by omega) (by omega), hA 13 (by omega) (by omega) (by omega), show S_tf S' j = S_tf S j from hS 13 j 0 (by omega), show S_tp S' j = S_tp S j from hS 14 j 0 (by omega)]
    exact r7 j (by omega)
theorem CM_pack {S S' : St} {X X' : Nat → Int32} {A A' : Nat → Nat → Int32} (hR : CM S X A) (hW : WF S) {i : Nat} (hi : i < S_np S) (hS : sameBut S S' 7 11 i) (x1 : X' 1 = X 1) (x7 : X' 7 = X 7) (x15 : X' 15 = X 15)
    (hA : ∀ j, j ≤ 13 → (j ≤ 5 ∨ 12 ≤ j) → A' j = A j) (hk : ∀ k, k ≠ i → A' 6 k = A 6 k ∧ A' 7 k = A 7 k ∧ A' 8 k = A 8 k ∧ A' 9 k = A 9 k) (h3 : ∀ x, x < 600 * i ∨ 600 * i + 600 ≤ x → A' 10 x = A 10 x)
    (hn : A' 6 i = nI (S_ct S' i) ∧ A' 7 i = nI (S_fs S' i) ∧ A' 8 i = (if S_ex S' i = 0 then -1 else nI (S_ex S' i - 1)) ∧ A' 9 i = nI (S_pz S' i) ∧ ∀ j, j < S_pz S' i → A' 10 (600 * i + j) = nI (S_pb S' i j)) : CM S' X' A' := by
  have e0 : S_no S' = S_no S := hS 0 0 0 (by omega)
  have e6 : S_np S' = S_np S := hS 6 0 0 (by omega)
  have e12 : S_nt S' = S_nt S := hS 12 0 0 (by omega)
  obtain ⟨r1, r2, r3, r4, r5, r6, r7⟩ := hR
  refine ⟨by rw [x1, r1, e0], by rw [x7, r2, e6], by rw [x15, r3, e12], fun j hj => ?_, fun j hj => ?_, fun p hp => ?_, fun j hj => ?_⟩
  · rw [hA 1 (by omega) (by omega), hA 2 (by omega) (by omega), hA 3 (by omega) (by omega), hA 4 (by omega) (by omega), hA 5 (by omega) (by omega), show S_kd S' j = S_kd S j from hS 1 j 0 (by omega), show S_sz S' j = S_sz S j from hS 2 j 0 (by omega), show S_pk S' j = S_pk S j from hS 4 j 0 (by omega), show S_ix S' j = S_ix S j from hS 5 j 0 (by omega)]
    obtain ⟨q1, q2, q3, q4⟩ := r4 j (by omega)
    exact ⟨q1, q2, q3, fun hz => ⟨(q4 hz).1, fun t ht => by rw [show S_by S' j t = S_by S j t from hS 3 j t (by omega)]; exact (q4 hz).2 t ht⟩⟩
  · rw [hA 2 (by omega) (by omega), hA 5 (by omega) (by omega)]; exact r5 j (by omega)
  · by_cases hpi : p = i
    · subst hpi; exact hn
    · obtain ⟨k6, k7, k8, k9⟩ := hk p hpi
      have hz := (hW.2.2.2.2.2 p (by omega)).1.2.2.1
      rw [show S_ct S' p = S_ct S p from hS 7 p 0 (by omega), show S_fs S' p = S_fs S p from hS 8 p 0 (by omega), show S_ex S' p = S_ex S p from hS 9 p 0 (by omega), show S_pz S' p = S_pz S p from hS 10 p 0 (by omega), k6, k7, k8, k9]
      obtain ⟨q1, q2, q3, q4, q5⟩ := r6 p (by omega)
      refine ⟨q1, q2, q3, q4, fun t ht => ?_⟩
      rw [h3 _ (by omega), show S_pb S' p t = S_pb S p t from hS 11 p t (by omega)]
      exact q5 t ht
  · rw [hA 12 (by omega) (by omega), hA 13 (by omega) (by omega), show S_tf S' j = S_tf S j from hS 13 j 0 (by omega), show S_tp S' j = S_tp S j from hS 14 j 0 (by omega)]
    exact r7 j (by omega)
section
variable {f w : Nat} {Q : mj_Q} {h0 h : mj_H} {n mc ms : Nat} {S : St} {AD : Ad} {X : Nat → Int32} {A : Nat → Nat → Int32}
set_option maxRecDepth 100000 in
theorem r_load (hf : 5 ≤ f) (hw : 117 ≤ w) (hM : MHF h0 h AD X A) (hR : CM S X A) (hW : WF S) {i : Nat} (hi : i < S_no S)
    (hQ : ∀ h' X' A', MHF h0 h' AD X' A' → sameC X X' A A' → CTN X' A' (S_size S i) (S_byte S i) → Q none h' n) : mj_bk f w 63 [.ref (AD 6 0), .int (nI i)] h n mc ms Q := by
  have w1 := hW.1
  obtain ⟨u1, u2, u3, u4, u5⟩ := hW.2.2.2.1 i hi
  obtain ⟨a1, a4, a5, a2⟩ := hR.2.2.2.1 i hi
  have ci := nI_cl (show i < 2147483648 by omega)
  have vi : vp_in (nI i) 60 := vp_in_nI (by omega) (by decide)
  have h4 := hM.ar 4 (by omega) (by omega)
  have h2 := hM.ar 2 (by omega) (by omega)
  have h5 := hM.ar 5 (by omega) (by omega)
  refine mj_begin (by omega) (by decide) (by show 23 ≤ w; omega) rfl ?_
  show mj_W _ _ 63 mj_noZ Q 0 [.ref (AD 6 0), .int (nI i), .retAddr 0, .retAddr 0] [] h n mc ms
  simp only [sX3_load_0, sX3_load_1, sX3_load_4, sX3_load_5, sX3_load_6, sX3_load_7, sX3_load_8, sX3_load_9, hM.ob, h4, Option.some.injEq, Sum.inr.injEq, Sum.inl.injEq, Prod.mk.injEq, true_and, and_true, exists_eq_left', exists_eq_left, exists_eq_right, exists_eq_right', exists_and_left, exists_and_right, List.getElem?_cons_succ, List.getElem?_cons_zero, List.length_cons, List.length_nil, List.set_cons_zero, List.set_cons_succ, Option.toList_some, Option.toList_none, List.nil_append, List.cons_append, mj_up_s, true_or, or_true, Nat.sub_zero, and_assoc, b10, not_true_eq_false, not_false_eq_true, false_implies, true_implies, implies_true, eq_self, and_self, rf_some, rf_none, ci, a4]
  refine And.intro vi ?_
  by_cases hpk : S_pk S i = 0
  · rw [if_pos hpk]
    obtain ⟨a2, a3⟩ := a2 hpk
    have esz : S_size S i = some (S_sz S i) := if_pos hpk
    refine And.intro (fun c => absurd rfl c) (fun _ => ?_)
    have loop : ∀ m t h1 A1, t + m = S_sz S i → MHF h0 h1 AD X A1 → sameC X X A A1 → (∀ j, j < t → A1 11 j = nI (S_by S i j)) → mj_W (f - 1) (w - (19 + mj_maxL 63)) 63 mj_noZ Q 14 [.ref (AD 6 0), .int (nI i), .int (-1), .int (nI t)] [] h1 n mc ms := by
      intro m
      induction m with
      | zero =>
        intro t h1 A1 ht hM1 hs1 hb
        obtain rfl : t = S_sz S i := by omega
        have i2 := hM1.ar 2 (by omega) (by omega)
        rw [hs1.2 2 (by omega)] at i2
        rw [sX3_load_14]
        simp only [sX3_load_0, sX3_load_1, sX3_load_4, sX3_load_5, sX3_load_6, sX3_load_7, sX3_load_8, sX3_load_9, sX3_load_12, sX3_load_13, sX3_load_15, sX3_load_16, sX3_load_19, sX3_load_20, sX3_load_21, sX3_load_24, sX3_load_25, sX3_load_28, sX3_load_29, sX3_load_30, sX3_load_33, sX3_load_35, sX3_load_36, sX3_load_37, sX3_load_38, sX3_load_39, sX3_load_40, sX3_load_41, sX3_load_44, sX3_load_47, sX3_load_48, sX3_load_49, sX3_load_52, sX3_load_53, sX3_load_54, sX3_load_57, sX3_load_58, sX3_load_59, sX3_load_60, sX3_load_63, sX3_load_64, sX3_load_65, sX3_load_66, sX3_load_69, sX3_load_70, sX3_load_74, sX3_load_77, sX3_load_78, sX3_load_79, sX3_load_80, sX3_load_81, sX3_load_84, sX3_load_85, sX3_load_86, sX3_load_90, sX3_load_91, sX3_load_94, sX3_load_95, sX3_load_96, sX3_load_97, sX3_load_100, sX3_load_101, sX3_load_105, hM1.ob, i2, nfi_3_0, ffi_3_0, nfi_3_1, ffi_3_1, nfr_3_2, ffr_3_2, nfu_3_2, ffu_3_2, nfr_3_3, ffr_3_3, nfu_3_3, ffu_3_3, nfr_3_4, ffr_3_4, nfu_3_4, ffu_3_4, nfr_3_5, ffr_3_5, nfu_3_5, ffu_3_5, nfr_3_6, ffr_3_6, nfu_3_6, ffu_3_6, nfi_3_7, ffi_3_7, nfr_3_8, ffr_3_8, nfu_3_8, ffu_3_8, nfr_3_9, ffr_3_9, nfu_3_9, ffu_3_9, nfr_3_10, ffr_3_10, nfu_3_10, ffu_3_10, nfr_3_11, ffr_3_11, nfu_3_11, ffu_3_11, nfr_3_12, ffr_3_12, nfu_3_12, ffu_3_12, nfr_3_13, ffr_3_13, nfu_3_13, ffu_3_13, nfi_3_14, ffi_3_14, nfi_3_15, ffi_3_15, nfr_3_16, ffr_3_16, nfu_3_16, ffu_3_16, nfr_3_17, ffr_3_17, nfu_3_17, ffu_3_17, nfr_3_18, ffr_3_18, nfu_3_18, ffu_3_18, nfr_3_19, ffr_3_19, nfu_3_19, ffu_3_19, nfr_3_20, ffr_3_20, nfu_3_20, ffu_3_20, nfi_3_21, ffi_3_21, Option.some.injEq, Sum.inr.injEq, Sum.inl.injEq, Prod.mk.injEq, true_and, and_true, exists_eq_left', exists_eq_left, exists_eq_right, exists_eq_right', exists_and_left, exists_and_right, List.getElem?_cons_succ, List.getElem?_cons_zero, List.length_cons, List.length_nil, List.set_cons_zero, List.set_cons_succ, Option.toList_some, Option.toList_none, List.nil_append, List.cons_append, mj_up_s, true_or, or_true, Nat.sub_zero, and_assoc, b10, not_true_eq_false, not_false_eq_true, false_implies, true_implies, implies_true, eq_self, and_self, rf_some, rf_none, ci, a2]
        refine And.intro vi (And.intro (fun _ => And.intro vi (And.intro (by decide) ?_)) (fun c => absurd (nI_le (Nat.le_refl _) (by omega)) c))
        generalize hH : mj_up h1 (AD 6 0) _ = h3
        have hM3 : MHF h0 h3 AD (Xw X 14 (nI (S_sz S i))) A1 := hH ▸ hM1.putX 14 (nI (S_sz S i))
        refine hQ h3 _ A1 hM3 (hs1.trans sameC.x) ⟨by rw [Xw_s, esz]; rfl, fun L hL j hj => ?_⟩
        rw [esz] at hL; cases hL
        rw [hb j hj, show S_byte S i j = S_by S i j from if_pos hpk]
      | succ m ih =>
        intro t h1 A1 ht hM1 hs1 hb
        have i2 := hM1.ar 2 (by omega) (by omega)
        have i3 := hM1.ar 3 (by omega) (by omega)
        have i11 := hM1.ar 11 (by omega) (by omega)
        rw [hs1.2 2 (by omega)] at i2
        rw [hs1.2 3 (by omega)] at i3
        have e1 : (60 : Int32) * nI i + nI t = nI (60 * i + t) := by rw [show (60 : Int32) = nI 60 from rfl, pk_mul, nI_add]
        have e9 : nI t + 1 = nI (t + 1) := nI_1 t
        rw [sX3_load_14]
        simp only [sX3_load_0, sX3_load_1, sX3_load_4, sX3_load_5, sX3_load_6, sX3_load_7, sX3_load_8, sX3_load_9, sX3_load_12, sX3_load_13, sX3_load_15, sX3_load_16, sX3_load_19, sX3_load_20, sX3_load_21, sX3_load_24, sX3_load_25, sX3_load_28, sX3_load_29, sX3_load_30, sX3_load_33, sX3_load_35, sX3_load_36, sX3_load_37, sX3_load_38, sX3_load_39, sX3_load_40, sX3_load_41, sX3_load_44, sX3_load_47, sX3_load_48, sX3_load_49, sX3_load_52, sX3_load_53, sX3_load_54, sX3_load_57, sX3_load_58, sX3_load_59, sX3_load_60, sX3_load_63, sX3_load_64, sX3_load_65, sX3_load_66, sX3_load_69, sX3_load_70, sX3_load_74, sX3_load_77, sX3_load_78, sX3_load_79, sX3_load_80, sX3_load_81, sX3_load_84, sX3_load_85, sX3_load_86, sX3_load_90, sX3_load_91, sX3_load_94, sX3_load_95, sX3_load_96, sX3_load_97, sX3_load_100, sX3_load_101, sX3_load_105, hM1.ob, i2, i3, i11, Option.some.injEq, Sum.inr.injEq, Sum.inl.injEq, Prod.mk.injEq, true_and, and_true, exists_eq_left', exists_eq_left, exists_eq_right, exists_eq_right', exists_and_left, exists_and_right, List.getElem?_cons_succ, List.getElem?_cons_zero, List.length_cons, List.length_nil, List.set_cons_zero, List.set_cons_succ, Option.toList_some, Option.toList_none, List.nil_append, List.cons_append, mj_up_s, true_or, or_true, Nat.sub_zero, and_assoc, b10, not_true_eq_false, not_false_eq_true, false_implies, true_implies, implies_true, eq_self, and_self, rf_some, rf_none, ci, a2, e1, nI_cl (show 60 * i + t < 2147483648 by omega), nI_cl (show t < 2147483648 by omega), a3 t (by omega)]
        refine And.intro vi (And.intro (fun c => absurd c (nI_ge (by omega) (by omega))) (fun _ => And.intro (vp_in_nI (show _ < 3600 by omega) (by decide)) (And.intro (vp_in_nI (show _ < 600 by omega) (by decide)) ?_)))
        generalize hH : mj_up h1 (AD 6 11) _ = h3
        have hM3 : MHF h0 h3 AD X (Aw A1 11 t (nI (S_by S i t))) := hH ▸ hM1.putA 11 t (nI (S_by S i t)) (by omega) (by omega)
        simp only [sX3_load_0, sX3_load_1, sX3_load_4, sX3_load_5, sX3_load_6, sX3_load_7, sX3_load_8, sX3_load_9, sX3_load_12, sX3_load_13, sX3_load_15, sX3_load_16, sX3_load_19, sX3_load_20, sX3_load_21, sX3_load_24, sX3_load_25, sX3_load_28, sX3_load_29, sX3_load_30, sX3_load_33, sX3_load_35, sX3_load_36, sX3_load_37, sX3_load_38, sX3_load_39, sX3_load_40, sX3_load_41, sX3_load_44, sX3_load_47, sX3_load_48, sX3_load_49, sX3_load_52, sX3_load_53, sX3_load_54, sX3_load_57, sX3_load_58, sX3_load_59, sX3_load_60, sX3_load_63, sX3_load_64, sX3_load_65, sX3_load_66, sX3_load_69, sX3_load_70, sX3_load_74, sX3_load_77, sX3_load_78, sX3_load_79, sX3_load_80, sX3_load_81, sX3_load_84, sX3_load_85, sX3_load_86, sX3_load_90, sX3_load_91, sX3_load_94, sX3_load_95, sX3_load_96, sX3_load_97, sX3_load_100, sX3_load_101, sX3_load_105, Option.some.injEq, Sum.inr.injEq, Sum.inl.injEq, Prod.mk.injEq, true_and, and_true, exists_eq_left', exists_eq_left, exists_eq_right, exists_eq_right', exists_and_left, exists_and_right, List.getElem?_cons_succ, List.getElem?_cons_zero, List.length_cons, List.length_nil, List.set_cons_zero, List.set_cons_succ, Option.toList_some, Option.toList_none, List.nil_append, List.cons_append, mj_up_s, true_or, or_true, Nat.sub_zero, and_assoc, b10, not_true_eq_false, not_false_eq_true, false_implies, true_implies, implies_true, eq_self, and_self, rf_some, rf_none, e9]
        refine ih (t + 1) h3 _ (by omega) hM3 (hs1.trans sameC.a) (fun j hj => ?_)
        rw [Aw_s]
        by_cases hjt : j = t
        · subst hjt; rw [pk_us]
        · rw [pk_un hjt]; exact hb j (by omega)
    simp only [sX3_load_12, sX3_load_13]
    exact loop (S_sz S i) 0 h A (by omega) hM sameC.rf (fun j hj => by omega)
  · rw [if_neg hpk]
    obtain ⟨p, hp⟩ : ∃ p, S_pk S i = p + 1 := ⟨S_pk S i - 1, by omega⟩
    have hp2 : p < S_np S := by omega
    have w2 := hW.2.1
    rw [hp, show p + 1 - 1 = p from rfl]
    have esz : S_size S i = if S_th S p (S_ix S i) = true ∧ S_num S p (S_ix S i) 0 = i then S_cl S p (S_ix S i) else none := by
      unfold S_size; rw [if_neg (by omega), hp]; rfl
    have hnum := S_num_lt (S := S) (p := p) (k := S_ix S i) (wh := 0) (hW.2.2.2.2.2 p hp2).1.2.2.2
    refine And.intro (fun _ => ?_) (fun c => ?_)
    rotate_left
    · exfalso
      have c : nI p = -1 := by simpa using c
      have := nI_tI (n := p) (by omega)
      rw [c] at this
      simp only [i32_m1] at this
      omega
    simp only [sX3_load_0, sX3_load_1, sX3_load_4, sX3_load_5, sX3_load_6, sX3_load_7, sX3_load_8, sX3_load_9, sX3_load_12, sX3_load_13, sX3_load_15, sX3_load_16, sX3_load_19, sX3_load_20, sX3_load_21, sX3_load_24, sX3_load_25, sX3_load_28, sX3_load_29, sX3_load_30, sX3_load_33, sX3_load_35, sX3_load_36, sX3_load_37, sX3_load_38, sX3_load_39, sX3_load_40, sX3_load_41, sX3_load_44, sX3_load_47, sX3_load_48, sX3_load_49, sX3_load_52, sX3_load_53, sX3_load_54, sX3_load_57, sX3_load_58, sX3_load_59, sX3_load_60, sX3_load_63, sX3_load_64, sX3_load_65, sX3_load_66, sX3_load_69, sX3_load_70, sX3_load_74, sX3_load_77, sX3_load_78, sX3_load_79, sX3_load_80, sX3_load_81, sX3_load_84, sX3_load_85, sX3_load_86, sX3_load_90, sX3_load_91, sX3_load_94, sX3_load_95, sX3_load_96, sX3_load_97, sX3_load_100, sX3_load_101, sX3_load_105, hM.ob, nfi_3_0, ffi_3_0, nfi_3_1, ffi_3_1, nfr_3_2, ffr_3_2, nfu_3_2, ffu_3_2, nfr_3_3, ffr_3_3, nfu_3_3, ffu_3_3, nfr_3_4, ffr_3_4, nfu_3_4, ffu_3_4, nfr_3_5, ffr_3_5, nfu_3_5, ffu_3_5, nfr_3_6, ffr_3_6, nfu_3_6, ffu_3_6, nfi_3_7, ffi_3_7, nfr_3_8, ffr_3_8, nfu_3_8, ffu_3_8, nfr_3_9, ffr_3_9, nfu_3_9, ffu_3_9, nfr_3_10, ffr_3_10, nfu_3_10, ffu_3_10, nfr_3_11, ffr_3_11, nfu_3_11, ffu_3_11, nfr_3_12, ffr_3_12, nfu_3_12, ffu_3_12, nfr_3_13, ffr_3_13, nfu_3_13, ffu_3_13, nfi_3_14, ffi_3_14, nfi_3_15, ffi_3_15, nfr_3_16, ffr_3_16, nfu_3_16, ffu_3_16, nfr_3_17, ffr_3_17, nfu_3_17, ffu_3_17, nfr_3_18, ffr_3_18, nfu_3_18, ffu_3_18, nfr_3_19, ffr_3_19, nfu_3_19, ffu_3_19, nfr_3_20, ffr_3_20, nfu_3_20, ffu_3_20, nfi_3_21, ffi_3_21, Option.some.injEq, Sum.inr.injEq, Sum.inl.injEq, Prod.mk.injEq, true_and, and_true, exists_eq_left', exists_eq_left, exists_eq_right, exists_eq_right', exists_and_left, exists_and_right, List.getElem?_cons_succ, List.getElem?_cons_zero, List.length_cons, List.length_nil, List.set_cons_zero, List.set_cons_succ, Option.toList_some, Option.toList_none, List.nil_append, List.cons_append, mj_up_s, true_or, or_true, Nat.sub_zero, and_assoc, b10, not_true_eq_false, not_false_eq_true, false_implies, true_implies, implies_true, eq_self, and_self, rf_some, rf_none]
    refine And.intro (by decide) ?_
    have hob := hM.ob
    have ne50 : AD 6 5 ≠ AD 6 0 := fun e => by have := hM.2.2.1 5 0 (by omega) (by omega) e; omega
    simp only [mj_up_n ne50, h5, Option.some.injEq, Sum.inr.injEq, Sum.inl.injEq, Prod.mk.injEq, true_and, and_true, exists_eq_left', exists_eq_left, exists_eq_right, exists_eq_right', exists_and_left, exists_and_right, List.getElem?_cons_succ, List.getElem?_cons_zero, List.length_cons, List.length_nil, List.set_cons_zero, List.set_cons_succ, Option.toList_some, Option.toList_none, List.nil_append, List.cons_append, mj_up_s, true_or, or_true, Nat.sub_zero, and_assoc, b10, not_true_eq_false, not_false_eq_true, false_implies, true_implies, implies_true, eq_self, and_self, rf_some, rf_none, ci, a5]
    refine And.intro vi ?_
    generalize hH : mj_up h (AD 6 0) _ = h1
    have hM1 : MHF h0 h1 AD (Xw X 14 (-1)) A := hH ▸ hM.putX 14 (-1)
    have hR1 : CM S (Xw X 14 (-1)) A := hR.same sameC.x
    have i5 := hM1.ar 5 (by omega) (by omega)
    clear hH
    have none_ : S_size S i = none → Q none h1 n := fun e => by
      refine hQ h1 _ A hM1 sameC.x ⟨by rw [Xw_s, e]; rfl, fun L hL => ?_⟩
      rw [e] at hL; cases hL
    refine sX3_load_71z hM1.ob rfl (r_isThere (by omega) (by show 44 ≤ w - 23; omega) hM1 hR1 hW hp2 ?_)
    rw [S_thI_n (by omega)]
    by_cases ht : S_th S p (S_ix S i) = true
    · rw [if_pos ht]
      have e1 : (4 : Int32) * nI (S_ix S i) = nI (4 * S_ix S i + 2 * 0) := by rw [show (4 : Int32) = nI 4 from rfl, pk_mul]; rfl
      simp only [sX3_load_0, sX3_load_1, sX3_load_4, sX3_load_5, sX3_load_6, sX3_load_7, sX3_load_8, sX3_load_9, sX3_load_12, sX3_load_13, sX3_load_15, sX3_load_16, sX3_load_19, sX3_load_20, sX3_load_21, sX3_load_24, sX3_load_25, sX3_load_28, sX3_load_29, sX3_load_30, sX3_load_33, sX3_load_35, sX3_load_36, sX3_load_37, sX3_load_38, sX3_load_39, sX3_load_40, sX3_load_41, sX3_load_44, sX3_load_47, sX3_load_48, sX3_load_49, sX3_load_52, sX3_load_53, sX3_load_54, sX3_load_57, sX3_load_58, sX3_load_59, sX3_load_60, sX3_load_63, sX3_load_64, sX3_load_65, sX3_load_66, sX3_load_69, sX3_load_70, sX3_load_74, sX3_load_77, sX3_load_78, sX3_load_79, sX3_load_80, sX3_load_81, sX3_load_84, sX3_load_85, sX3_load_86, sX3_load_90, sX3_load_91, sX3_load_94, sX3_load_95, sX3_load_96, sX3_load_97, sX3_load_100, sX3_load_101, sX3_load_105, hM1.ob, i5, Option.some.injEq, Sum.inr.injEq, Sum.inl.injEq, Prod.mk.injEq, true_and, and_true, exists_eq_left', exists_eq_left, exists_eq_right, exists_eq_right', exists_and_left, exists_and_right, List.getElem?_cons_succ, List.getElem?_cons_zero, List.length_cons, List.length_nil, List.set_cons_zero, List.set_cons_succ, Option.toList_some, Option.toList_none, List.nil_append, List.cons_append, mj_up_s, true_or, or_true, Nat.sub_zero, and_assoc, b10, not_true_eq_false, not_false_eq_true, false_implies, true_implies, implies_true, eq_self, and_self, rf_some, rf_none, ci, a5, e1]
      refine And.intro vi ?_
      refine sX3_load_87z hM1.ob rfl (r_two (wh := 0) (by omega) (by show 22 ≤ w - 23; omega) hM1 hR1 hW hp2 (by omega) ht ?_)
      simp only [sX3_load_0, sX3_load_1, sX3_load_4, sX3_load_5, sX3_load_6, sX3_load_7, sX3_load_8, sX3_load_9, sX3_load_12, sX3_load_13, sX3_load_15, sX3_load_16, sX3_load_19, sX3_load_20, sX3_load_21, sX3_load_24, sX3_load_25, sX3_load_28, sX3_load_29, sX3_load_30, sX3_load_33, sX3_load_35, sX3_load_36, sX3_load_37, sX3_load_38, sX3_load_39, sX3_load_40, sX3_load_41, sX3_load_44, sX3_load_47, sX3_load_48, sX3_load_49, sX3_load_52, sX3_load_53, sX3_load_54, sX3_load_57, sX3_load_58, sX3_load_59, sX3_load_60, sX3_load_63, sX3_load_64, sX3_load_65, sX3_load_66, sX3_load_69, sX3_load_70, sX3_load_74, sX3_load_77, sX3_load_78, sX3_load_79, sX3_load_80, sX3_load_81, sX3_load_84, sX3_load_85, sX3_load_86, sX3_load_90, sX3_load_91, sX3_load_94, sX3_load_95, sX3_load_96, sX3_load_97, sX3_load_100, sX3_load_101, sX3_load_105, hM1.ob, i5, Option.some.injEq, Sum.inr.injEq, Sum.inl.injEq, Prod.mk.injEq, true_and, and_true, exists_eq_left', exists_eq_left, exists_eq_right, exists_eq_right', exists_and_left, exists_and_right, List.getElem?_cons_succ, List.getElem?_cons_zero, List.length_cons, List.length_nil, List.set_cons_zero, List.set_cons_succ, Option.toList_some, Option.toList_none, List.nil_append, List.cons_append, mj_up_s, true_or, or_true, Nat.sub_zero, and_assoc, b10, not_true_eq_false, not_false_eq_true, false_implies, true_implies, implies_true, eq_self, and_self, rf_some, rf_none, ci, a5]
      by_cases hn : S_num S p (S_ix S i) 0 = i
      · rw [if_pos ⟨ht, hn⟩] at esz
        refine And.intro (fun c => absurd (by rw [hn]) c) (fun _ => And.intro vi ?_)
        have hix : S_ix S i < 99 := by
          have := (S_th_iff.mp ht).1
          have := (hW.2.2.2.2.2 p hp2).1.1
          omega
        refine sX3_load_102z hM1.ob rfl (r_unpackTo (by omega) (by show 94 ≤ w - 23; omega) hM1 hR1 hW hp2 hix (fun h' X' A' hM' hs' hc' => ?_))
        simp only [sX3_load_0, sX3_load_1, sX3_load_4, sX3_load_5, sX3_load_6, sX3_load_7, sX3_load_8, sX3_load_9, sX3_load_12, sX3_load_13, sX3_load_15, sX3_load_16, sX3_load_19, sX3_load_20, sX3_load_21, sX3_load_24, sX3_load_25, sX3_load_28, sX3_load_29, sX3_load_30, sX3_load_33, sX3_load_35, sX3_load_36, sX3_load_37, sX3_load_38, sX3_load_39, sX3_load_40, sX3_load_41, sX3_load_44, sX3_load_47, sX3_load_48, sX3_load_49, sX3_load_52, sX3_load_53, sX3_load_54, sX3_load_57, sX3_load_58, sX3_load_59, sX3_load_60, sX3_load_63, sX3_load_64, sX3_load_65, sX3_load_66, sX3_load_69, sX3_load_70, sX3_load_74, sX3_load_77, sX3_load_78, sX3_load_79, sX3_load_80, sX3_load_81, sX3_load_84, sX3_load_85, sX3_load_86, sX3_load_90, sX3_load_91, sX3_load_94, sX3_load_95, sX3_load_96, sX3_load_97, sX3_load_100, sX3_load_101, sX3_load_105, Option.some.injEq, Sum.inr.injEq, Sum.inl.injEq, Prod.mk.injEq, true_and, and_true, exists_eq_left', exists_eq_left, exists_eq_right, exists_eq_right', exists_and_left, exists_and_right, List.getElem?_cons_succ, List.getElem?_cons_zero, List.length_cons, List.length_nil, List.set_cons_zero, List.set_cons_succ, Option.toList_some, Option.toList_none, List.nil_append, List.cons_append, mj_up_s, true_or, or_true, Nat.sub_zero, and_assoc, b10, not_true_eq_false, not_false_eq_true, false_implies, true_implies, implies_true, eq_self, and_self, rf_some, rf_none]
        refine hQ h' X' A' hM' (sameC.x.trans hs') ?_
        rw [esz]
        have eb : S_byte S i = S_cb S p (S_ix S i) := by
          funext j; unfold S_byte; rw [if_neg (by omega), hp]; rfl
        rw [eb]; exact hc'
      · rw [if_neg (fun c => hn c.2)] at esz
        exact And.intro (fun _ => none_ esz) (fun c => absurd (fun e => hn ((nI_eq (by omega) (by omega)).mp e)) c)
    · rw [if_neg ht]
      rw [if_neg (fun c => ht c.1)] at esz
      simp only [sX3_load_0, sX3_load_1, sX3_load_4, sX3_load_5, sX3_load_6, sX3_load_7, sX3_load_8, sX3_load_9, sX3_load_12, sX3_load_13, sX3_load_15, sX3_load_16, sX3_load_19, sX3_load_20, sX3_load_21, sX3_load_24, sX3_load_25, sX3_load_28, sX3_load_29, sX3_load_30, sX3_load_33, sX3_load_35, sX3_load_36, sX3_load_37, sX3_load_38, sX3_load_39, sX3_load_40, sX3_load_41, sX3_load_44, sX3_load_47, sX3_load_48, sX3_load_49, sX3_load_52, sX3_load_53, sX3_load_54, sX3_load_57, sX3_load_58, sX3_load_59, sX3_load_60, sX3_load_63, sX3_load_64, sX3_load_65, sX3_load_66, sX3_load_69, sX3_load_70, sX3_load_74, sX3_load_77, sX3_load_78, sX3_load_79, sX3_load_80, sX3_load_81, sX3_load_84, sX3_load_85, sX3_load_86, sX3_load_90, sX3_load_91, sX3_load_94, sX3_load_95, sX3_load_96, sX3_load_97, sX3_load_100, sX3_load_101, sX3_load_105, Option.some.injEq, Sum.inr.injEq, Sum.inl.injEq, Prod.mk.injEq, true_and, and_true, exists_eq_left', exists_eq_left, exists_eq_right, exists_eq_right', exists_and_left, exists_and_right, List.getElem?_cons_succ, List.getElem?_cons_zero, List.length_cons, List.length_nil, List.set_cons_zero, List.set_cons_succ, Option.toList_some, Option.toList_none, List.nil_append, List.cons_append, mj_up_s, true_or, or_true, Nat.sub_zero, and_assoc, b10, not_true_eq_false, not_false_eq_true, false_implies, true_implies, implies_true, eq_self, and_self, rf_some, rf_none]
      exact none_ esz
/-- what a call of the reference leaves behind -/
def RK (h0 : mj_H) (AD : Ad) (S' : St) (c : Int32) (h' : mj_H) : Prop := ∃ X' A', MHF h0 h' AD X' A' ∧ CM S' X' A' ∧ X' 0 = c
theorem CM.x0 (hR : CM S X A) {v : Int32} : CM S (Xw X 0 v) A := hR.congr (Xw_n (by omega)) (Xw_n (by omega)) (Xw_n (by omega)) (fun _ _ _ => rfl)
set_option maxRecDepth 100000 in
theorem r_size (hf : 6 ≤ f) (hw : 138 ≤ w) (hM : MHF h0 h AD X A) (hR : CM S X A) (hW : WF S) {o : Int32} (hQ : ∀ h', RK h0 AD S 0 h' → Q (some (.int (op_size S o))) h' n) : mj_bk f w 67 [.ref (AD 6 0), .int o] h n mc ms Q := by
  refine mj_begin (by omega) (by decide) (by show 21 ≤ w; omega) rfl ?_
  show mj_W _ _ 67 mj_noZ Q 0 [.ref (AD 6 0), .int o] [] h n mc ms
  simp only [sX3_size_0, sX3_size_1, sX3_size_2, sX3_size_5, sX3_size_6, sX3_size_10, sX3_size_13, sX3_size_15, sX3_size_16, sX3_size_17, sX3_size_21, sX3_size_22, sX3_size_25, hM.ob, nfi_3_0, ffi_3_0, nfi_3_1, ffi_3_1, nfr_3_2, ffr_3_2, nfu_3_2, ffu_3_2, nfr_3_3, ffr_3_3, nfu_3_3, ffu_3_3, nfr_3_4, ffr_3_4, nfu_3_4, ffu_3_4, nfr_3_5, ffr_3_5, nfu_3_5, ffu_3_5, nfr_3_6, ffr_3_6, nfu_3_6, ffu_3_6, nfi_3_7, ffi_3_7, nfr_3_8, ffr_3_8, nfu_3_8, ffu_3_8, nfr_3_9, ffr_3_9, nfu_3_9, ffu_3_9, nfr_3_10, ffr_3_10, nfu_3_10, ffu_3_10, nfr_3_11, ffr_3_11, nfu_3_11, ffu_3_11, nfr_3_12, ffr_3_12, nfu_3_12, ffu_3_12, nfr_3_13, ffr_3_13, nfu_3_13, ffu_3_13, nfi_3_14, ffi_3_14, nfi_3_15, ffi_3_15, nfr_3_16, ffr_3_16, nfu_3_16, ffu_3_16, nfr_3_17, ffr_3_17, nfu_3_17, ffu_3_17, nfr_3_18, ffr_3_18, nfu_3_18, ffu_3_18, nfr_3_19, ffr_3_19, nfu_3_19, ffu_3_19, nfr_3_20, ffr_3_20, nfu_3_20, ffu_3_20, nfi_3_21, ffi_3_21, Option.some.injEq, Sum.inr.injEq, Sum.inl.injEq, Prod.mk.injEq, true_and, and_true, exists_eq_left', exists_eq_left, exists_eq_right, exists_eq_right', exists_and_left, exists_and_right, List.getElem?_cons_succ, List.getElem?_cons_zero, List.length_cons, List.length_nil, List.set_cons_zero, List.set_cons_succ, Option.toList_some, Option.toList_none, List.nil_append, List.cons_append, mj_up_s, true_or, or_true, Nat.sub_zero, and_assoc, b10, not_true_eq_false, not_false_eq_true, false_implies, true_implies, implies_true, eq_self, and_self, rf_some, rf_none]
  refine And.intro (by decide) ?_
  generalize hH : mj_up h (AD 6 0) _ = h1
  have hM1 : MHF h0 h1 AD (Xw X 0 0) A := hH ▸ hM.putX 0 0
  have hR1 : CM S (Xw X 0 0) A := hR.x0
  clear hH
  refine sX3_size_7z hM1.ob rfl (r_isObject (by omega) (by show 43 ≤ w - 21; omega) hM1 hR1 hW ?_)
  unfold op_size at hQ
  by_cases hc : obI S o = true
  · rw [if_pos hc] at hQ ⊢
    obtain ⟨i, rfl, j1, j2⟩ := cl_iff.mp hc
    rw [nI_cl j1] at hQ
    simp only [sX3_size_0, sX3_size_1, sX3_size_2, sX3_size_5, sX3_size_6, sX3_size_10, sX3_size_13, sX3_size_15, sX3_size_16, sX3_size_17, sX3_size_21, sX3_size_22, sX3_size_25, Option.some.injEq, Sum.inr.injEq, Sum.inl.injEq, Prod.mk.injEq, true_and, and_true, exists_eq_left', exists_eq_left, exists_eq_right, exists_eq_right', exists_and_left, exists_and_right, List.getElem?_cons_succ, List.getElem?_cons_zero, List.length_cons, List.length_nil, List.set_cons_zero, List.set_cons_succ, Option.toList_some, Option.toList_none, List.nil_append, List.cons_append, mj_up_s, true_or, or_true, Nat.sub_zero, and_assoc, b10, not_true_eq_false, not_false_eq_true, false_implies, true_implies, implies_true, eq_self, and_self, rf_some, rf_none]
    refine sX3_size_18z hM1.ob rfl (r_load (by omega) (by show 117 ≤ w - 21; omega) hM1 hR1 hW j2 (fun h' X' A' hM' hs' hc' => ?_))
    simp only [sX3_size_0, sX3_size_1, sX3_size_2, sX3_size_5, sX3_size_6, sX3_size_10, sX3_size_13, sX3_size_15, sX3_size_16, sX3_size_17, sX3_size_21, sX3_size_22, sX3_size_25, hM'.ob, Option.some.injEq, Sum.inr.injEq, Sum.inl.injEq, Prod.mk.injEq, true_and, and_true, exists_eq_left', exists_eq_left, exists_eq_right, exists_eq_right', exists_and_left, exists_and_right, List.getElem?_cons_succ, List.getElem?_cons_zero, List.length_cons, List.length_nil, List.set_cons_zero, List.set_cons_succ, Option.toList_some, Option.toList_none, List.nil_append, List.cons_append, mj_up_s, true_or, or_true, Nat.sub_zero, and_assoc, b10, not_true_eq_false, not_false_eq_true, false_implies, true_implies, implies_true, eq_self, and_self, rf_some, rf_none]
    rw [hc'.1]
    exact hQ h' ⟨X', A', hM', hR1.same hs', by rw [hs'.1 0 (by omega)]; exact Xw_s⟩
  · rw [if_neg hc] at hQ ⊢
    simp only [sX3_size_0, sX3_size_1, sX3_size_2, sX3_size_5, sX3_size_6, sX3_size_10, sX3_size_13, sX3_size_15, sX3_size_16, sX3_size_17, sX3_size_21, sX3_size_22, sX3_size_25, Option.some.injEq, Sum.inr.injEq, Sum.inl.injEq, Prod.mk.injEq, true_and, and_true, exists_eq_left', exists_eq_left, exists_eq_right, exists_eq_right', exists_and_left, exists_and_right, List.getElem?_cons_succ, List.getElem?_cons_zero, List.length_cons, List.length_nil, List.set_cons_zero, List.set_cons_succ, Option.toList_some, Option.toList_none, List.nil_append, List.cons_append, mj_up_s, true_or, or_true, Nat.sub_zero, and_assoc, b10, not_true_eq_false, not_false_eq_true, false_implies, true_implies, implies_true, eq_self, and_self, rf_some, rf_none]
    exact hQ h1 ⟨_, A, hM1, hR1, Xw_s⟩
set_option maxRecDepth 100000 in
theorem r_at (hf : 6 ≤ f) (hw : 139 ≤ w) (hM : MHF h0 h AD X A) (hR : CM S X A) (hW : WF S) {o i : Int32} (hQ : ∀ h', RK h0 AD S (if op_at S o i = none then 1 else 0) h' → Q (some (.int (bS ((op_at S o i).getD 0)))) h' n) : mj_bk f w 68 [.ref (AD 6 0), .int o, .int i] h n mc ms Q := by
  have b0 : bS 0 = 0 := rfl
  refine mj_begin (by omega) (by decide) (by show 22 ≤ w; omega) rfl ?_
  show mj_W _ _ 68 mj_noZ Q 0 [.ref (AD 6 0), .int o, .int i] [] h n mc ms
  simp only [sX3_at_0, sX3_at_1, sX3_at_2, sX3_at_5, sX3_at_6, sX3_at_10, sX3_at_13, sX3_at_14, sX3_at_15, sX3_at_16, sX3_at_20, sX3_at_21, sX3_at_22, sX3_at_23, sX3_at_26, sX3_at_27, sX3_at_31, sX3_at_34, sX3_at_35, sX3_at_36, sX3_at_37, sX3_at_38, sX3_at_41, sX3_at_42, sX3_at_45, sX3_at_46, sX3_at_47, sX3_at_48, hM.ob, nfi_3_0, ffi_3_0, nfi_3_1, ffi_3_1, nfr_3_2, ffr_3_2, nfu_3_2, ffu_3_2, nfr_3_3, ffr_3_3, nfu_3_3, ffu_3_3, nfr_3_4, ffr_3_4, nfu_3_4, ffu_3_4, nfr_3_5, ffr_3_5, nfu_3_5, ffu_3_5, nfr_3_6, ffr_3_6, nfu_3_6, ffu_3_6, nfi_3_7, ffi_3_7, nfr_3_8, ffr_3_8, nfu_3_8, ffu_3_8, nfr_3_9, ffr_3_9, nfu_3_9, ffu_3_9, nfr_3_10, ffr_3_10, nfu_3_10, ffu_3_10, nfr_3_11, ffr_3_11, nfu_3_11, ffu_3_11, nfr_3_12, ffr_3_12, nfu_3_12, ffu_3_12, nfr_3_13, ffr_3_13, nfu_3_13, ffu_3_13, nfi_3_14, ffi_3_14, nfi_3_15, ffi_3_15, nfr_3_16, ffr_3_16, nfu_3_16, ffu_3_16, nfr_3_17, ffr_3_17, nfu_3_17, ffu_3_17, nfr_3_18, ffr_3_18, nfu_3_18, ffu_3_18, nfr_3_19, ffr_3_19, nfu_3_19, ffu_3_19, nfr_3_20, ffr_3_20, nfu_3_20, ffu_3_20, nfi_3_21, ffi_3_21, Option.some.injEq, Sum.inr.injEq, Sum.inl.injEq, Prod.mk.injEq, true_and, and_true, exists_eq_left', exists_eq_left, exists_eq_right, exists_eq_right', exists_and_left, exists_and_right, List.getElem?_cons_succ, List.getElem?_cons_zero, List.length_cons, List.length_nil, List.set_cons_zero, List.set_cons_succ, Option.toList_some, Option.toList_none, List.nil_append, List.cons_append, mj_up_s, true_or, or_true, Nat.sub_zero, and_assoc, b10, not_true_eq_false, not_false_eq_true, false_implies, true_implies, implies_true, eq_self, and_self, rf_some, rf_none]
  refine And.intro (by decide) ?_
  generalize hH : mj_up h (AD 6 0) _ = h1
  have hM1 : MHF h0 h1 AD (Xw X 0 1) A := hH ▸ hM.putX 0 1
  have hR1 : CM S (Xw X 0 1) A := hR.x0
  clear hH
  refine sX3_at_7z hM1.ob rfl (r_isObject (by omega) (by show 43 ≤ w - 22; omega) hM1 hR1 hW ?_)
  by_cases hc : obI S o = true
  · rw [if_pos hc]
    obtain ⟨j, rfl, j1, j2⟩ := cl_iff.mp hc
    simp only [sX3_at_0, sX3_at_1, sX3_at_2, sX3_at_5, sX3_at_6, sX3_at_10, sX3_at_13, sX3_at_14, sX3_at_15, sX3_at_16, sX3_at_20, sX3_at_21, sX3_at_22, sX3_at_23, sX3_at_26, sX3_at_27, sX3_at_31, sX3_at_34, sX3_at_35, sX3_at_36, sX3_at_37, sX3_at_38, sX3_at_41, sX3_at_42, sX3_at_45, sX3_at_46, sX3_at_47, sX3_at_48, Option.some.injEq, Sum.inr.injEq, Sum.inl.injEq, Prod.mk.injEq, true_and, and_true, exists_eq_left', exists_eq_left, exists_eq_right, exists_eq_right', exists_and_left, exists_and_right, List.getElem?_cons_succ, List.getElem?_cons_zero, List.length_cons, List.length_nil, List.set_cons_zero, List.set_cons_succ, Option.toList_some, Option.toList_none, List.nil_append, List.cons_append, mj_up_s, true_or, or_true, Nat.sub_zero, and_assoc, b10, not_true_eq_false, not_false_eq_true, false_implies, true_implies, implies_true, eq_self, and_self, rf_some, rf_none]
    refine sX3_at_17z hM1.ob rfl (r_load (by omega) (by show 117 ≤ w - 22; omega) hM1 hR1 hW j2 (fun h' X' A' hM' hs' hc' => ?_))
    have h11 := hM'.ar 11 (by omega) (by omega)
    simp only [sX3_at_0, sX3_at_1, sX3_at_2, sX3_at_5, sX3_at_6, sX3_at_10, sX3_at_13, sX3_at_14, sX3_at_15, sX3_at_16, sX3_at_20, sX3_at_21, sX3_at_22, sX3_at_23, sX3_at_26, sX3_at_27, sX3_at_31, sX3_at_34, sX3_at_35, sX3_at_36, sX3_at_37, sX3_at_38, sX3_at_41, sX3_at_42, sX3_at_45, sX3_at_46, sX3_at_47, sX3_at_48, hM'.ob, Option.some.injEq, Sum.inr.injEq, Sum.inl.injEq, Prod.mk.injEq, true_and, and_true, exists_eq_left', exists_eq_left, exists_eq_right, exists_eq_right', exists_and_left, exists_and_right, List.getElem?_cons_succ, List.getElem?_cons_zero, List.length_cons, List.length_nil, List.set_cons_zero, List.set_cons_succ, Option.toList_some, Option.toList_none, List.nil_append, List.cons_append, mj_up_s, true_or, or_true, Nat.sub_zero, and_assoc, b10, not_true_eq_false, not_false_eq_true, false_implies, true_implies, implies_true, eq_self, and_self, rf_some, rf_none]
    refine sX3_at_28z rfl (r_isIn (by omega) (by show 22 ≤ w - 22; omega) ?_)
    rw [hc'.1]
    cases hL : S_size S j with
    | none =>
      have eo : op_at S (nI j) i = none := by
        unfold op_at
        rw [if_neg]
        rintro ⟨-, q1, q2⟩
        rw [nI_cl j1, hL] at q2
        simp only [oI] at q2
        clear hQ hc' hM' hs' h11
        (simp only [Int32.le_iff_toInt_le, Int32.lt_iff_toInt_lt, i32_eq, i32_0, i32_m1, i32_600, i32_60, i32_20, i32_99, i32_10, i32_1, i32_2] at *; omega)
      rw [eo] at hQ
      rw [if_neg (by rintro ⟨q1, q2⟩; revert q2; simp only [oI]; intro q2; have q3 : ((-1 : Int32) - 1).toInt = -2 := rfl; clear hQ hc' hM' hs' h11; simp only [Int32.le_iff_toInt_le, i32_0, q3] at q1 q2; omega)]
      simp only [sX3_at_0, sX3_at_1, sX3_at_2, sX3_at_5, sX3_at_6, sX3_at_10, sX3_at_13, sX3_at_14, sX3_at_15, sX3_at_16, sX3_at_20, sX3_at_21, sX3_at_22, sX3_at_23, sX3_at_26, sX3_at_27, sX3_at_31, sX3_at_34, sX3_at_35, sX3_at_36, sX3_at_37, sX3_at_38, sX3_at_41, sX3_at_42, sX3_at_45, sX3_at_46, sX3_at_47, sX3_at_48, Option.some.injEq, Sum.inr.injEq, Sum.inl.injEq, Prod.mk.injEq, true_and, and_true, exists_eq_left', exists_eq_left, exists_eq_right, exists_eq_right', exists_and_left, exists_and_right, List.getElem?_cons_succ, List.getElem?_cons_zero, List.length_cons, List.length_nil, List.set_cons_zero, List.set_cons_succ, Option.toList_some, Option.toList_none, List.nil_append, List.cons_append, mj_up_s, true_or, or_true, Nat.sub_zero, and_assoc, b10, not_true_eq_false, not_false_eq_true, false_implies, true_implies, implies_true, eq_self, and_self, rf_some, rf_none, nar_y0]
      refine hQ h' ⟨X', A', hM', hR1.same hs', by rw [hs'.1 0 (by omega)]; exact Xw_s⟩
    | some L =>
      have hLt := S_size_lt hW j2 hL
      simp only [oI]
      simp only [isin_cl (o := i) (N := L) (by omega)]
      by_cases hi : (decide (0 ≤ i) && decide (i.toNatClampNeg < L)) = true
      · rw [if_pos hi]
        obtain ⟨t, rfl, t1, t2⟩ := cl_iff.mp hi
        have eo : op_at S (nI j) (nI t) = some (S_byte S j t) := by
          unfold op_at
          rw [if_pos, nI_cl j1, nI_cl t1]
          refine ⟨hc, nI_pos' t1, ?_⟩
          rw [nI_cl j1, hL]
          exact nI_lt t2 (by omega)
        rw [eo] at hQ
        have ne : AD 6 11 ≠ AD 6 0 := fun e => by have := hM'.2.2.1 11 0 (by omega) (by omega) e; omega
        have hbt := hc'.2 L hL t t2
        simp only [sX3_at_0, sX3_at_1, sX3_at_2, sX3_at_5, sX3_at_6, sX3_at_10, sX3_at_13, sX3_at_14, sX3_at_15, sX3_at_16, sX3_at_20, sX3_at_21, sX3_at_22, sX3_at_23, sX3_at_26, sX3_at_27, sX3_at_31, sX3_at_34, sX3_at_35, sX3_at_36, sX3_at_37, sX3_at_38, sX3_at_41, sX3_at_42, sX3_at_45, sX3_at_46, sX3_at_47, sX3_at_48, hM'.ob, mj_up_n ne, h11, nfi_3_0, ffi_3_0, nfi_3_1, ffi_3_1, nfr_3_2, ffr_3_2, nfu_3_2, ffu_3_2, nfr_3_3, ffr_3_3, nfu_3_3, ffu_3_3, nfr_3_4, ffr_3_4, nfu_3_4, ffu_3_4, nfr_3_5, ffr_3_5, nfu_3_5, ffu_3_5, nfr_3_6, ffr_3_6, nfu_3_6, ffu_3_6, nfi_3_7, ffi_3_7, nfr_3_8, ffr_3_8, nfu_3_8, ffu_3_8, nfr_3_9, ffr_3_9, nfu_3_9, ffu_3_9, nfr_3_10, ffr_3_10, nfu_3_10, ffu_3_10, nfr_3_11, ffr_3_11, nfu_3_11, ffu_3_11, nfr_3_12, ffr_3_12, nfu_3_12, ffu_3_12, nfr_3_13, ffr_3_13, nfu_3_13, ffu_3_13, nfi_3_14, ffi_3_14, nfi_3_15, ffi_3_15, nfr_3_16, ffr_3_16, nfu_3_16, ffu_3_16, nfr_3_17, ffr_3_17, nfu_3_17, ffu_3_17, nfr_3_18, ffr_3_18, nfu_3_18, ffu_3_18, nfr_3_19, ffr_3_19, nfu_3_19, ffu_3_19, nfr_3_20, ffr_3_20, nfu_3_20, ffu_3_20, nfi_3_21, ffi_3_21, Option.some.injEq, Sum.inr.injEq, Sum.inl.injEq, Prod.mk.injEq, true_and, and_true, exists_eq_left', exists_eq_left, exists_eq_right, exists_eq_right', exists_and_left, exists_and_right, List.getElem?_cons_succ, List.getElem?_cons_zero, List.length_cons, List.length_nil, List.set_cons_zero, List.set_cons_succ, Option.toList_some, Option.toList_none, List.nil_append, List.cons_append, mj_up_s, true_or, or_true, Nat.sub_zero, and_assoc, b10, not_true_eq_false, not_false_eq_true, false_implies, true_implies, implies_true, eq_self, and_self, rf_some, rf_none, nI_cl t1, hbt]
        refine And.intro (by decide) (And.intro (vp_in_nI (show t < 600 by omega) (by decide)) ?_)
        have e : (nI (S_byte S j t)).toInt8.toInt32 = bS (S_byte S j t) := rfl
        rw [e]
        refine And.intro (bS_narrow _) ?_
        refine hQ _ ⟨Xw X' 0 0, A', hM'.putX 0 0, (hR1.same hs').x0, Xw_s⟩
      · rw [if_neg hi]
        have eo : op_at S (nI j) i = none := by
          unfold op_at
          rw [if_neg]
          rintro ⟨-, q1, q2⟩
          rw [nI_cl j1, hL] at q2
          apply hi
          obtain ⟨t, t1, rfl, t3⟩ := i32_of (x := i) (by clear hQ hc' hM' hs' h11 hi; (simp only [Int32.le_iff_toInt_le, Int32.lt_iff_toInt_lt, i32_eq, i32_0, i32_m1, i32_600, i32_60, i32_20, i32_99, i32_10, i32_1, i32_2] at *; omega))
          have z := nI_tI (n := L) (by omega)
          simp only [oI] at q2
          exact cl_iff.mpr ⟨t, rfl, t1, by clear hQ hc' hM' hs' h11 hi; (simp only [Int32.le_iff_toInt_le, Int32.lt_iff_toInt_lt, i32_eq, i32_0, i32_m1, i32_600, i32_60, i32_20, i32_99, i32_10, i32_1, i32_2] at *; omega)⟩
        rw [eo] at hQ
        simp only [sX3_at_0, sX3_at_1, sX3_at_2, sX3_at_5, sX3_at_6, sX3_at_10, sX3_at_13, sX3_at_14, sX3_at_15, sX3_at_16, sX3_at_20, sX3_at_21, sX3_at_22, sX3_at_23, sX3_at_26, sX3_at_27, sX3_at_31, sX3_at_34, sX3_at_35, sX3_at_36, sX3_at_37, sX3_at_38, sX3_at_41, sX3_at_42, sX3_at_45, sX3_at_46, sX3_at_47, sX3_at_48, Option.some.injEq, Sum.inr.injEq, Sum.inl.injEq, Prod.mk.injEq, true_and, and_true, exists_eq_left', exists_eq_left, exists_eq_right, exists_eq_right', exists_and_left, exists_and_right, List.getElem?_cons_succ, List.getElem?_cons_zero, List.length_cons, List.length_nil, List.set_cons_zero, List.set_cons_succ, Option.toList_some, Option.toList_none, List.nil_append, List.cons_append, mj_up_s, true_or, or_true, Nat.sub_zero, and_assoc, b10, not_true_eq_false, not_false_eq_true, false_implies, true_implies, implies_true, eq_self, and_self, rf_some, rf_none, nar_y0]
        refine hQ h' ⟨X', A', hM', hR1.same hs', by rw [hs'.1 0 (by omega)]; exact Xw_s⟩
  · rw [if_neg hc]
    have eo : op_at S o i = none := if_neg (fun z => hc z.1)
    rw [eo] at hQ
    simp only [sX3_at_0, sX3_at_1, sX3_at_2, sX3_at_5, sX3_at_6, sX3_at_10, sX3_at_13, sX3_at_14, sX3_at_15, sX3_at_16, sX3_at_20, sX3_at_21, sX3_at_22, sX3_at_23, sX3_at_26, sX3_at_27, sX3_at_31, sX3_at_34, sX3_at_35, sX3_at_36, sX3_at_37, sX3_at_38, sX3_at_41, sX3_at_42, sX3_at_45, sX3_at_46, sX3_at_47, sX3_at_48, Option.some.injEq, Sum.inr.injEq, Sum.inl.injEq, Prod.mk.injEq, true_and, and_true, exists_eq_left', exists_eq_left, exists_eq_right, exists_eq_right', exists_and_left, exists_and_right, List.getElem?_cons_succ, List.getElem?_cons_zero, List.length_cons, List.length_nil, List.set_cons_zero, List.set_cons_succ, Option.toList_some, Option.toList_none, List.nil_append, List.cons_append, mj_up_s, true_or, or_true, Nat.sub_zero, and_assoc, b10, not_true_eq_false, not_false_eq_true, false_implies, true_implies, implies_true, eq_self, and_self, rf_some, rf_none, nar_y0]
    exact hQ h1 ⟨_, A, hM1, hR1, Xw_s⟩
set_option maxRecDepth 100000 in
theorem r_in (hf : 3 ≤ f) (hw : 64 ≤ w) (hM : MHF h0 h AD X A) (hR : CM S X A) (hW : WF S) {o : Int32} (hQ : ∀ h', RK h0 AD S 0 h' → Q (some (.int (op_in S o))) h' n) : mj_bk f w 69 [.ref (AD 6 0), .int o] h n mc ms Q := by
  have w1 := hW.1
  refine mj_begin (by omega) (by decide) (by show 21 ≤ w; omega) rfl ?_
  show mj_W _ _ 69 mj_noZ Q 0 [.ref (AD 6 0), .int o] [] h n mc ms
  simp only [sX3_in_0, sX3_in_1, sX3_in_2, sX3_in_5, sX3_in_6, sX3_in_10, sX3_in_13, sX3_in_15, sX3_in_18, sX3_in_19, sX3_in_22, sX3_in_23, sX3_in_24, sX3_in_25, sX3_in_28, sX3_in_29, sX3_in_32, sX3_in_34, sX3_in_35, sX3_in_38, sX3_in_39, sX3_in_40, sX3_in_41, sX3_in_42, sX3_in_45, sX3_in_46, sX3_in_47, sX3_in_48, hM.ob, nfi_3_0, ffi_3_0, nfi_3_1, ffi_3_1, nfr_3_2, ffr_3_2, nfu_3_2, ffu_3_2, nfr_3_3, ffr_3_3, nfu_3_3, ffu_3_3, nfr_3_4, ffr_3_4, nfu_3_4, ffu_3_4, nfr_3_5, ffr_3_5, nfu_3_5, ffu_3_5, nfr_3_6, ffr_3_6, nfu_3_6, ffu_3_6, nfi_3_7, ffi_3_7, nfr_3_8, ffr_3_8, nfu_3_8, ffu_3_8, nfr_3_9, ffr_3_9, nfu_3_9, ffu_3_9, nfr_3_10, ffr_3_10, nfu_3_10, ffu_3_10, nfr_3_11, ffr_3_11, nfu_3_11, ffu_3_11, nfr_3_12, ffr_3_12, nfu_3_12, ffu_3_12, nfr_3_13, ffr_3_13, nfu_3_13, ffu_3_13, nfi_3_14, ffi_3_14, nfi_3_15, ffi_3_15, nfr_3_16, ffr_3_16, nfu_3_16, ffu_3_16, nfr_3_17, ffr_3_17, nfu_3_17, ffu_3_17, nfr_3_18, ffr_3_18, nfu_3_18, ffu_3_18, nfr_3_19, ffr_3_19, nfu_3_19, ffu_3_19, nfr_3_20, ffr_3_20, nfu_3_20, ffu_3_20, nfi_3_21, ffi_3_21, Option.some.injEq, Sum.inr.injEq, Sum.inl.injEq, Prod.mk.injEq, true_and, and_true, exists_eq_left', exists_eq_left, exists_eq_right, exists_eq_right', exists_and_left, exists_and_right, List.getElem?_cons_succ, List.getElem?_cons_zero, List.length_cons, List.length_nil, List.set_cons_zero, List.set_cons_succ, Option.toList_some, Option.toList_none, List.nil_append, List.cons_append, mj_up_s, true_or, or_true, Nat.sub_zero, and_assoc, b10, not_true_eq_false, not_false_eq_true, false_implies, true_implies, implies_true, eq_self, and_self, rf_some, rf_none]
  refine And.intro (by decide) ?_
  generalize hH : mj_up h (AD 6 0) _ = h1
  have hM1 : MHF h0 h1 AD (Xw X 0 0) A := hH ▸ hM.putX 0 0
  have hR1 : CM S (Xw X 0 0) A := hR.x0
  clear hH
  refine sX3_in_7z hM1.ob rfl (r_isObject (by omega) (by show 43 ≤ w - 21; omega) hM1 hR1 hW ?_)
  unfold op_in at hQ
  have fin := hQ h1 ⟨_, A, hM1, hR1, Xw_s⟩
  by_cases hc : obI S o = true
  · rw [if_pos hc] at fin ⊢
    obtain ⟨i, rfl, j1, j2⟩ := cl_iff.mp hc
    rw [nI_cl j1] at fin
    obtain ⟨a1, a4, a5, a2⟩ := hR.2.2.2.1 i j2
    obtain ⟨u1, u2, u3, u4, u5⟩ := hW.2.2.2.1 i j2
    have w2 := hW.2.1
    have i4 := hM1.ar 4 (by omega) (by omega)
    have i5 := hM1.ar 5 (by omega) (by omega)
    have vi : vp_in (nI i) 60 := vp_in_nI (by omega) (by decide)
    simp only [sX3_in_0, sX3_in_1, sX3_in_2, sX3_in_5, sX3_in_6, sX3_in_10, sX3_in_13, sX3_in_15, sX3_in_18, sX3_in_19, sX3_in_22, sX3_in_23, sX3_in_24, sX3_in_25, sX3_in_28, sX3_in_29, sX3_in_32, sX3_in_34, sX3_in_35, sX3_in_38, sX3_in_39, sX3_in_40, sX3_in_41, sX3_in_42, sX3_in_45, sX3_in_46, sX3_in_47, sX3_in_48, hM1.ob, i4, i5, Option.some.injEq, Sum.inr.injEq, Sum.inl.injEq, Prod.mk.injEq, true_and, and_true, exists_eq_left', exists_eq_left, exists_eq_right, exists_eq_right', exists_and_left, exists_and_right, List.getElem?_cons_succ, List.getElem?_cons_zero, List.length_cons, List.length_nil, List.set_cons_zero, List.set_cons_succ, Option.toList_some, Option.toList_none, List.nil_append, List.cons_append, mj_up_s, true_or, or_true, Nat.sub_zero, and_assoc, b10, not_true_eq_false, not_false_eq_true, false_implies, true_implies, implies_true, eq_self, and_self, rf_some, rf_none, nI_cl j1, a4, a5]
    refine And.intro vi ?_
    by_cases hp : S_pk S i = 0
    · rw [if_pos hp] at fin ⊢
      exact And.intro (fun c => absurd rfl c) (fun _ => fin)
    · rw [if_neg hp] at fin ⊢
      refine And.intro (fun _ => And.intro vi (And.intro vi ?_)) (fun c => ?_)
      · have e : (100 : Int32) * nI (S_pk S i - 1) + nI (S_ix S i) = nI (100 * (S_pk S i - 1) + S_ix S i) := by rw [show (100 : Int32) = nI 100 from rfl, pk_mul, nI_add]
        rw [e]; exact fin
      · exfalso
        have c : nI (S_pk S i - 1) = -1 := by simpa using c
        have := nI_tI (n := S_pk S i - 1) (by omega)
        rw [c] at this
        simp only [i32_m1] at this
        omega
  · rw [if_neg hc] at fin ⊢
    simp only [sX3_in_0, sX3_in_1, sX3_in_2, sX3_in_5, sX3_in_6, sX3_in_10, sX3_in_13, sX3_in_15, sX3_in_18, sX3_in_19, sX3_in_22, sX3_in_23, sX3_in_24, sX3_in_25, sX3_in_28, sX3_in_29, sX3_in_32, sX3_in_34, sX3_in_35, sX3_in_38, sX3_in_39, sX3_in_40, sX3_in_41, sX3_in_42, sX3_in_45, sX3_in_46, sX3_in_47, sX3_in_48, Option.some.injEq, Sum.inr.injEq, Sum.inl.injEq, Prod.mk.injEq, true_and, and_true, exists_eq_left', exists_eq_left, exists_eq_right, exists_eq_right', exists_and_left, exists_and_right, List.getElem?_cons_succ, List.getElem?_cons_zero, List.length_cons, List.length_nil, List.set_cons_zero, List.set_cons_succ, Option.toList_some, Option.toList_none, List.nil_append, List.cons_append, mj_up_s, true_or, or_true, Nat.sub_zero, and_assoc, b10, not_true_eq_false, not_false_eq_true, false_implies, true_implies, implies_true, eq_self, and_self, rf_some, rf_none]
    exact fin
end
