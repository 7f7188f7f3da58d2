/-! ===== the reference: packs, rows, chains ===== -/
/-- the chain from r on comes to its end within m steps -/
def chEnd (S : St) : Nat → Nat → Bool
  | r, 0 => decide (r = 0)
  | 0, _ + 1 => true
  | q + 1, m + 1 => chEnd S (S_ex S q) m
def ACY (S : St) : Prop := ∀ r, r ≤ S_np S → chEnd S r 20 = true
section
variable {f w : Nat} {Q : mj_Q} {h0 h : mj_H} {n mc ms : Nat} {S : St} {AD : Ad} {X : Nat → Int32} {A : Nat → Nat → Int32}
theorem MHF.ne (hM : MHF h0 h AD X A) {i j : Nat} (hij : i ≠ j) (hi : i < 17) (hj : j < 17) : AD 6 i ≠ AD 6 j := fun e => hij (hM.2.2.1 i j hi hj e)
theorem nIm1 {x : Nat} (hx : x < 2147483648) : nI x ≠ -1 := fun c => by
  have := nI_tI hx
  rw [c] at this
  simp only [i32_m1] at this
  omega
set_option maxRecDepth 100000 in
theorem r_object (hf : 2 ≤ f) (hw : 43 ≤ w) (hM : MHF h0 h AD X A) (hR : CM S X A) (hW : WF S) {k : Int32} (hQ : ∀ h', RK h0 AD (op_object S k).2 0 h' → Q (some (.int (op_object S k).1)) h' n) : mj_bk f w 64 [.ref (AD 6 0), .int k] h n mc ms Q := by
  have w1 := hW.1
  refine mj_begin (by omega) (by decide) (by show 21 ≤ w; omega) rfl ?_
  show mj_W _ _ 64 mj_noZ Q 0 [.ref (AD 6 0), .int k] [] h n mc ms
  simp only [sX3_object_0, sX3_object_1, sX3_object_2, sX3_object_5, sX3_object_6, sX3_object_7, sX3_object_11, sX3_object_14, sX3_object_16, sX3_object_17, sX3_object_18, sX3_object_21, sX3_object_23, sX3_object_26, sX3_object_28, sX3_object_29, sX3_object_30, sX3_object_33, sX3_object_34, sX3_object_37, sX3_object_38, sX3_object_39, sX3_object_40, sX3_object_43, sX3_object_44, sX3_object_47, sX3_object_48, sX3_object_49, sX3_object_50, sX3_object_51, sX3_object_54, sX3_object_55, sX3_object_56, sX3_object_59, sX3_object_60, sX3_object_63, sX3_object_64, sX3_object_65, hM.ob, nfi_3_0, ffi_3_0, nfi_3_1, ffi_3_1, nfr_3_2, ffr_3_2, nfu_3_2, ffu_3_2, nfr_3_3, ffr_3_3, nfu_3_3, ffu_3_3, nfr_3_4, ffr_3_4, nfu_3_4, ffu_3_4, nfr_3_5, ffr_3_5, nfu_3_5, ffu_3_5, nfr_3_6, ffr_3_6, nfu_3_6, ffu_3_6, nfi_3_7, ffi_3_7, nfr_3_8, ffr_3_8, nfu_3_8, ffu_3_8, nfr_3_9, ffr_3_9, nfu_3_9, ffu_3_9, nfr_3_10, ffr_3_10, nfu_3_10, ffu_3_10, nfr_3_11, ffr_3_11, nfu_3_11, ffu_3_11, nfr_3_12, ffr_3_12, nfu_3_12, ffu_3_12, nfr_3_13, ffr_3_13, nfu_3_13, ffu_3_13, nfi_3_14, ffi_3_14, nfi_3_15, ffi_3_15, nfr_3_16, ffr_3_16, nfu_3_16, ffu_3_16, nfr_3_17, ffr_3_17, nfu_3_17, ffu_3_17, nfr_3_18, ffr_3_18, nfu_3_18, ffu_3_18, nfr_3_19, ffr_3_19, nfu_3_19, ffu_3_19, nfr_3_20, ffr_3_20, nfu_3_20, ffu_3_20, nfi_3_21, ffi_3_21, Option.some.injEq, Sum.inr.injEq, Sum.inl.injEq, Prod.mk.injEq, true_and, and_true, exists_eq_left', exists_eq_left, exists_eq_right, exists_eq_right', exists_and_left, exists_and_right, List.getElem?_cons_succ, List.getElem?_cons_zero, List.length_cons, List.length_nil, List.set_cons_zero, List.set_cons_succ, Option.toList_some, Option.toList_none, List.nil_append, List.cons_append, mj_up_s, true_or, or_true, Nat.sub_zero, and_assoc, b10, not_true_eq_false, not_false_eq_true, false_implies, true_implies, implies_true, eq_self, and_self, rf_some, rf_none]
  refine And.intro (by decide) ?_
  generalize hH : mj_up h (AD 6 0) _ = h1
  have hM1 : MHF h0 h1 AD (Xw X 0 0) A := hH ▸ hM.putX 0 0
  have hR1 : CM S (Xw X 0 0) A := hR.x0
  clear hH
  refine sX3_object_8z rfl (r_isIn (by omega) (by show 22 ≤ w - 21; omega) ?_)
  unfold op_object at hQ
  have e1 : (Xw X 0 0) 1 = nI (S_no S) := hR1.1
  have hk : (0 ≤ k ∧ k ≤ 1) ↔ (k = 0 ∨ k = 1) := by
    constructor
    · rintro ⟨q1, q2⟩
      obtain ⟨j, j1, rfl, j3⟩ := i32_of (x := k) (by (simp only [Int32.le_iff_toInt_le, Int32.lt_iff_toInt_lt, i32_eq, i32_0, i32_m1, i32_600, i32_60, i32_20, i32_99, i32_10, i32_1, i32_2] at *; omega))
      have : j = 0 ∨ j = 1 := by (simp only [Int32.le_iff_toInt_le, Int32.lt_iff_toInt_lt, i32_eq, i32_0, i32_m1, i32_600, i32_60, i32_20, i32_99, i32_10, i32_1, i32_2] at *; omega)
      rcases this with rfl | rfl
      · exact Or.inl rfl
      · exact Or.inr rfl
    · rintro (rfl | rfl) <;> decide
  simp only [hk]
  by_cases hc : k = 0 ∨ k = 1
  · rw [if_pos hc] at hQ ⊢
    have hkn : ∃ kd : Nat, k = nI kd ∧ kd ≤ 1 := by rcases hc with rfl | rfl; exact ⟨0, rfl, by omega⟩; exact ⟨1, rfl, by omega⟩
    obtain ⟨kd, rfl, hkd⟩ := hkn
    rw [nI_cl (by omega)] at hQ
    simp only [sX3_object_11, Option.some.injEq, Sum.inr.injEq, Sum.inl.injEq, Prod.mk.injEq, true_and, and_true, exists_eq_left', exists_eq_left, exists_eq_right, exists_eq_right', exists_and_left, exists_and_right, List.getElem?_cons_succ, List.getElem?_cons_zero, List.length_cons, List.length_nil, List.set_cons_zero, List.set_cons_succ, Option.toList_some, Option.toList_none, List.nil_append, List.cons_append, mj_up_s, true_or, or_true, Nat.sub_zero, and_assoc, b10, not_true_eq_false, not_false_eq_true, false_implies, true_implies, implies_true, eq_self, and_self, rf_some, rf_none, sX3_object_17, sX3_object_18, sX3_object_21, sX3_object_23, hM1.ob]
    rw [e1]
    by_cases h60 : S_no S = 60
    · rw [if_pos h60] at hQ
      refine And.intro (fun c => absurd (show nI (S_no S) = 60 by rw [h60]; rfl) c) (fun _ => ?_)
      simp only [sX3_object_26, sX3_object_28]
      exact hQ h1 ⟨_, A, hM1, hR1, Xw_s⟩
    · rw [if_neg h60] at hQ
      refine And.intro (fun _ => ?_) (fun c => absurd (fun e : nI (S_no S) = 60 => h60 ((nI_eq (by omega) (by omega)).mp (show nI _ = nI 60 from e))) c)
      have hno := nI_cl (show S_no S < 2147483648 by omega)
      have vn : vp_in (nI (S_no S)) 60 := vp_in_nI (by omega) (by decide)
      have i1 := hM1.ar 1 (by omega) (by omega)
      simp only [sX3_object_29, sX3_object_30, sX3_object_33, sX3_object_34, sX3_object_37, sX3_object_38, hM1.ob, i1, Option.some.injEq, Sum.inr.injEq, Sum.inl.injEq, Prod.mk.injEq, true_and, and_true, exists_eq_left', exists_eq_left, exists_eq_right, exists_eq_right', exists_and_left, exists_and_right, List.getElem?_cons_succ, List.getElem?_cons_zero, List.length_cons, List.length_nil, List.set_cons_zero, List.set_cons_succ, Option.toList_some, Option.toList_none, List.nil_append, List.cons_append, mj_up_s, true_or, or_true, Nat.sub_zero, and_assoc, b10, not_true_eq_false, not_false_eq_true, false_implies, true_implies, implies_true, eq_self, and_self, rf_some, rf_none]
      rw [e1, hno]
      refine And.intro vn ?_
      generalize hH : mj_up h1 (AD 6 1) _ = h2
      have hM2 : MHF h0 h2 AD (Xw X 0 0) (Aw A 1 (S_no S) (nI kd)) := hH ▸ hM1.putA 1 (S_no S) (nI kd) (by omega) (by omega)
      clear hH
      have i4 := hM2.ar 4 (by omega) (by omega)
      simp only [sX3_object_39, sX3_object_40, sX3_object_43, sX3_object_44, sX3_object_47, sX3_object_48, hM2.ob, i4, Option.some.injEq, Sum.inr.injEq, Sum.inl.injEq, Prod.mk.injEq, true_and, and_true, exists_eq_left', exists_eq_left, exists_eq_right, exists_eq_right', exists_and_left, exists_and_right, List.getElem?_cons_succ, List.getElem?_cons_zero, List.length_cons, List.length_nil, List.set_cons_zero, List.set_cons_succ, Option.toList_some, Option.toList_none, List.nil_append, List.cons_append, mj_up_s, true_or, or_true, Nat.sub_zero, and_assoc, b10, not_true_eq_false, not_false_eq_true, false_implies, true_implies, implies_true, eq_self, and_self, rf_some, rf_none]
      rw [e1, hno]
      refine And.intro vn ?_
      generalize hH : mj_up h2 (AD 6 4) _ = h3
      have hM3 : MHF h0 h3 AD (Xw X 0 0) (Aw (Aw A 1 (S_no S) (nI kd)) 4 (S_no S) (-1)) := hH ▸ hM2.putA 4 (S_no S) (-1) (by omega) (by omega)
      clear hH
      simp only [sX3_object_49, sX3_object_50, sX3_object_51, sX3_object_54, sX3_object_55, sX3_object_56, sX3_object_59, sX3_object_60, sX3_object_63, sX3_object_64, sX3_object_65, hM3.ob, nfi_3_0, ffi_3_0, nfi_3_1, ffi_3_1, nfr_3_2, ffr_3_2, nfu_3_2, ffu_3_2, nfr_3_3, ffr_3_3, nfu_3_3, ffu_3_3, nfr_3_4, ffr_3_4, nfu_3_4, ffu_3_4, nfr_3_5, ffr_3_5, nfu_3_5, ffu_3_5, nfr_3_6, ffr_3_6, nfu_3_6, ffu_3_6, nfi_3_7, ffi_3_7, nfr_3_8, ffr_3_8, nfu_3_8, ffu_3_8, nfr_3_9, ffr_3_9, nfu_3_9, ffu_3_9, nfr_3_10, ffr_3_10, nfu_3_10, ffu_3_10, nfr_3_11, ffr_3_11, nfu_3_11, ffu_3_11, nfr_3_12, ffr_3_12, nfu_3_12, ffu_3_12, nfr_3_13, ffr_3_13, nfu_3_13, ffu_3_13, nfi_3_14, ffi_3_14, nfi_3_15, ffi_3_15, nfr_3_16, ffr_3_16, nfu_3_16, ffu_3_16, nfr_3_17, ffr_3_17, nfu_3_17, ffu_3_17, nfr_3_18, ffr_3_18, nfu_3_18, ffu_3_18, nfr_3_19, ffr_3_19, nfu_3_19, ffu_3_19, nfr_3_20, ffr_3_20, nfu_3_20, ffu_3_20, nfi_3_21, ffi_3_21, Option.some.injEq, Sum.inr.injEq, Sum.inl.injEq, Prod.mk.injEq, true_and, and_true, exists_eq_left', exists_eq_left, exists_eq_right, exists_eq_right', exists_and_left, exists_and_right, List.getElem?_cons_succ, List.getElem?_cons_zero, List.length_cons, List.length_nil, List.set_cons_zero, List.set_cons_succ, Option.toList_some, Option.toList_none, List.nil_append, List.cons_append, mj_up_s, true_or, or_true, Nat.sub_zero, and_assoc, b10, not_true_eq_false, not_false_eq_true, false_implies, true_implies, implies_true, eq_self, and_self, rf_some, rf_none]
      refine And.intro (by decide) ?_
      rw [e1]
      have e2 : nI (S_no S) + 1 = nI (S_no S + 1) := nI_1 _
      have e3 : nI (S_no S + 1) - 1 = nI (S_no S) := nI_pred _
      rw [e2, e3]
      refine hQ _ ⟨Xw (Xw X 0 0) 1 (nI (S_no S + 1)), _, hM3.putX 1 (nI (S_no S + 1)), ?_, by rw [Xw_n (by omega)]; exact Xw_s⟩
      obtain ⟨r1, r2, r3, r4, r5, r6, r7⟩ := hR
      refine ⟨by rw [Xw_s, st_obj_no], by rw [Xw_n (by omega), Xw_n (by omega), r2, show S_np (st_obj S kd) = S_np S from st_obj_o (by omega) (by omega)], by rw [Xw_n (by omega), Xw_n (by omega), r3, show S_nt (st_obj S kd) = S_nt S from st_obj_o (by omega) (by omega)], fun j hj => ?_, fun j hj => ?_, fun p hp => ?_, fun j hj => ?_⟩
      · rw [st_obj_no] at hj
        by_cases he : j = S_no S
        · subst he
          have b1 : S_kd (st_obj S kd) (S_no S) = kd := (st_obj_p (by omega)).trans S_item_kd
          have b2 : S_sz (st_obj S kd) (S_no S) = 0 := (st_obj_p (by omega)).trans S_item_sz
          have b3 : S_pk (st_obj S kd) (S_no S) = 0 := (st_obj_p (by omega)).trans S_item_pk
          have b4 : S_ix (st_obj S kd) (S_no S) = 0 := (st_obj_p (by omega)).trans S_item_ix
          obtain ⟨q1, q2⟩ := r5 (S_no S) (Nat.le_refl _)
          rw [b1, b2, b3, b4, if_pos rfl]
          refine ⟨?_, ?_, ?_, fun _ => ⟨?_, fun t ht => by omega⟩⟩
          · rw [Aw_n (by omega), Aw_s, pk_us]
          · rw [Aw_s, pk_us]
          · rw [Aw_n (by omega), Aw_n (by omega), q2]; rfl
          · rw [Aw_n (by omega), Aw_n (by omega), q1]; rfl
        · obtain ⟨q1, q2, q3, q4⟩ := r4 j (by omega)
          rw [show S_kd (st_obj S kd) j = S_kd S j from st_obj_o (by omega) (by omega), show S_sz (st_obj S kd) j = S_sz S j from st_obj_o (by omega) (by omega), show S_pk (st_obj S kd) j = S_pk S j from st_obj_o (by omega) (by omega), show S_ix (st_obj S kd) j = S_ix S j from st_obj_o (by omega) (by omega)]
          refine ⟨?_, ?_, ?_, fun hz => ⟨?_, fun t ht => ?_⟩⟩
          · rw [Aw_n (by omega), Aw_s, pk_un he]; exact q1
          · rw [Aw_s, pk_un he, Aw_n (by omega)]; exact q2
          · rw [Aw_n (by omega), Aw_n (by omega)]; exact q3
          · rw [Aw_n (by omega), Aw_n (by omega)]; exact (q4 hz).1
          · rw [Aw_n (by omega), Aw_n (by omega), show S_by (st_obj S kd) j t = S_by S j t from st_obj_o (by omega) (by omega)]; exact (q4 hz).2 t ht
      · rw [st_obj_no] at hj
        rw [Aw_n (by omega), Aw_n (by omega), Aw_n (by omega), Aw_n (by omega)]
        exact r5 j (by omega)
      · have hp : p < S_np S := by rw [← show S_np (st_obj S kd) = S_np S from st_obj_o (by omega) (by omega)]; exact hp
        obtain ⟨q1, q2, q3, q4, q5⟩ := r6 p hp
        rw [Aw_n (by omega), Aw_n (by omega), Aw_n (by omega), Aw_n (by omega), Aw_n (by omega), Aw_n (by omega), Aw_n (by omega), Aw_n (by omega), Aw_n (by omega), Aw_n (by omega), show S_ct (st_obj S kd) p = S_ct S p from st_obj_o (by omega) (by omega), show S_fs (st_obj S kd) p = S_fs S p from st_obj_o (by omega) (by omega), show S_ex (st_obj S kd) p = S_ex S p from st_obj_o (by omega) (by omega), show S_pz (st_obj S kd) p = S_pz S p from st_obj_o (by omega) (by omega)]
        exact ⟨q1, q2, q3, q4, fun t ht => by rw [show S_pb (st_obj S kd) p t = S_pb S p t from st_obj_o (by omega) (by omega)]; exact q5 t ht⟩
      · have hj : j < S_nt S := by rw [← show S_nt (st_obj S kd) = S_nt S from st_obj_o (by omega) (by omega)]; exact hj
        rw [Aw_n (by omega), Aw_n (by omega), Aw_n (by omega), Aw_n (by omega), show S_tf (st_obj S kd) j = S_tf S j from st_obj_o (by omega) (by omega), show S_tp (st_obj S kd) j = S_tp S j from st_obj_o (by omega) (by omega)]
        exact r7 j hj
  · rw [if_neg hc] at hQ ⊢
    simp only [sX3_object_11, Option.some.injEq, Sum.inr.injEq, Sum.inl.injEq, Prod.mk.injEq, true_and, and_true, exists_eq_left', exists_eq_left, exists_eq_right, exists_eq_right', exists_and_left, exists_and_right, List.getElem?_cons_succ, List.getElem?_cons_zero, List.length_cons, List.length_nil, List.set_cons_zero, List.set_cons_succ, Option.toList_some, Option.toList_none, List.nil_append, List.cons_append, mj_up_s, true_or, or_true, Nat.sub_zero, and_assoc, b10, not_true_eq_false, not_false_eq_true, false_implies, true_implies, implies_true, eq_self, and_self, rf_some, rf_none, sX3_object_14, sX3_object_16]
    exact hQ h1 ⟨_, A, hM1, hR1, Xw_s⟩
theorem CM_raw (hR : CM S X A) {c fi : Nat} {X' : Nat → Int32} {A' : Nat → Nat → Int32} (hp : S_np S < 20) (x1 : X' 1 = X 1) (x7 : X' 7 = nI (S_np S + 1)) (x15 : X' 15 = X 15) (hA : ∀ j, j ≤ 13 → (j ≤ 5 ∨ 10 ≤ j) → j ≠ 11 → A' j = A j)
    (h6 : A' 6 = upd (A 6) (S_np S) (nI c)) (h7 : A' 7 = upd (A 7) (S_np S) (nI fi)) (h8 : A' 8 = upd (A 8) (S_np S) (-1)) (h9 : A' 9 = upd (A 9) (S_np S) 0) : CM (st_raw S c fi) X' A' := by
  obtain ⟨r1, r2, r3, r4, r5, r6, r7⟩ := hR
  have e0 : S_no (st_raw S c fi) = S_no S := st_raw_o (by omega) (by omega)
  have e12 : S_nt (st_raw S c fi) = S_nt S := st_raw_o (by omega) (by omega)
  refine ⟨by rw [x1, r1, e0], by rw [x7, st_raw_np], by rw [x15, r3, e12], fun j hj => ?_, fun j hj => ?_, fun p hp => ?_, fun j hj => ?_⟩
  · obtain ⟨q1, q2, q3, q4⟩ := r4 j (by omega)
    rw [hA 1 (by omega) (by omega) (by omega), hA 2 (by omega) (by omega) (by omega), hA 3 (by omega) (by omega) (by omega), hA 4 (by omega) (by omega) (by omega), hA 5 (by omega) (by omega) (by omega), show S_kd (st_raw S c fi) j = S_kd S j from st_raw_o (by omega) (by omega), show S_sz (st_raw S c fi) j = S_sz S j from st_raw_o (by omega) (by omega), show S_pk (st_raw S c fi) j = S_pk S j from st_raw_o (by omega) (by omega), show S_ix (st_raw S c fi) j = S_ix S j from st_raw_o (by omega) (by omega)]
    exact ⟨q1, q2, q3, fun hz => ⟨(q4 hz).1, fun t ht => by rw [show S_by (st_raw S c fi) j t = S_by S j t from st_raw_o (by omega) (by omega)]; exact (q4 hz).2 t ht⟩⟩
  · rw [hA 2 (by omega) (by omega) (by omega), hA 5 (by omega) (by omega) (by omega)]; exact r5 j (by omega)
  · rw [st_raw_np] at hp
    rw [h6, h7, h8, h9, hA 10 (by omega) (by omega) (by omega)]
    by_cases he : p = S_np S
    · subst he
      have b1 : S_ct (st_raw S c fi) (S_np S) = c := (st_raw_p (by omega)).trans S_pack_ct
      have b2 : S_fs (st_raw S c fi) (S_np S) = fi := (st_raw_p (by omega)).trans S_pack_fs
      have b3 : S_ex (st_raw S c fi) (S_np S) = 0 := (st_raw_p (by omega)).trans S_pack_ex
      have b4 : S_pz (st_raw S c fi) (S_np S) = 0 := (st_raw_p (by omega)).trans S_pack_pz
      rw [b1, b2, b3, b4, if_pos rfl]
      exact ⟨pk_us, pk_us, pk_us, pk_us, fun t ht => by omega⟩
    · obtain ⟨q1, q2, q3, q4, q5⟩ := r6 p (by omega)
      rw [pk_un he, pk_un he, pk_un he, pk_un he, show S_ct (st_raw S c fi) p = S_ct S p from st_raw_o (by omega) (by omega), show S_fs (st_raw S c fi) p = S_fs S p from st_raw_o (by omega) (by omega), show S_ex (st_raw S c fi) p = S_ex S p from st_raw_o (by omega) (by omega), show S_pz (st_raw S c fi) p = S_pz S p from st_raw_o (by omega) (by omega)]
      exact ⟨q1, q2, q3, q4, fun t ht => by rw [show S_pb (st_raw S c fi) p t = S_pb S p t from st_raw_o (by omega) (by omega)]; exact q5 t ht⟩
  · rw [hA 12 (by omega) (by omega) (by omega), hA 13 (by omega) (by omega) (by omega), show S_tf (st_raw S c fi) j = S_tf S j from st_raw_o (by omega) (by omega), show S_tp (st_raw S c fi) j = S_tp S j from st_raw_o (by omega) (by omega)]
    exact r7 j (by omega)
set_option maxRecDepth 100000 in
theorem r_raw (hf : 2 ≤ f) (hw : 44 ≤ w) (hM : MHF h0 h AD X A) (hR : CM S X A) (hW : WF S) {c fi : Int32} (hQ : ∀ h', RK h0 AD (op_raw S c fi).2 0 h' → Q (some (.int (op_raw S c fi).1)) h' n) : mj_bk f w 77 [.ref (AD 6 0), .int c, .int fi] h n mc ms Q := by
  have w1 := hW.2.1
  refine mj_begin (by omega) (by decide) (by show 22 ≤ w; omega) rfl ?_
  show mj_W _ _ 77 mj_noZ Q 0 [.ref (AD 6 0), .int c, .int fi] [] h n mc ms
  simp only [sX3_raw_0, sX3_raw_1, sX3_raw_2, sX3_raw_5, sX3_raw_6, sX3_raw_7, sX3_raw_12, sX3_raw_15, sX3_raw_16, sX3_raw_17, sX3_raw_23, sX3_raw_26, sX3_raw_28, sX3_raw_29, sX3_raw_30, sX3_raw_33, sX3_raw_35, sX3_raw_38, sX3_raw_40, sX3_raw_41, sX3_raw_42, sX3_raw_45, sX3_raw_46, sX3_raw_49, sX3_raw_50, sX3_raw_51, sX3_raw_52, sX3_raw_55, sX3_raw_56, sX3_raw_59, sX3_raw_60, sX3_raw_61, sX3_raw_62, sX3_raw_65, sX3_raw_66, sX3_raw_69, sX3_raw_70, sX3_raw_71, sX3_raw_72, sX3_raw_75, sX3_raw_76, sX3_raw_79, sX3_raw_80, sX3_raw_81, sX3_raw_82, sX3_raw_83, sX3_raw_86, sX3_raw_87, sX3_raw_88, sX3_raw_91, sX3_raw_92, sX3_raw_95, sX3_raw_96, sX3_raw_97, hM.ob, nfi_3_0, ffi_3_0, nfi_3_1, ffi_3_1, nfr_3_2, ffr_3_2, nfu_3_2, ffu_3_2, nfr_3_3, ffr_3_3, nfu_3_3, ffu_3_3, nfr_3_4, ffr_3_4, nfu_3_4, ffu_3_4, nfr_3_5, ffr_3_5, nfu_3_5, ffu_3_5, nfr_3_6, ffr_3_6, nfu_3_6, ffu_3_6, nfi_3_7, ffi_3_7, nfr_3_8, ffr_3_8, nfu_3_8, ffu_3_8, nfr_3_9, ffr_3_9, nfu_3_9, ffu_3_9, nfr_3_10, ffr_3_10, nfu_3_10, ffu_3_10, nfr_3_11, ffr_3_11, nfu_3_11, ffu_3_11, nfr_3_12, ffr_3_12, nfu_3_12, ffu_3_12, nfr_3_13, ffr_3_13, nfu_3_13, ffu_3_13, nfi_3_14, ffi_3_14, nfi_3_15, ffi_3_15, nfr_3_16, ffr_3_16, nfu_3_16, ffu_3_16, nfr_3_17, ffr_3_17, nfu_3_17, ffu_3_17, nfr_3_18, ffr_3_18, nfu_3_18, ffu_3_18, nfr_3_19, ffr_3_19, nfu_3_19, ffu_3_19, nfr_3_20, ffr_3_20, nfu_3_20, ffu_3_20, nfi_3_21, ffi_3_21, Option.some.injEq, Sum.inr.injEq, Sum.inl.injEq, Prod.mk.injEq, true_and, and_true, exists_eq_left', exists_eq_left, exists_eq_right, exists_eq_right', exists_and_left, exists_and_right, List.getElem?_cons_succ, List.getElem?_cons_zero, List.length_cons, List.length_nil, List.set_cons_zero, List.set_cons_succ, Option.toList_some, Option.toList_none, List.nil_append, List.cons_append, mj_up_s, true_or, or_true, Nat.sub_zero, and_assoc, b10, not_true_eq_false, not_false_eq_true, false_implies, true_implies, implies_true, eq_self, and_self, rf_some, rf_none]
  refine And.intro (by decide) ?_
  generalize hH : mj_up h (AD 6 0) _ = h1
  have hM1 : MHF h0 h1 AD (Xw X 0 0) A := hH ▸ hM.putX 0 0
  have hR1 : CM S (Xw X 0 0) A := hR.x0
  clear hH
  refine sX3_raw_9z rfl (r_isIn (by omega) (by show 22 ≤ w - 22; omega) ?_)
  unfold op_raw at hQ
  have e1 : (Xw X 0 0) 7 = nI (S_np S) := hR1.2.1
  by_cases hc1 : 0 ≤ c ∧ c ≤ 99
  · rw [if_pos hc1]
    simp only [sX3_raw_12, Option.some.injEq, Sum.inr.injEq, Sum.inl.injEq, Prod.mk.injEq, true_and, and_true, exists_eq_left', exists_eq_left, exists_eq_right, exists_eq_right', exists_and_left, exists_and_right, List.getElem?_cons_succ, List.getElem?_cons_zero, List.length_cons, List.length_nil, List.set_cons_zero, List.set_cons_succ, Option.toList_some, Option.toList_none, List.nil_append, List.cons_append, mj_up_s, true_or, or_true, Nat.sub_zero, and_assoc, b10, not_true_eq_false, not_false_eq_true, false_implies, true_implies, implies_true, eq_self, and_self, rf_some, rf_none, sX3_raw_15, sX3_raw_16, sX3_raw_17]
    refine sX3_raw_20z rfl (r_isIn (by omega) (by show 22 ≤ w - 22; omega) ?_)
    by_cases hc2 : 0 ≤ fi ∧ fi ≤ 600
    · rw [if_pos hc2]
      rw [if_pos ⟨hc1, hc2⟩] at hQ
      obtain ⟨u, u1, rfl, u3⟩ := i32_of (x := c) (by clear hQ hM1 hR1; (simp only [Int32.le_iff_toInt_le, Int32.lt_iff_toInt_lt, i32_eq, i32_0, i32_m1, i32_600, i32_60, i32_20, i32_99, i32_10, i32_1, i32_2] at *; omega))
      obtain ⟨v, v1, rfl, v3⟩ := i32_of (x := fi) (by clear hQ hM1 hR1; (simp only [Int32.le_iff_toInt_le, Int32.lt_iff_toInt_lt, i32_eq, i32_0, i32_m1, i32_600, i32_60, i32_20, i32_99, i32_10, i32_1, i32_2] at *; omega))
      rw [nI_cl u1, nI_cl v1] at hQ
      simp only [sX3_raw_23, Option.some.injEq, Sum.inr.injEq, Sum.inl.injEq, Prod.mk.injEq, true_and, and_true, exists_eq_left', exists_eq_left, exists_eq_right, exists_eq_right', exists_and_left, exists_and_right, List.getElem?_cons_succ, List.getElem?_cons_zero, List.length_cons, List.length_nil, List.set_cons_zero, List.set_cons_succ, Option.toList_some, Option.toList_none, List.nil_append, List.cons_append, mj_up_s, true_or, or_true, Nat.sub_zero, and_assoc, b10, not_true_eq_false, not_false_eq_true, false_implies, true_implies, implies_true, eq_self, and_self, rf_some, rf_none, sX3_raw_29, sX3_raw_30, sX3_raw_33, sX3_raw_35, hM1.ob]
      rw [e1]
      by_cases h20 : S_np S = 20
      · rw [if_pos h20] at hQ
        refine And.intro (fun c => absurd (show nI (S_np S) = 20 by rw [h20]; rfl) c) (fun _ => ?_)
        simp only [sX3_raw_38, sX3_raw_40]
        exact hQ h1 ⟨_, A, hM1, hR1, Xw_s⟩
      · rw [if_neg h20] at hQ
        refine And.intro (fun _ => ?_) (fun c => absurd (fun e : nI (S_np S) = 20 => h20 ((nI_eq (by omega) (by omega)).mp (show nI _ = nI 20 from e))) c)
        have hnp := nI_cl (show S_np S < 2147483648 by omega)
        have vn : vp_in (nI (S_np S)) 20 := vp_in_nI (by omega) (by decide)
        have i6 := hM1.ar 6 (by omega) (by omega)
        simp only [sX3_raw_41, sX3_raw_42, sX3_raw_45, sX3_raw_46, sX3_raw_49, sX3_raw_50, hM1.ob, i6, Option.some.injEq, Sum.inr.injEq, Sum.inl.injEq, Prod.mk.injEq, true_and, and_true, exists_eq_left', exists_eq_left, exists_eq_right, exists_eq_right', exists_and_left, exists_and_right, List.getElem?_cons_succ, List.getElem?_cons_zero, List.length_cons, List.length_nil, List.set_cons_zero, List.set_cons_succ, Option.toList_some, Option.toList_none, List.nil_append, List.cons_append, mj_up_s, true_or, or_true, Nat.sub_zero, and_assoc, b10, not_true_eq_false, not_false_eq_true, false_implies, true_implies, implies_true, eq_self, and_self, rf_some, rf_none]
        rw [e1, hnp]
        refine And.intro vn ?_
        generalize hH : mj_up h1 (AD 6 6) _ = h2
        have hM2 : MHF h0 h2 AD (Xw X 0 0) (Aw A 6 (S_np S) (nI u)) := hH ▸ hM1.putA 6 (S_np S) (nI u) (by omega) (by omega)
        clear hH
        have i7 := hM2.ar 7 (by omega) (by omega)
        simp only [sX3_raw_51, sX3_raw_52, sX3_raw_55, sX3_raw_56, sX3_raw_59, sX3_raw_60, hM2.ob, i7, Option.some.injEq, Sum.inr.injEq, Sum.inl.injEq, Prod.mk.injEq, true_and, and_true, exists_eq_left', exists_eq_left, exists_eq_right, exists_eq_right', exists_and_left, exists_and_right, List.getElem?_cons_succ, List.getElem?_cons_zero, List.length_cons, List.length_nil, List.set_cons_zero, List.set_cons_succ, Option.toList_some, Option.toList_none, List.nil_append, List.cons_append, mj_up_s, true_or, or_true, Nat.sub_zero, and_assoc, b10, not_true_eq_false, not_false_eq_true, false_implies, true_implies, implies_true, eq_self, and_self, rf_some, rf_none]
        rw [e1, hnp]
        refine And.intro vn ?_
        generalize hH : mj_up h2 (AD 6 7) _ = h3
        have hM3 : MHF h0 h3 AD (Xw X 0 0) (Aw (Aw A 6 (S_np S) (nI u)) 7 (S_np S) (nI v)) := hH ▸ hM2.putA 7 (S_np S) (nI v) (by omega) (by omega)
        clear hH
        have i8 := hM3.ar 8 (by omega) (by omega)
        simp only [sX3_raw_61, sX3_raw_62, sX3_raw_65, sX3_raw_66, sX3_raw_69, sX3_raw_70, hM3.ob, i8, Option.some.injEq, Sum.inr.injEq, Sum.inl.injEq, Prod.mk.injEq, true_and, and_true, exists_eq_left', exists_eq_left, exists_eq_right, exists_eq_right', exists_and_left, exists_and_right, List.getElem?_cons_succ, List.getElem?_cons_zero, List.length_cons, List.length_nil, List.set_cons_zero, List.set_cons_succ, Option.toList_some, Option.toList_none, List.nil_append, List.cons_append, mj_up_s, true_or, or_true, Nat.sub_zero, and_assoc, b10, not_true_eq_false, not_false_eq_true, false_implies, true_implies, implies_true, eq_self, and_self, rf_some, rf_none]
        rw [e1, hnp]
        refine And.intro vn ?_
        generalize hH : mj_up h3 (AD 6 8) _ = h4
        have hM4 : MHF h0 h4 AD (Xw X 0 0) (Aw (Aw (Aw A 6 (S_np S) (nI u)) 7 (S_np S) (nI v)) 8 (S_np S) (-1)) := hH ▸ hM3.putA 8 (S_np S) (-1) (by omega) (by omega)
        clear hH
        have i9 := hM4.ar 9 (by omega) (by omega)
        simp only [sX3_raw_71, sX3_raw_72, sX3_raw_75, sX3_raw_76, sX3_raw_79, sX3_raw_80, hM4.ob, i9, Option.some.injEq, Sum.inr.injEq, Sum.inl.injEq, Prod.mk.injEq, true_and, and_true, exists_eq_left', exists_eq_left, exists_eq_right, exists_eq_right', exists_and_left, exists_and_right, List.getElem?_cons_succ, List.getElem?_cons_zero, List.length_cons, List.length_nil, List.set_cons_zero, List.set_cons_succ, Option.toList_some, Option.toList_none, List.nil_append, List.cons_append, mj_up_s, true_or, or_true, Nat.sub_zero, and_assoc, b10, not_true_eq_false, not_false_eq_true, false_implies, true_implies, implies_true, eq_self, and_self, rf_some, rf_none]
        rw [e1, hnp]
        refine And.intro vn ?_
        generalize hH : mj_up h4 (AD 6 9) _ = h5
        have hM5 : MHF h0 h5 AD (Xw X 0 0) (Aw (Aw (Aw (Aw A 6 (S_np S) (nI u)) 7 (S_np S) (nI v)) 8 (S_np S) (-1)) 9 (S_np S) 0) := hH ▸ hM4.putA 9 (S_np S) 0 (by omega) (by omega)
        clear hH
        simp only [sX3_raw_81, sX3_raw_82, sX3_raw_83, sX3_raw_86, sX3_raw_87, sX3_raw_88, sX3_raw_91, sX3_raw_92, sX3_raw_95, sX3_raw_96, sX3_raw_97, hM5.ob, nfi_3_0, ffi_3_0, nfi_3_1, ffi_3_1, nfr_3_2, ffr_3_2, nfu_3_2, ffu_3_2, nfr_3_3, ffr_3_3, nfu_3_3, ffu_3_3, nfr_3_4, ffr_3_4, nfu_3_4, ffu_3_4, nfr_3_5, ffr_3_5, nfu_3_5, ffu_3_5, nfr_3_6, ffr_3_6, nfu_3_6, ffu_3_6, nfi_3_7, ffi_3_7, nfr_3_8, ffr_3_8, nfu_3_8, ffu_3_8, nfr_3_9, ffr_3_9, nfu_3_9, ffu_3_9, nfr_3_10, ffr_3_10, nfu_3_10, ffu_3_10, nfr_3_11, ffr_3_11, nfu_3_11, ffu_3_11, nfr_3_12, ffr_3_12, nfu_3_12, ffu_3_12, nfr_3_13, ffr_3_13, nfu_3_13, ffu_3_13, nfi_3_14, ffi_3_14, nfi_3_15, ffi_3_15, nfr_3_16, ffr_3_16, nfu_3_16, ffu_3_16, nfr_3_17, ffr_3_17, nfu_3_17, ffu_3_17, nfr_3_18, ffr_3_18, nfu_3_18, ffu_3_18, nfr_3_19, ffr_3_19, nfu_3_19, ffu_3_19, nfr_3_20, ffr_3_20, nfu_3_20, ffu_3_20, nfi_3_21, ffi_3_21, Option.some.injEq, Sum.inr.injEq, Sum.inl.injEq, Prod.mk.injEq, true_and, and_true, exists_eq_left', exists_eq_left, exists_eq_right, exists_eq_right', exists_and_left, exists_and_right, List.getElem?_cons_succ, List.getElem?_cons_zero, List.length_cons, List.length_nil, List.set_cons_zero, List.set_cons_succ, Option.toList_some, Option.toList_none, List.nil_append, List.cons_append, mj_up_s, true_or, or_true, Nat.sub_zero, and_assoc, b10, not_true_eq_false, not_false_eq_true, false_implies, true_implies, implies_true, eq_self, and_self, rf_some, rf_none]
        refine And.intro (by decide) ?_
        rw [e1]
        have e2 : nI (S_np S) + 1 = nI (S_np S + 1) := nI_1 _
        have e3 : nI (S_np S + 1) - 1 = nI (S_np S) := nI_pred _
        rw [e2, e3]
        refine hQ _ ⟨Xw (Xw X 0 0) 7 (nI (S_np S + 1)), _, hM5.putX 7 (nI (S_np S + 1)), ?_, by rw [Xw_n (by omega)]; exact Xw_s⟩
        refine CM_raw hR (by omega) (by rw [Xw_n (by omega), Xw_n (by omega)]) Xw_s (by rw [Xw_n (by omega), Xw_n (by omega)]) (fun j h1 h2 h3 => ?_) ?_ ?_ ?_ ?_
        · rw [Aw_n (by omega), Aw_n (by omega), Aw_n (by omega), Aw_n (by omega)]
        · rw [Aw_n (by omega), Aw_n (by omega), Aw_n (by omega), Aw_s]
        · rw [Aw_n (by omega), Aw_n (by omega), Aw_s, Aw_n (by omega)]
        · rw [Aw_n (by omega), Aw_s, Aw_n (by omega), Aw_n (by omega)]
        · rw [Aw_s, Aw_n (by omega), Aw_n (by omega), Aw_n (by omega)]
    · rw [if_neg hc2]
      rw [if_neg (fun z => hc2 z.2)] at hQ
      simp only [sX3_raw_23, Option.some.injEq, Sum.inr.injEq, Sum.inl.injEq, Prod.mk.injEq, true_and, and_true, exists_eq_left', exists_eq_left, exists_eq_right, exists_eq_right', exists_and_left, exists_and_right, List.getElem?_cons_succ, List.getElem?_cons_zero, List.length_cons, List.length_nil, List.set_cons_zero, List.set_cons_succ, Option.toList_some, Option.toList_none, List.nil_append, List.cons_append, mj_up_s, true_or, or_true, Nat.sub_zero, and_assoc, b10, not_true_eq_false, not_false_eq_true, false_implies, true_implies, implies_true, eq_self, and_self, rf_some, rf_none, sX3_raw_26, sX3_raw_28]
      exact hQ h1 ⟨_, A, hM1, hR1, Xw_s⟩
  · rw [if_neg hc1]
    rw [if_neg (fun z => hc1 z.1)] at hQ
    simp only [sX3_raw_12, Option.some.injEq, Sum.inr.injEq, Sum.inl.injEq, Prod.mk.injEq, true_and, and_true, exists_eq_left', exists_eq_left, exists_eq_right, exists_eq_right', exists_and_left, exists_and_right, List.getElem?_cons_succ, List.getElem?_cons_zero, List.length_cons, List.length_nil, List.set_cons_zero, List.set_cons_succ, Option.toList_some, Option.toList_none, List.nil_append, List.cons_append, mj_up_s, true_or, or_true, Nat.sub_zero, and_assoc, b10, not_true_eq_false, not_false_eq_true, false_implies, true_implies, implies_true, eq_self, and_self, rf_some, rf_none, sX3_raw_26, sX3_raw_28]
    exact hQ h1 ⟨_, A, hM1, hR1, Xw_s⟩
set_option maxRecDepth 100000 in
theorem r_addOne (hf : 1 ≤ f) (hw : 22 ≤ w) (hM : MHF h0 h AD X A) {p z v : Nat} (hp : p < 20) (hz : A 9 p = nI z) (hz2 : z < 600) (hQ : ∀ h', MHF h0 h' AD X (Aw (Aw A 10 (600 * p + z) (nI v)) 9 p (nI (z + 1))) → Q none h' n) : mj_bk f w 74 [.ref (AD 6 0), .int (nI p), .int (nI v)] h n mc ms Q := by
  have cp := nI_cl (show p < 2147483648 by omega)
  have vp : vp_in (nI p) 20 := vp_in_nI hp (by decide)
  have h9 := hM.ar 9 (by omega) (by omega)
  have h10 := hM.ar 10 (by omega) (by omega)
  have e1 : (600 : Int32) * nI p + nI z = nI (600 * p + z) := by rw [show (600 : Int32) = nI 600 from rfl, pk_mul, nI_add]
  refine mj_begin (by omega) (by decide) (by show 22 ≤ w; omega) rfl ?_
  show mj_W _ _ 74 mj_noZ Q 0 [.ref (AD 6 0), .int (nI p), .int (nI v)] [] h n mc ms
  simp only [sX3_addOne_0, sX3_addOne_1, sX3_addOne_4, sX3_addOne_7, sX3_addOne_8, sX3_addOne_9, sX3_addOne_10, sX3_addOne_13, sX3_addOne_14, sX3_addOne_15, sX3_addOne_16, sX3_addOne_17, sX3_addOne_19, sX3_addOne_22, sX3_addOne_23, sX3_addOne_24, sX3_addOne_25, sX3_addOne_26, sX3_addOne_27, sX3_addOne_28, hM.ob, h9, h10, Option.some.injEq, Sum.inr.injEq, Sum.inl.injEq, Prod.mk.injEq, true_and, and_true, exists_eq_left', exists_eq_left, exists_eq_right, exists_eq_right', exists_and_left, exists_and_right, List.getElem?_cons_succ, List.getElem?_cons_zero, List.length_cons, List.length_nil, List.set_cons_zero, List.set_cons_succ, Option.toList_some, Option.toList_none, List.nil_append, List.cons_append, mj_up_s, true_or, or_true, Nat.sub_zero, and_assoc, b10, not_true_eq_false, not_false_eq_true, false_implies, true_implies, implies_true, eq_self, and_self, rf_some, rf_none, cp, hz, e1, nI_cl (show 600 * p + z < 2147483648 by omega)]
  refine And.intro vp (And.intro (vp_in_nI (show _ < 12000 by omega) (by decide)) ?_)
  generalize hH : mj_up h (AD 6 10) _ = h2
  have hM2 : MHF h0 h2 AD X (Aw A 10 (600 * p + z) (nI v)) := hH ▸ hM.putA 10 (600 * p + z) (nI v) (by omega) (by omega)
  clear hH
  have k9 := hM2.ar 9 (by omega) (by omega)
  rw [Aw_n (by omega)] at k9
  have e2 : nI z + 1 = nI (z + 1) := nI_1 _
  rw [sX3_addOne_18]
  simp only [sX3_addOne_0, sX3_addOne_1, sX3_addOne_4, sX3_addOne_7, sX3_addOne_8, sX3_addOne_9, sX3_addOne_10, sX3_addOne_13, sX3_addOne_14, sX3_addOne_15, sX3_addOne_16, sX3_addOne_17, sX3_addOne_19, sX3_addOne_22, sX3_addOne_23, sX3_addOne_24, sX3_addOne_25, sX3_addOne_26, sX3_addOne_27, sX3_addOne_28, hM2.ob, k9, Option.some.injEq, Sum.inr.injEq, Sum.inl.injEq, Prod.mk.injEq, true_and, and_true, exists_eq_left', exists_eq_left, exists_eq_right, exists_eq_right', exists_and_left, exists_and_right, List.getElem?_cons_succ, List.getElem?_cons_zero, List.length_cons, List.length_nil, List.set_cons_zero, List.set_cons_succ, Option.toList_some, Option.toList_none, List.nil_append, List.cons_append, mj_up_s, true_or, or_true, Nat.sub_zero, and_assoc, b10, not_true_eq_false, not_false_eq_true, false_implies, true_implies, implies_true, eq_self, and_self, rf_some, rf_none, cp, hz, e2]
  refine And.intro vp (And.intro vp ?_)
  have hM3 := hM2.putA 9 p (nI (z + 1)) (by omega) (by omega)
  rw [Aw_n (by omega)] at hM3
  exact hQ _ hM3
set_option maxRecDepth 100000 in
theorem r_add (hf : 3 ≤ f) (hw : 65 ≤ w) (hM : MHF h0 h AD X A) (hR : CM S X A) (hW : WF S) {p : Int32} {c : Nat} (hc256 : c < 256) (hQ : ∀ h', RK h0 AD (op_add S p c).2 0 h' → Q (some (.int (op_add S p c).1)) h' n) : mj_bk f w 78 [.ref (AD 6 0), .int p, .int (bS c)] h n mc ms Q := by
  have w1 := hW.2.1
  refine mj_begin (by omega) (by decide) (by show 22 ≤ w; omega) rfl ?_
  show mj_W _ _ 78 mj_noZ Q 0 [.ref (AD 6 0), .int p, .int (bS c)] [] h n mc ms
  simp only [sX3_add_0, sX3_add_1, sX3_add_2, sX3_add_5, sX3_add_6, sX3_add_10, sX3_add_13, sX3_add_15, sX3_add_16, sX3_add_17, sX3_add_20, sX3_add_21, sX3_add_22, sX3_add_25, sX3_add_28, sX3_add_30, sX3_add_31, sX3_add_32, sX3_add_33, sX3_add_34, sX3_add_37, sX3_add_41, sX3_add_42, sX3_add_45, sX3_add_46, sX3_add_47, hM.ob, nfi_3_0, ffi_3_0, nfi_3_1, ffi_3_1, nfr_3_2, ffr_3_2, nfu_3_2, ffu_3_2, nfr_3_3, ffr_3_3, nfu_3_3, ffu_3_3, nfr_3_4, ffr_3_4, nfu_3_4, ffu_3_4, nfr_3_5, ffr_3_5, nfu_3_5, ffu_3_5, nfr_3_6, ffr_3_6, nfu_3_6, ffu_3_6, nfi_3_7, ffi_3_7, nfr_3_8, ffr_3_8, nfu_3_8, ffu_3_8, nfr_3_9, ffr_3_9, nfu_3_9, ffu_3_9, nfr_3_10, ffr_3_10, nfu_3_10, ffu_3_10, nfr_3_11, ffr_3_11, nfu_3_11, ffu_3_11, nfr_3_12, ffr_3_12, nfu_3_12, ffu_3_12, nfr_3_13, ffr_3_13, nfu_3_13, ffu_3_13, nfi_3_14, ffi_3_14, nfi_3_15, ffi_3_15, nfr_3_16, ffr_3_16, nfu_3_16, ffu_3_16, nfr_3_17, ffr_3_17, nfu_3_17, ffu_3_17, nfr_3_18, ffr_3_18, nfu_3_18, ffu_3_18, nfr_3_19, ffr_3_19, nfu_3_19, ffu_3_19, nfr_3_20, ffr_3_20, nfu_3_20, ffu_3_20, nfi_3_21, ffi_3_21, Option.some.injEq, Sum.inr.injEq, Sum.inl.injEq, Prod.mk.injEq, true_and, and_true, exists_eq_left', exists_eq_left, exists_eq_right, exists_eq_right', exists_and_left, exists_and_right, List.getElem?_cons_succ, List.getElem?_cons_zero, List.length_cons, List.length_nil, List.set_cons_zero, List.set_cons_succ, Option.toList_some, Option.toList_none, List.nil_append, List.cons_append, mj_up_s, true_or, or_true, Nat.sub_zero, and_assoc, b10, not_true_eq_false, not_false_eq_true, false_implies, true_implies, implies_true, eq_self, and_self, rf_some, rf_none]
  refine And.intro (by decide) ?_
  generalize hH : mj_up h (AD 6 0) _ = h1
  have hM1 : MHF h0 h1 AD (Xw X 0 0) A := hH ▸ hM.putX 0 0
  have hR1 : CM S (Xw X 0 0) A := hR.x0
  clear hH
  refine sX3_add_7z hM1.ob rfl (r_isPack (by omega) (by show 43 ≤ w - 22; omega) hM1 hR1 hW ?_)
  unfold op_add at hQ
  by_cases hc : pkI S p = true
  · rw [if_pos hc] at hQ ⊢
    obtain ⟨q, rfl, j1, j2⟩ := cl_iff.mp hc
    rw [nI_cl j1] at hQ
    obtain ⟨a6, a7, a8, a9, a10⟩ := hR.2.2.2.2.2.1 q j2
    obtain ⟨p1, p2, p3, p4⟩ := (hW.2.2.2.2.2 q j2).1
    have vq : vp_in (nI q) 20 := vp_in_nI (by omega) (by decide)
    have i9 := hM1.ar 9 (by omega) (by omega)
    simp only [sX3_add_0, sX3_add_1, sX3_add_2, sX3_add_5, sX3_add_6, sX3_add_10, sX3_add_13, sX3_add_15, sX3_add_16, sX3_add_17, sX3_add_20, sX3_add_21, sX3_add_22, sX3_add_25, sX3_add_28, sX3_add_30, sX3_add_31, sX3_add_32, sX3_add_33, sX3_add_34, sX3_add_37, sX3_add_41, sX3_add_42, sX3_add_45, sX3_add_46, sX3_add_47, hM1.ob, i9, Option.some.injEq, Sum.inr.injEq, Sum.inl.injEq, Prod.mk.injEq, true_and, and_true, exists_eq_left', exists_eq_left, exists_eq_right, exists_eq_right', exists_and_left, exists_and_right, List.getElem?_cons_succ, List.getElem?_cons_zero, List.length_cons, List.length_nil, List.set_cons_zero, List.set_cons_succ, Option.toList_some, Option.toList_none, List.nil_append, List.cons_append, mj_up_s, true_or, or_true, Nat.sub_zero, and_assoc, b10, not_true_eq_false, not_false_eq_true, false_implies, true_implies, implies_true, eq_self, and_self, rf_some, rf_none, nI_cl j1, a9, bS_and2 hc256]
    refine And.intro vq ?_
    by_cases hs : S_pz S q = 600
    · rw [if_pos hs] at hQ
      exact And.intro (fun c => absurd (show nI (S_pz S q) = 600 by rw [hs]; rfl) c) (fun _ => hQ h1 ⟨_, A, hM1, hR1, Xw_s⟩)
    · rw [if_neg hs] at hQ
      refine And.intro (fun _ => ?_) (fun c => absurd (fun e : nI (S_pz S q) = 600 => hs ((nI_eq (by omega) (by omega)).mp (show nI _ = nI 600 from e))) c)
      refine sX3_add_38z hM1.ob rfl (r_addOne (z := S_pz S q) (by omega) (by show 22 ≤ w - 22; omega) hM1 (by omega) a9 (by omega) (fun h2 hM2 => ?_))
      have k9 := hM2.ar 9 (by omega) (by omega)
      rw [Aw_s] at k9
      simp only [sX3_add_0, sX3_add_1, sX3_add_2, sX3_add_5, sX3_add_6, sX3_add_10, sX3_add_13, sX3_add_15, sX3_add_16, sX3_add_17, sX3_add_20, sX3_add_21, sX3_add_22, sX3_add_25, sX3_add_28, sX3_add_30, sX3_add_31, sX3_add_32, sX3_add_33, sX3_add_34, sX3_add_37, sX3_add_41, sX3_add_42, sX3_add_45, sX3_add_46, sX3_add_47, hM2.ob, k9, Option.some.injEq, Sum.inr.injEq, Sum.inl.injEq, Prod.mk.injEq, true_and, and_true, exists_eq_left', exists_eq_left, exists_eq_right, exists_eq_right', exists_and_left, exists_and_right, List.getElem?_cons_succ, List.getElem?_cons_zero, List.length_cons, List.length_nil, List.set_cons_zero, List.set_cons_succ, Option.toList_some, Option.toList_none, List.nil_append, List.cons_append, mj_up_s, true_or, or_true, Nat.sub_zero, and_assoc, b10, not_true_eq_false, not_false_eq_true, false_implies, true_implies, implies_true, eq_self, and_self, rf_some, rf_none, nI_cl j1, pk_us]
      refine And.intro vq ?_
      refine hQ h2 ⟨_, _, hM2, ?_, Xw_s⟩
      refine CM_pack hR hW j2 S_pack_same (Xw_n (by omega)) (Xw_n (by omega)) (Xw_n (by omega)) (fun j h1 h2 => ?_) (fun k hk => ?_) (fun x hx => ?_) ⟨?_, ?_, ?_, ?_, fun j hj => ?_⟩
      · rw [Aw_n (by omega), Aw_n (by omega)]
      · refine ⟨?_, ?_, ?_, ?_⟩
        · rw [Aw_n (by omega), Aw_n (by omega)]
        · rw [Aw_n (by omega), Aw_n (by omega)]
        · rw [Aw_n (by omega), Aw_n (by omega)]
        · rw [Aw_s, pk_un hk, Aw_n (by omega)]
      · rw [Aw_n (by omega), Aw_s, pk_un (by omega)]
      · rw [Aw_n (by omega), Aw_n (by omega), S_pack_ct]; exact a6
      · rw [Aw_n (by omega), Aw_n (by omega), S_pack_fs]; exact a7
      · rw [Aw_n (by omega), Aw_n (by omega), S_pack_ex]; exact a8
      · rw [Aw_s, pk_us, S_pack_pz]
      · rw [S_pack_pz] at hj
        rw [Aw_n (by omega), Aw_s, S_pack_pb]
        by_cases hjs : j = S_pz S q
        · subst hjs; rw [pk_us, updN_s]
        · rw [pk_un (by omega), updN_n hjs]; exact a10 j (by omega)
  · rw [if_neg hc] at hQ ⊢
    simp only [sX3_add_0, sX3_add_1, sX3_add_2, sX3_add_5, sX3_add_6, sX3_add_10, sX3_add_13, sX3_add_15, sX3_add_16, sX3_add_17, sX3_add_20, sX3_add_21, sX3_add_22, sX3_add_25, sX3_add_28, sX3_add_30, sX3_add_31, sX3_add_32, sX3_add_33, sX3_add_34, sX3_add_37, sX3_add_41, sX3_add_42, sX3_add_45, sX3_add_46, sX3_add_47, Option.some.injEq, Sum.inr.injEq, Sum.inl.injEq, Prod.mk.injEq, true_and, and_true, exists_eq_left', exists_eq_left, exists_eq_right, exists_eq_right', exists_and_left, exists_and_right, List.getElem?_cons_succ, List.getElem?_cons_zero, List.length_cons, List.length_nil, List.set_cons_zero, List.set_cons_succ, Option.toList_some, Option.toList_none, List.nil_append, List.cons_append, mj_up_s, true_or, or_true, Nat.sub_zero, and_assoc, b10, not_true_eq_false, not_false_eq_true, false_implies, true_implies, implies_true, eq_self, and_self, rf_some, rf_none]
    exact hQ h1 ⟨_, A, hM1, hR1, Xw_s⟩
end
