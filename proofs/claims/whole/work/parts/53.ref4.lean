/-! ===== the reference: what writes ===== -/
theorem bS_and2 {c : Nat} (hc : c < 256) : bS c &&& 255 = nI c := bS_and c hc
section
variable {f w : Nat} {Q : mj_Q} {h0 h : mj_H} {n mc ms : Nat} {S : St} {AD : Ad} {X : Nat → Int32} {A : Nat → Nat → Int32}
set_option maxRecDepth 100000 in
theorem r_put (hf : 3 ≤ f) (hw : 65 ≤ w) (hM : MHF h0 h AD X A) (hR : CM S X A) (hW : WF S) {o : Int32} {c : Nat} (hc256 : c < 256) (hQ : ∀ h', RK h0 AD (op_put S o c).2 0 h' → Q (some (.int (op_put S o c).1)) h' n) : mj_bk f w 65 [.ref (AD 6 0), .int o, .int (bS c)] h n mc ms Q := by
  have w1 := hW.1
  refine mj_begin (by omega) (by decide) (by show 22 ≤ w; omega) rfl ?_
  show mj_W _ _ 65 mj_noZ Q 0 [.ref (AD 6 0), .int o, .int (bS c)] [] h n mc ms
  simp only [sX3_put_0, sX3_put_1, sX3_put_2, sX3_put_5, sX3_put_6, sX3_put_10, sX3_put_13, sX3_put_15, sX3_put_16, sX3_put_17, sX3_put_20, sX3_put_21, sX3_put_22, sX3_put_23, sX3_put_26, sX3_put_28, sX3_put_29, sX3_put_30, sX3_put_33, sX3_put_34, sX3_put_35, sX3_put_37, sX3_put_40, sX3_put_42, sX3_put_43, sX3_put_44, sX3_put_47, sX3_put_49, sX3_put_50, sX3_put_51, sX3_put_52, sX3_put_55, sX3_put_56, sX3_put_57, sX3_put_58, sX3_put_59, sX3_put_62, sX3_put_63, sX3_put_64, sX3_put_65, sX3_put_68, sX3_put_69, sX3_put_70, sX3_put_71, sX3_put_72, sX3_put_73, sX3_put_74, sX3_put_75, sX3_put_78, sX3_put_79, sX3_put_80, hM.ob, nfi_3_0, ffi_3_0, nfi_3_1, ffi_3_1, nfr_3_2, ffr_3_2, nfu_3_2, ffu_3_2, nfr_3_3, ffr_3_3, nfu_3_3, ffu_3_3, nfr_3_4, ffr_3_4, nfu_3_4, ffu_3_4, nfr_3_5, ffr_3_5, nfu_3_5, ffu_3_5, nfr_3_6, ffr_3_6, nfu_3_6, ffu_3_6, nfi_3_7, ffi_3_7, nfr_3_8, ffr_3_8, nfu_3_8, ffu_3_8, nfr_3_9, ffr_3_9, nfu_3_9, ffu_3_9, nfr_3_10, ffr_3_10, nfu_3_10, ffu_3_10, nfr_3_11, ffr_3_11, nfu_3_11, ffu_3_11, nfr_3_12, ffr_3_12, nfu_3_12, ffu_3_12, nfr_3_13, ffr_3_13, nfu_3_13, ffu_3_13, nfi_3_14, ffi_3_14, nfi_3_15, ffi_3_15, nfr_3_16, ffr_3_16, nfu_3_16, ffu_3_16, nfr_3_17, ffr_3_17, nfu_3_17, ffu_3_17, nfr_3_18, ffr_3_18, nfu_3_18, ffu_3_18, nfr_3_19, ffr_3_19, nfu_3_19, ffu_3_19, nfr_3_20, ffr_3_20, nfu_3_20, ffu_3_20, nfi_3_21, ffi_3_21, Option.some.injEq, Sum.inr.injEq, Sum.inl.injEq, Prod.mk.injEq, true_and, and_true, exists_eq_left', exists_eq_left, exists_eq_right, exists_eq_right', exists_and_left, exists_and_right, List.getElem?_cons_succ, List.getElem?_cons_zero, List.length_cons, List.length_nil, List.set_cons_zero, List.set_cons_succ, Option.toList_some, Option.toList_none, List.nil_append, List.cons_append, mj_up_s, true_or, or_true, Nat.sub_zero, and_assoc, b10, not_true_eq_false, not_false_eq_true, false_implies, true_implies, implies_true, eq_self, and_self, rf_some, rf_none]
  refine And.intro (by decide) ?_
  generalize hH : mj_up h (AD 6 0) _ = h1
  have hM1 : MHF h0 h1 AD (Xw X 0 0) A := hH ▸ hM.putX 0 0
  have hR1 : CM S (Xw X 0 0) A := hR.x0
  clear hH
  refine sX3_put_7z hM1.ob rfl (r_isObject (by omega) (by show 43 ≤ w - 22; omega) hM1 hR1 hW ?_)
  unfold op_put at hQ
  by_cases hc : obI S o = true
  · rw [if_pos hc] at hQ ⊢
    obtain ⟨i, rfl, j1, j2⟩ := cl_iff.mp hc
    rw [nI_cl j1] at hQ
    obtain ⟨a1, a4, a5, a2⟩ := hR.2.2.2.1 i j2
    obtain ⟨u1, u2, u3, u4, u5⟩ := hW.2.2.2.1 i j2
    have w2 := hW.2.1
    have i4 := hM1.ar 4 (by omega) (by omega)
    have i2 := hM1.ar 2 (by omega) (by omega)
    have i3 := hM1.ar 3 (by omega) (by omega)
    have vi : vp_in (nI i) 60 := vp_in_nI (by omega) (by decide)
    simp only [sX3_put_10, Option.some.injEq, Sum.inr.injEq, Sum.inl.injEq, Prod.mk.injEq, true_and, and_true, exists_eq_left', exists_eq_left, exists_eq_right, exists_eq_right', exists_and_left, exists_and_right, List.getElem?_cons_succ, List.getElem?_cons_zero, List.length_cons, List.length_nil, List.set_cons_zero, List.set_cons_succ, Option.toList_some, Option.toList_none, List.nil_append, List.cons_append, mj_up_s, true_or, or_true, Nat.sub_zero, and_assoc, b10, not_true_eq_false, not_false_eq_true, false_implies, true_implies, implies_true, eq_self, and_self, rf_some, rf_none, sX3_put_16, sX3_put_17, sX3_put_20, sX3_put_21, sX3_put_22, sX3_put_23, hM1.ob, i4, nI_cl j1, a4]
    refine And.intro vi ?_
    by_cases hp : S_pk S i = 0
    · rw [if_neg (by omega)] at hQ
      rw [if_pos hp]
      obtain ⟨a2, a3⟩ := a2 hp
      refine And.intro (fun _ => ?_) (fun c => absurd rfl c)
      have e1 : (60 : Int32) * nI i + nI (S_sz S i) = nI (60 * i + S_sz S i) := by rw [show (60 : Int32) = nI 60 from rfl, pk_mul, nI_add]
      have ne23 : AD 6 2 ≠ AD 6 3 := fun e => by have := hM1.2.2.1 2 3 (by omega) (by omega) e; omega
      have ne03 : AD 6 0 ≠ AD 6 3 := fun e => by have := hM1.2.2.1 0 3 (by omega) (by omega) e; omega
      simp only [sX3_put_0, sX3_put_1, sX3_put_2, sX3_put_5, sX3_put_6, sX3_put_10, sX3_put_13, sX3_put_15, sX3_put_16, sX3_put_17, sX3_put_20, sX3_put_21, sX3_put_22, sX3_put_23, sX3_put_26, sX3_put_28, sX3_put_29, sX3_put_30, sX3_put_33, sX3_put_34, sX3_put_35, sX3_put_37, sX3_put_40, sX3_put_42, sX3_put_43, sX3_put_44, sX3_put_47, sX3_put_49, sX3_put_50, sX3_put_51, sX3_put_52, sX3_put_55, sX3_put_56, sX3_put_57, sX3_put_58, sX3_put_59, sX3_put_62, sX3_put_63, sX3_put_65, sX3_put_68, sX3_put_69, sX3_put_70, sX3_put_71, sX3_put_72, sX3_put_73, sX3_put_74, sX3_put_75, sX3_put_78, sX3_put_79, sX3_put_80, hM1.ob, i2, i3, Option.some.injEq, Sum.inr.injEq, Sum.inl.injEq, Prod.mk.injEq, true_and, and_true, exists_eq_left', exists_eq_left, exists_eq_right, exists_eq_right', exists_and_left, exists_and_right, List.getElem?_cons_succ, List.getElem?_cons_zero, List.length_cons, List.length_nil, List.set_cons_zero, List.set_cons_succ, Option.toList_some, Option.toList_none, List.nil_append, List.cons_append, mj_up_s, true_or, or_true, Nat.sub_zero, and_assoc, b10, not_true_eq_false, not_false_eq_true, false_implies, true_implies, implies_true, eq_self, and_self, rf_some, rf_none, nI_cl j1, a2, e1, nI_cl (show 60 * i + S_sz S i < 2147483648 by omega), bS_and2 hc256]
      refine And.intro vi ?_
      by_cases hs : S_sz S i = 60
      · rw [if_pos hs] at hQ
        exact And.intro (fun c => absurd (show nI (S_sz S i) = 60 by rw [hs]; rfl) c) (fun _ => hQ h1 ⟨_, A, hM1, hR1, Xw_s⟩)
      · rw [if_neg hs] at hQ
        refine And.intro (fun _ => And.intro vi (And.intro (vp_in_nI (show _ < 3600 by omega) (by decide)) ?_)) (fun c => absurd (fun e : nI (S_sz S i) = 60 => hs ((nI_eq (by omega) (by omega)).mp (show nI _ = nI 60 from e))) c)
        generalize hH : mj_up h1 (AD 6 3) _ = h2
        have hM2 : MHF h0 h2 AD (Xw X 0 0) (Aw A 3 (60 * i + S_sz S i) (nI c)) := hH ▸ hM1.putA 3 (60 * i + S_sz S i) (nI c) (by omega) (by omega)
        clear hH
        have k2 := hM2.ar 2 (by omega) (by omega)
        rw [Aw_n (by omega)] at k2
        have e2 : nI (S_sz S i) + 1 = nI (S_sz S i + 1) := nI_1 _
        rw [sX3_put_64]
        simp only [sX3_put_0, sX3_put_1, sX3_put_2, sX3_put_5, sX3_put_6, sX3_put_10, sX3_put_13, sX3_put_15, sX3_put_16, sX3_put_17, sX3_put_20, sX3_put_21, sX3_put_22, sX3_put_23, sX3_put_26, sX3_put_28, sX3_put_29, sX3_put_30, sX3_put_33, sX3_put_34, sX3_put_35, sX3_put_37, sX3_put_40, sX3_put_42, sX3_put_43, sX3_put_44, sX3_put_47, sX3_put_49, sX3_put_50, sX3_put_51, sX3_put_52, sX3_put_55, sX3_put_56, sX3_put_57, sX3_put_58, sX3_put_59, sX3_put_62, sX3_put_63, sX3_put_64, sX3_put_65, sX3_put_68, sX3_put_69, sX3_put_70, sX3_put_71, sX3_put_72, sX3_put_73, sX3_put_74, sX3_put_75, sX3_put_78, sX3_put_79, sX3_put_80, hM2.ob, k2, Option.some.injEq, Sum.inr.injEq, Sum.inl.injEq, Prod.mk.injEq, true_and, and_true, exists_eq_left', exists_eq_left, exists_eq_right, exists_eq_right', exists_and_left, exists_and_right, List.getElem?_cons_succ, List.getElem?_cons_zero, List.length_cons, List.length_nil, List.set_cons_zero, List.set_cons_succ, Option.toList_some, Option.toList_none, List.nil_append, List.cons_append, mj_up_s, true_or, or_true, Nat.sub_zero, and_assoc, b10, not_true_eq_false, not_false_eq_true, false_implies, true_implies, implies_true, eq_self, and_self, rf_some, rf_none, nI_cl j1, a2, e2]
        refine And.intro vi (And.intro vi ?_)
        have ne02 : AD 6 0 ≠ AD 6 2 := fun e => by have := hM1.2.2.1 0 2 (by omega) (by omega) e; omega
        simp only [sX3_put_0, sX3_put_1, sX3_put_2, sX3_put_5, sX3_put_6, sX3_put_10, sX3_put_13, sX3_put_15, sX3_put_16, sX3_put_17, sX3_put_20, sX3_put_21, sX3_put_22, sX3_put_23, sX3_put_26, sX3_put_28, sX3_put_29, sX3_put_30, sX3_put_33, sX3_put_34, sX3_put_35, sX3_put_37, sX3_put_40, sX3_put_42, sX3_put_43, sX3_put_44, sX3_put_47, sX3_put_49, sX3_put_50, sX3_put_51, sX3_put_52, sX3_put_55, sX3_put_56, sX3_put_57, sX3_put_58, sX3_put_59, sX3_put_62, sX3_put_63, sX3_put_64, sX3_put_65, sX3_put_68, sX3_put_69, sX3_put_70, sX3_put_71, sX3_put_72, sX3_put_73, sX3_put_74, sX3_put_75, sX3_put_78, sX3_put_79, sX3_put_80, mj_up_n ne02, hM2.ob, Option.some.injEq, Sum.inr.injEq, Sum.inl.injEq, Prod.mk.injEq, true_and, and_true, exists_eq_left', exists_eq_left, exists_eq_right, exists_eq_right', exists_and_left, exists_and_right, List.getElem?_cons_succ, List.getElem?_cons_zero, List.length_cons, List.length_nil, List.set_cons_zero, List.set_cons_succ, Option.toList_some, Option.toList_none, List.nil_append, List.cons_append, mj_up_s, true_or, or_true, Nat.sub_zero, and_assoc, b10, not_true_eq_false, not_false_eq_true, false_implies, true_implies, implies_true, eq_self, and_self, rf_some, rf_none, nI_cl j1, pk_us]
        refine And.intro vi ?_
        have hM3 := hM2.putA 2 i (nI (S_sz S i + 1)) (by omega) (by omega)
        rw [Aw_n (by omega)] at hM3
        refine hQ _ ⟨_, _, hM3, ?_, Xw_s⟩
        refine CM_item hR hW j2 S_item_same (Xw_n (by omega)) (Xw_n (by omega)) (Xw_n (by omega)) (fun j h1 h2 h3 => ?_) (fun k hk => ?_) (fun x hx => ?_) ⟨?_, ?_, ?_, fun _ => ⟨?_, fun j hj => ?_⟩⟩
        · rw [Aw_n (by omega), Aw_n (by omega)]
        · refine ⟨?_, ?_, ?_, ?_⟩
          · rw [Aw_n (by omega), Aw_n (by omega)]
          · rw [Aw_s, pk_un hk, Aw_n (by omega)]
          · rw [Aw_n (by omega), Aw_n (by omega)]
          · rw [Aw_n (by omega), Aw_n (by omega)]
        · rw [Aw_n (by omega), Aw_s, pk_un (by omega)]
        · rw [Aw_n (by omega), Aw_n (by omega), S_item_kd]; exact a1
        · rw [Aw_n (by omega), Aw_n (by omega), S_item_pk, if_pos rfl, a4, if_pos hp]
        · rw [Aw_n (by omega), Aw_n (by omega), S_item_ix]; exact a5
        · rw [Aw_s, pk_us, S_item_sz]
        · rw [S_item_sz] at hj
          rw [Aw_n (by omega), Aw_s, S_item_by]
          by_cases hjs : j = S_sz S i
          · subst hjs; rw [pk_us, updN_s]
          · rw [pk_un (by omega), updN_n hjs]; exact a3 j (by omega)
    · rw [if_pos hp] at hQ
      rw [if_neg hp]
      refine And.intro (fun c => ?_) (fun _ => ?_)
      · exfalso
        have := nI_tI (n := S_pk S i - 1) (by omega)
        rw [c] at this
        simp only [i32_m1] at this
        omega
      · simp only [sX3_put_26, sX3_put_28]
        exact hQ h1 ⟨_, A, hM1, hR1, Xw_s⟩
  · rw [if_neg hc] at hQ ⊢
    simp only [sX3_put_0, sX3_put_1, sX3_put_2, sX3_put_5, sX3_put_6, sX3_put_10, sX3_put_13, sX3_put_15, sX3_put_16, sX3_put_17, sX3_put_20, sX3_put_21, sX3_put_22, sX3_put_23, sX3_put_26, sX3_put_28, sX3_put_29, sX3_put_30, sX3_put_33, sX3_put_34, sX3_put_35, sX3_put_37, sX3_put_40, sX3_put_42, sX3_put_43, sX3_put_44, sX3_put_47, sX3_put_49, sX3_put_50, sX3_put_51, sX3_put_52, sX3_put_55, sX3_put_56, sX3_put_57, sX3_put_58, sX3_put_59, sX3_put_62, sX3_put_63, sX3_put_64, sX3_put_65, sX3_put_68, sX3_put_69, sX3_put_70, sX3_put_71, sX3_put_72, sX3_put_73, sX3_put_74, sX3_put_75, sX3_put_78, sX3_put_79, sX3_put_80, Option.some.injEq, Sum.inr.injEq, Sum.inl.injEq, Prod.mk.injEq, true_and, and_true, exists_eq_left', exists_eq_left, exists_eq_right, exists_eq_right', exists_and_left, exists_and_right, List.getElem?_cons_succ, List.getElem?_cons_zero, List.length_cons, List.length_nil, List.set_cons_zero, List.set_cons_succ, Option.toList_some, Option.toList_none, List.nil_append, List.cons_append, mj_up_s, true_or, or_true, Nat.sub_zero, and_assoc, b10, not_true_eq_false, not_false_eq_true, false_implies, true_implies, implies_true, eq_self, and_self, rf_some, rf_none]
    exact hQ h1 ⟨_, A, hM1, hR1, Xw_s⟩
set_option maxRecDepth 100000 in
theorem r_change (hf : 6 ≤ f) (hw : 139 ≤ w) (hM : MHF h0 h AD X A) (hR : CM S X A) (hW : WF S) {o : Int32} (hQ : ∀ h', RK h0 AD (op_change S o).2 0 h' → Q (some (.int (op_change S o).1)) h' n) : mj_bk f w 66 [.ref (AD 6 0), .int o] h n mc ms Q := by
  have w1 := hW.1
  refine mj_begin (by omega) (by decide) (by show 22 ≤ w; omega) rfl ?_
  show mj_W _ _ 66 mj_noZ Q 0 [.ref (AD 6 0), .int o, .retAddr 0] [] h n mc ms
  simp only [sX3_change_0, sX3_change_1, sX3_change_2, sX3_change_5, sX3_change_6, sX3_change_10, sX3_change_13, sX3_change_15, sX3_change_16, sX3_change_17, sX3_change_20, sX3_change_21, sX3_change_22, sX3_change_23, sX3_change_26, sX3_change_28, sX3_change_29, sX3_change_30, sX3_change_34, sX3_change_35, sX3_change_38, sX3_change_40, sX3_change_43, sX3_change_45, sX3_change_46, sX3_change_47, sX3_change_50, sX3_change_51, sX3_change_52, sX3_change_53, sX3_change_54, sX3_change_57, sX3_change_58, sX3_change_59, sX3_change_62, sX3_change_65, sX3_change_66, sX3_change_69, sX3_change_70, sX3_change_73, sX3_change_74, sX3_change_75, sX3_change_77, sX3_change_78, sX3_change_81, sX3_change_82, sX3_change_83, sX3_change_86, sX3_change_87, sX3_change_90, sX3_change_92, sX3_change_93, sX3_change_94, sX3_change_95, sX3_change_96, sX3_change_97, sX3_change_100, sX3_change_101, sX3_change_102, sX3_change_103, sX3_change_106, sX3_change_109, sX3_change_110, sX3_change_113, hM.ob, nfi_3_0, ffi_3_0, nfi_3_1, ffi_3_1, nfr_3_2, ffr_3_2, nfu_3_2, ffu_3_2, nfr_3_3, ffr_3_3, nfu_3_3, ffu_3_3, nfr_3_4, ffr_3_4, nfu_3_4, ffu_3_4, nfr_3_5, ffr_3_5, nfu_3_5, ffu_3_5, nfr_3_6, ffr_3_6, nfu_3_6, ffu_3_6, nfi_3_7, ffi_3_7, nfr_3_8, ffr_3_8, nfu_3_8, ffu_3_8, nfr_3_9, ffr_3_9, nfu_3_9, ffu_3_9, nfr_3_10, ffr_3_10, nfu_3_10, ffu_3_10, nfr_3_11, ffr_3_11, nfu_3_11, ffu_3_11, nfr_3_12, ffr_3_12, nfu_3_12, ffu_3_12, nfr_3_13, ffr_3_13, nfu_3_13, ffu_3_13, nfi_3_14, ffi_3_14, nfi_3_15, ffi_3_15, nfr_3_16, ffr_3_16, nfu_3_16, ffu_3_16, nfr_3_17, ffr_3_17, nfu_3_17, ffu_3_17, nfr_3_18, ffr_3_18, nfu_3_18, ffu_3_18, nfr_3_19, ffr_3_19, nfu_3_19, ffu_3_19, nfr_3_20, ffr_3_20, nfu_3_20, ffu_3_20, nfi_3_21, ffi_3_21, Option.some.injEq, Sum.inr.injEq, Sum.inl.injEq, Prod.mk.injEq, true_and, and_true, exists_eq_left', exists_eq_left, exists_eq_right, exists_eq_right', exists_and_left, exists_and_right, List.getElem?_cons_succ, List.getElem?_cons_zero, List.length_cons, List.length_nil, List.set_cons_zero, List.set_cons_succ, Option.toList_some, Option.toList_none, List.nil_append, List.cons_append, mj_up_s, true_or, or_true, Nat.sub_zero, and_assoc, b10, not_true_eq_false, not_false_eq_true, false_implies, true_implies, implies_true, eq_self, and_self, rf_some, rf_none]
  refine And.intro (by decide) ?_
  generalize hH : mj_up h (AD 6 0) _ = h1
  have hM1 : MHF h0 h1 AD (Xw X 0 0) A := hH ▸ hM.putX 0 0
  have hR1 : CM S (Xw X 0 0) A := hR.x0
  clear hH
  refine sX3_change_7z hM1.ob rfl (r_isObject (by omega) (by show 43 ≤ w - 22; omega) hM1 hR1 hW ?_)
  unfold op_change at hQ
  by_cases hc : obI S o = true
  · rw [if_pos hc] at hQ ⊢
    obtain ⟨i, rfl, j1, j2⟩ := cl_iff.mp hc
    rw [nI_cl j1] at hQ
    obtain ⟨a1, a4, a5, a2⟩ := hR.2.2.2.1 i j2
    obtain ⟨u1, u2, u3, u4, u5⟩ := hW.2.2.2.1 i j2
    have w2 := hW.2.1
    have i4 := hM1.ar 4 (by omega) (by omega)
    have vi : vp_in (nI i) 60 := vp_in_nI (by omega) (by decide)
    simp only [sX3_change_0, sX3_change_1, sX3_change_2, sX3_change_5, sX3_change_6, sX3_change_10, sX3_change_13, sX3_change_15, sX3_change_16, sX3_change_17, sX3_change_20, sX3_change_21, sX3_change_22, sX3_change_23, sX3_change_26, sX3_change_28, sX3_change_29, sX3_change_30, sX3_change_34, sX3_change_35, sX3_change_38, sX3_change_40, sX3_change_43, sX3_change_45, sX3_change_46, sX3_change_47, sX3_change_50, sX3_change_51, sX3_change_52, sX3_change_53, sX3_change_54, sX3_change_57, sX3_change_58, sX3_change_59, sX3_change_62, sX3_change_65, sX3_change_66, sX3_change_69, sX3_change_70, sX3_change_73, sX3_change_74, sX3_change_75, sX3_change_77, sX3_change_78, sX3_change_81, sX3_change_82, sX3_change_83, sX3_change_86, sX3_change_87, sX3_change_90, sX3_change_92, sX3_change_93, sX3_change_94, sX3_change_95, sX3_change_96, sX3_change_97, sX3_change_100, sX3_change_101, sX3_change_102, sX3_change_103, sX3_change_106, sX3_change_109, sX3_change_110, sX3_change_113, hM1.ob, i4, Option.some.injEq, Sum.inr.injEq, Sum.inl.injEq, Prod.mk.injEq, true_and, and_true, exists_eq_left', exists_eq_left, exists_eq_right, exists_eq_right', exists_and_left, exists_and_right, List.getElem?_cons_succ, List.getElem?_cons_zero, List.length_cons, List.length_nil, List.set_cons_zero, List.set_cons_succ, Option.toList_some, Option.toList_none, List.nil_append, List.cons_append, mj_up_s, true_or, or_true, Nat.sub_zero, and_assoc, b10, not_true_eq_false, not_false_eq_true, false_implies, true_implies, implies_true, eq_self, and_self, rf_some, rf_none, nI_cl j1, a4]
    refine And.intro vi ?_
    by_cases hp : S_pk S i = 0
    · rw [if_pos hp] at hQ ⊢
      exact And.intro (fun c => absurd rfl c) (fun _ => hQ h1 ⟨_, A, hM1, hR1, Xw_s⟩)
    · rw [if_neg hp] at hQ ⊢
      refine And.intro (fun _ => ?_) (fun c => ?_)
      rotate_left
      · exfalso
        have c : nI (S_pk S i - 1) = -1 := by simpa using c
        have := nI_tI (n := S_pk S i - 1) (by omega)
        rw [c] at this
        simp only [i32_m1] at this
        omega
      refine sX3_change_31z hM1.ob rfl (r_load (by omega) (by show 117 ≤ w - 22; omega) hM1 hR1 hW j2 (fun h2 X2 A2 hM2 hs2 hc2 => ?_))
      have hR2 := hR1.same hs2
      have hx0 : X2 0 = 0 := by rw [hs2.1 0 (by omega)]; exact Xw_s
      -- behind the question whether it is too long: L bytes (0 for a lost one), the answer r
      have tail : ∀ (L : Nat) (b : Nat → Nat), L ≤ 60 → (∀ j, j < L → A2 11 j = nI (b j)) → ∀ h3 A3, MHF h0 h3 AD X2 A3 → A3 = Aw (Aw A2 4 i (-1)) 2 i (nI L) → (∀ h', RK h0 AD (S_item S i (S_kd S i) L b 0 (S_ix S i)) 0 h' → Q (some (.int (X2 14))) h' n) → mj_W (f - 1) (w - (19 + mj_maxL 66)) 66 mj_noZ Q 76 [.ref (AD 6 0), .int (nI i), .int (nI 0)] [] h3 n mc ms := by
        intro L b hL hb h3 A3 hM3 hA3 hQ
        have loop : ∀ m t h4 A4, t + m = L → MHF h0 h4 AD X2 A4 → (∀ j, j ≠ 3 → A4 j = A3 j) → (∀ x, x < 60 * i ∨ 60 * i + t ≤ x → A4 3 x = A2 3 x) → (∀ j, j < t → A4 3 (60 * i + j) = nI (b j)) → mj_W (f - 1) (w - (19 + mj_maxL 66)) 66 mj_noZ Q 76 [.ref (AD 6 0), .int (nI i), .int (nI t)] [] h4 n mc ms := by
          intro m
          induction m with
          | zero =>
            intro t h4 A4 ht hM4 hs4 ho4 hb4
            obtain rfl : t = L := by omega
            have k2 := hM4.ar 2 (by omega) (by omega)
            rw [hs4 2 (by omega), hA3, Aw_s] at k2
            rw [sX3_change_76]
            simp only [sX3_change_0, sX3_change_1, sX3_change_2, sX3_change_5, sX3_change_6, sX3_change_10, sX3_change_13, sX3_change_15, sX3_change_16, sX3_change_17, sX3_change_20, sX3_change_21, sX3_change_22, sX3_change_23, sX3_change_26, sX3_change_28, sX3_change_29, sX3_change_30, sX3_change_34, sX3_change_35, sX3_change_38, sX3_change_40, sX3_change_43, sX3_change_45, sX3_change_46, sX3_change_47, sX3_change_50, sX3_change_51, sX3_change_52, sX3_change_53, sX3_change_54, sX3_change_57, sX3_change_58, sX3_change_59, sX3_change_62, sX3_change_65, sX3_change_66, sX3_change_69, sX3_change_70, sX3_change_73, sX3_change_74, sX3_change_75, sX3_change_77, sX3_change_78, sX3_change_81, sX3_change_82, sX3_change_83, sX3_change_86, sX3_change_87, sX3_change_90, sX3_change_92, sX3_change_93, sX3_change_94, sX3_change_95, sX3_change_96, sX3_change_97, sX3_change_100, sX3_change_101, sX3_change_102, sX3_change_103, sX3_change_106, sX3_change_109, sX3_change_110, sX3_change_113, hM4.ob, k2, Option.some.injEq, Sum.inr.injEq, Sum.inl.injEq, Prod.mk.injEq, true_and, and_true, exists_eq_left', exists_eq_left, exists_eq_right, exists_eq_right', exists_and_left, exists_and_right, List.getElem?_cons_succ, List.getElem?_cons_zero, List.length_cons, List.length_nil, List.set_cons_zero, List.set_cons_succ, Option.toList_some, Option.toList_none, List.nil_append, List.cons_append, mj_up_s, true_or, or_true, Nat.sub_zero, and_assoc, b10, not_true_eq_false, not_false_eq_true, false_implies, true_implies, implies_true, eq_self, and_self, rf_some, rf_none, nI_cl j1, pk_us]
            refine And.intro vi (And.intro (fun _ => ?_) (fun c => absurd (nI_le (Nat.le_refl _) (by omega)) c))
            refine hQ h4 ⟨X2, A4, hM4, ?_, hx0⟩
            refine CM_item hR2 hW j2 S_item_same rfl rfl rfl (fun j h1 h2 h3 => ?_) (fun k hk => ?_) (fun x hx => ho4 x (by omega)) ⟨?_, ?_, ?_, fun _ => ⟨?_, fun j hj => ?_⟩⟩
            · rw [hs4 j (by omega), hA3, Aw_n (by omega), Aw_n (by omega)]
            · rw [hs4 1 (by omega), hs4 2 (by omega), hs4 4 (by omega), hs4 5 (by omega), hA3]
              refine ⟨?_, ?_, ?_, ?_⟩
              · rw [Aw_n (by omega), Aw_n (by omega)]
              · rw [Aw_s, pk_un hk, Aw_n (by omega)]
              · rw [Aw_n (by omega), Aw_s, pk_un hk]
              · rw [Aw_n (by omega), Aw_n (by omega)]
            · rw [hs4 1 (by omega), hA3, Aw_n (by omega), Aw_n (by omega), S_item_kd]; exact (hR2.2.2.2.1 i j2).1
            · rw [hs4 4 (by omega), hA3, Aw_n (by omega), Aw_s, pk_us, S_item_pk, if_pos rfl]
            · rw [hs4 5 (by omega), hA3, Aw_n (by omega), Aw_n (by omega), S_item_ix]; exact (hR2.2.2.2.1 i j2).2.2.1
            · rw [hs4 2 (by omega), hA3, Aw_s, pk_us, S_item_sz]
            · rw [S_item_sz] at hj; rw [S_item_by]; exact hb4 j hj
          | succ m ih =>
            intro t h4 A4 ht hM4 hs4 ho4 hb4
            have k2 := hM4.ar 2 (by omega) (by omega)
            have k3 := hM4.ar 3 (by omega) (by omega)
            have k11 := hM4.ar 11 (by omega) (by omega)
            rw [hs4 2 (by omega), hA3, Aw_s] at k2
            rw [hs4 11 (by omega), hA3, Aw_n (by omega), Aw_n (by omega)] at k11
            have e1 : (60 : Int32) * nI i + nI t = nI (60 * i + t) := by rw [show (60 : Int32) = nI 60 from rfl, pk_mul, nI_add]
            have e9 : nI t + 1 = nI (t + 1) := nI_1 t
            rw [sX3_change_76]
            simp only [sX3_change_0, sX3_change_1, sX3_change_2, sX3_change_5, sX3_change_6, sX3_change_10, sX3_change_13, sX3_change_15, sX3_change_16, sX3_change_17, sX3_change_20, sX3_change_21, sX3_change_22, sX3_change_23, sX3_change_26, sX3_change_28, sX3_change_29, sX3_change_30, sX3_change_34, sX3_change_35, sX3_change_38, sX3_change_40, sX3_change_43, sX3_change_45, sX3_change_46, sX3_change_47, sX3_change_50, sX3_change_51, sX3_change_52, sX3_change_53, sX3_change_54, sX3_change_57, sX3_change_58, sX3_change_59, sX3_change_62, sX3_change_65, sX3_change_66, sX3_change_69, sX3_change_70, sX3_change_73, sX3_change_74, sX3_change_75, sX3_change_77, sX3_change_78, sX3_change_81, sX3_change_82, sX3_change_83, sX3_change_86, sX3_change_87, sX3_change_90, sX3_change_92, sX3_change_93, sX3_change_94, sX3_change_95, sX3_change_96, sX3_change_97, sX3_change_100, sX3_change_101, sX3_change_102, sX3_change_103, sX3_change_106, sX3_change_109, sX3_change_110, sX3_change_113, hM4.ob, k2, k3, k11, Option.some.injEq, Sum.inr.injEq, Sum.inl.injEq, Prod.mk.injEq, true_and, and_true, exists_eq_left', exists_eq_left, exists_eq_right, exists_eq_right', exists_and_left, exists_and_right, List.getElem?_cons_succ, List.getElem?_cons_zero, List.length_cons, List.length_nil, List.set_cons_zero, List.set_cons_succ, Option.toList_some, Option.toList_none, List.nil_append, List.cons_append, mj_up_s, true_or, or_true, Nat.sub_zero, and_assoc, b10, not_true_eq_false, not_false_eq_true, false_implies, true_implies, implies_true, eq_self, and_self, rf_some, rf_none, nI_cl j1, pk_us, e1, nI_cl (show 60 * i + t < 2147483648 by omega), nI_cl (show t < 2147483648 by omega), hb t (by omega)]
            refine And.intro vi (And.intro (fun c => absurd c (nI_ge (by omega) (by omega))) (fun _ => And.intro (vp_in_nI (show t < 600 by omega) (by decide)) (And.intro (vp_in_nI (show _ < 3600 by omega) (by decide)) ?_)))
            generalize hH : mj_up h4 (AD 6 3) _ = h5
            have hM5 : MHF h0 h5 AD X2 (Aw A4 3 (60 * i + t) (nI (b t))) := hH ▸ hM4.putA 3 (60 * i + t) (nI (b t)) (by omega) (by omega)
            simp only [sX3_change_0, sX3_change_1, sX3_change_2, sX3_change_5, sX3_change_6, sX3_change_10, sX3_change_13, sX3_change_15, sX3_change_16, sX3_change_17, sX3_change_20, sX3_change_21, sX3_change_22, sX3_change_23, sX3_change_26, sX3_change_28, sX3_change_29, sX3_change_30, sX3_change_34, sX3_change_35, sX3_change_38, sX3_change_40, sX3_change_43, sX3_change_45, sX3_change_46, sX3_change_47, sX3_change_50, sX3_change_51, sX3_change_52, sX3_change_53, sX3_change_54, sX3_change_57, sX3_change_58, sX3_change_59, sX3_change_62, sX3_change_65, sX3_change_66, sX3_change_69, sX3_change_70, sX3_change_73, sX3_change_74, sX3_change_75, sX3_change_77, sX3_change_78, sX3_change_81, sX3_change_82, sX3_change_83, sX3_change_86, sX3_change_87, sX3_change_90, sX3_change_92, sX3_change_93, sX3_change_94, sX3_change_95, sX3_change_96, sX3_change_97, sX3_change_100, sX3_change_101, sX3_change_102, sX3_change_103, sX3_change_106, sX3_change_109, sX3_change_110, sX3_change_113, Option.some.injEq, Sum.inr.injEq, Sum.inl.injEq, Prod.mk.injEq, true_and, and_true, exists_eq_left', exists_eq_left, exists_eq_right, exists_eq_right', exists_and_left, exists_and_right, List.getElem?_cons_succ, List.getElem?_cons_zero, List.length_cons, List.length_nil, List.set_cons_zero, List.set_cons_succ, Option.toList_some, Option.toList_none, List.nil_append, List.cons_append, mj_up_s, true_or, or_true, Nat.sub_zero, and_assoc, b10, not_true_eq_false, not_false_eq_true, false_implies, true_implies, implies_true, eq_self, and_self, rf_some, rf_none, e9]
            refine ih (t + 1) h5 _ (by omega) hM5 (fun j hj => by rw [Aw_n hj]; exact hs4 j hj) (fun x hx => ?_) (fun j hj => ?_)
            · rw [Aw_s, pk_un (by omega)]; exact ho4 x (by omega)
            · rw [Aw_s]
              by_cases hjt : j = t
              · subst hjt; rw [pk_us]
              · rw [pk_un (by omega)]; exact hb4 j (by omega)
        exact loop L 0 h3 A3 (by omega) hM3 (fun _ _ => rfl) (fun x hx => by rw [hA3, Aw_n (by omega), Aw_n (by omega)]) (fun j hj => by omega)
      -- the two writes ahead of the loop, for an L that is read off contentSize
      have mid : ∀ (L : Nat) (b : Nat → Nat), L ≤ 60 → (∀ j, j < L → A2 11 j = nI (b j)) → (X2 14 < 0 ∧ L = 0 ∨ X2 14 = nI L) → (∀ h', RK h0 AD (S_item S i (S_kd S i) L b 0 (S_ix S i)) 0 h' → Q (some (.int (X2 14))) h' n) → mj_W (f - 1) (w - (19 + mj_maxL 66)) 66 mj_noZ Q 46 [.ref (AD 6 0), .int (nI i), .retAddr 0] [] h2 n mc ms := by
        intro L b hL hb hX hQ
        have k4 := hM2.ar 4 (by omega) (by omega)
        simp only [sX3_change_46, sX3_change_47, sX3_change_50, sX3_change_51, sX3_change_52, hM2.ob, k4, Option.some.injEq, Sum.inr.injEq, Sum.inl.injEq, Prod.mk.injEq, true_and, and_true, exists_eq_left', exists_eq_left, exists_eq_right, exists_eq_right', exists_and_left, exists_and_right, List.getElem?_cons_succ, List.getElem?_cons_zero, List.length_cons, List.length_nil, List.set_cons_zero, List.set_cons_succ, Option.toList_some, Option.toList_none, List.nil_append, List.cons_append, mj_up_s, true_or, or_true, Nat.sub_zero, and_assoc, b10, not_true_eq_false, not_false_eq_true, false_implies, true_implies, implies_true, eq_self, and_self, rf_some, rf_none, nI_cl j1]
        refine And.intro vi ?_
        generalize hH : mj_up h2 (AD 6 4) _ = h3
        have hM3 : MHF h0 h3 AD X2 (Aw A2 4 i (-1)) := hH ▸ hM2.putA 4 i (-1) (by omega) (by omega)
        clear hH
        have k2 := hM3.ar 2 (by omega) (by omega)
        simp only [sX3_change_53, sX3_change_54, sX3_change_57, sX3_change_58, sX3_change_59, sX3_change_62, hM3.ob, Option.some.injEq, Sum.inr.injEq, Sum.inl.injEq, Prod.mk.injEq, true_and, and_true, exists_eq_left', exists_eq_left, exists_eq_right, exists_eq_right', exists_and_left, exists_and_right, List.getElem?_cons_succ, List.getElem?_cons_zero, List.length_cons, List.length_nil, List.set_cons_zero, List.set_cons_succ, Option.toList_some, Option.toList_none, List.nil_append, List.cons_append, mj_up_s, true_or, or_true, Nat.sub_zero, and_assoc, b10, not_true_eq_false, not_false_eq_true, false_implies, true_implies, implies_true, eq_self, and_self, rf_some, rf_none]
        have go : mj_W (f - 1) (w - (19 + mj_maxL 66)) 66 mj_noZ Q 73 [.ref (AD 6 0), .int (nI i), .retAddr 0] [.int (nI L), .int (nI i), .ref (AD 6 2)] h3 n mc ms := by
          rw [sX3_change_73]
          refine ⟨_, _, k2, vi, ?_⟩
          rw [nI_cl j1]
          have hM4 := hM3.putA 2 i (nI L) (by omega) (by omega)
          simp only [sX3_change_74, sX3_change_75]
          exact tail L b hL hb _ _ hM4 rfl hQ
        rcases hX with ⟨hx, rfl⟩ | hx
        · refine And.intro (fun c => ?_) (fun _ => ?_)
          · exfalso; clear hQ go hM3 hM2; (simp only [Int32.le_iff_toInt_le, Int32.lt_iff_toInt_lt, i32_eq, i32_0, i32_m1, i32_600, i32_60, i32_20, i32_99, i32_10, i32_1, i32_2] at *; omega)
          · simp only [sX3_change_65, sX3_change_66]; exact go
        · refine And.intro (fun _ => ?_) (fun c => absurd (by rw [hx]; exact nI_pos' (by omega)) c)
          simp only [sX3_change_69, sX3_change_70, hM3.ob, Option.some.injEq, Sum.inr.injEq, Sum.inl.injEq, Prod.mk.injEq, true_and, and_true, exists_eq_left', exists_eq_left, exists_eq_right, exists_eq_right', exists_and_left, exists_and_right, List.getElem?_cons_succ, List.getElem?_cons_zero, List.length_cons, List.length_nil, List.set_cons_zero, List.set_cons_succ, Option.toList_some, Option.toList_none, List.nil_append, List.cons_append, mj_up_s, true_or, or_true, Nat.sub_zero, and_assoc, b10, not_true_eq_false, not_false_eq_true, false_implies, true_implies, implies_true, eq_self, and_self, rf_some, rf_none, hx]
          exact go
      simp only [sX3_change_34, sX3_change_35, sX3_change_38, sX3_change_40, hM2.ob, Option.some.injEq, Sum.inr.injEq, Sum.inl.injEq, Prod.mk.injEq, true_and, and_true, exists_eq_left', exists_eq_left, exists_eq_right, exists_eq_right', exists_and_left, exists_and_right, List.getElem?_cons_succ, List.getElem?_cons_zero, List.length_cons, List.length_nil, List.set_cons_zero, List.set_cons_succ, Option.toList_some, Option.toList_none, List.nil_append, List.cons_append, mj_up_s, true_or, or_true, Nat.sub_zero, and_assoc, b10, not_true_eq_false, not_false_eq_true, false_implies, true_implies, implies_true, eq_self, and_self, rf_some, rf_none]
      cases hL : S_size S i with
      | none =>
        rw [hL] at hQ hc2
        have e14 : X2 14 = -1 := hc2.1
        refine And.intro (fun _ => ?_) (fun c => absurd (by rw [e14]; decide) c)
        exact mid 0 (S_by S i) (by omega) (fun j hj => by omega) (Or.inl ⟨by rw [e14]; decide, rfl⟩) (fun h' hk' => by rw [e14]; exact hQ h' hk')
      | some L =>
        rw [hL] at hQ hc2
        have hLt := S_size_lt hW j2 hL
        have e14 : X2 14 = nI L := hc2.1
        simp only at hQ
        rw [e14]
        by_cases h60 : 60 < L
        · rw [if_pos h60] at hQ
          refine And.intro (fun c => absurd c (show ¬ nI L ≤ nI 60 from nI_ge h60 (by omega))) (fun _ => ?_)
          simp only [sX3_change_43, sX3_change_45]
          exact hQ h2 ⟨X2, A2, hM2, hR2, hx0⟩
        · rw [if_neg h60] at hQ
          refine And.intro (fun _ => ?_) (fun c => absurd (show nI L ≤ nI 60 from nI_le (by omega) (by decide)) c)
          exact mid L (fun j => S_byte S i j) (by omega) (hc2.2 L rfl) (Or.inr e14) (fun h' hk' => by rw [e14]; exact hQ h' hk')
  · rw [if_neg hc] at hQ ⊢
    simp only [sX3_change_0, sX3_change_1, sX3_change_2, sX3_change_5, sX3_change_6, sX3_change_10, sX3_change_13, sX3_change_15, sX3_change_16, sX3_change_17, sX3_change_20, sX3_change_21, sX3_change_22, sX3_change_23, sX3_change_26, sX3_change_28, sX3_change_29, sX3_change_30, sX3_change_34, sX3_change_35, sX3_change_38, sX3_change_40, sX3_change_43, sX3_change_45, sX3_change_46, sX3_change_47, sX3_change_50, sX3_change_51, sX3_change_52, sX3_change_53, sX3_change_54, sX3_change_57, sX3_change_58, sX3_change_59, sX3_change_62, sX3_change_65, sX3_change_66, sX3_change_69, sX3_change_70, sX3_change_73, sX3_change_74, sX3_change_75, sX3_change_77, sX3_change_78, sX3_change_81, sX3_change_82, sX3_change_83, sX3_change_86, sX3_change_87, sX3_change_90, sX3_change_92, sX3_change_93, sX3_change_94, sX3_change_95, sX3_change_96, sX3_change_97, sX3_change_100, sX3_change_101, sX3_change_102, sX3_change_103, sX3_change_106, sX3_change_109, sX3_change_110, sX3_change_113, Option.some.injEq, Sum.inr.injEq, Sum.inl.injEq, Prod.mk.injEq, true_and, and_true, exists_eq_left', exists_eq_left, exists_eq_right, exists_eq_right', exists_and_left, exists_and_right, List.getElem?_cons_succ, List.getElem?_cons_zero, List.length_cons, List.length_nil, List.set_cons_zero, List.set_cons_succ, Option.toList_some, Option.toList_none, List.nil_append, List.cons_append, mj_up_s, true_or, or_true, Nat.sub_zero, and_assoc, b10, not_true_eq_false, not_false_eq_true, false_implies, true_implies, implies_true, eq_self, and_self, rf_some, rf_none]
    exact hQ h1 ⟨_, A, hM1, hR1, Xw_s⟩
end
