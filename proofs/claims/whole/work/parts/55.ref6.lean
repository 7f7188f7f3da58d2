/-! ===== the reference: octet, extend, row, told, pair, find, count ===== -/
section
variable {f w : Nat} {Q : mj_Q} {h0 h : mj_H} {n mc ms : Nat} {S : St} {AD : Ad} {X : Nat → Int32} {A : Nat → Nat → Int32}
set_option maxRecDepth 100000 in
theorem r_octet (hf : 3 ≤ f) (hw : 65 ≤ w) (hM : MHF h0 h AD X A) (hR : CM S X A) (hW : WF S) {p i : Int32} (hQ : ∀ h', RK h0 AD S (if op_oct S p i = none then 1 else 0) h' → Q (some (.int (bS ((op_oct S p i).getD 0)))) h' n) : mj_bk f w 79 [.ref (AD 6 0), .int p, .int i] h n mc ms Q := by
  have w1 := hW.2.1
  refine mj_begin (by omega) (by decide) (by show 22 ≤ w; omega) rfl ?_
  show mj_W _ _ 79 mj_noZ Q 0 [.ref (AD 6 0), .int p, .int i] [] h n mc ms
  have none_ : op_oct S p i = none → mj_W (f - 1) (w - (19 + mj_maxL 79)) 79 mj_noZ Q 29 [.ref (AD 6 0), .int p, .int i] [.ref (AD 6 0)] h n mc ms := fun eo => by
    rw [eo] at hQ
    simp only [sX3_octet_29, sX3_octet_30, hM.ob, nfi_3_0, ffi_3_0, nfi_3_1, ffi_3_1, nfr_3_2, ffr_3_2, nfu_3_2, ffu_3_2, nfr_3_3, ffr_3_3, nfu_3_3, ffu_3_3, nfr_3_4, ffr_3_4, nfu_3_4, ffu_3_4, nfr_3_5, ffr_3_5, nfu_3_5, ffu_3_5, nfr_3_6, ffr_3_6, nfu_3_6, ffu_3_6, nfi_3_7, ffi_3_7, nfr_3_8, ffr_3_8, nfu_3_8, ffu_3_8, nfr_3_9, ffr_3_9, nfu_3_9, ffu_3_9, nfr_3_10, ffr_3_10, nfu_3_10, ffu_3_10, nfr_3_11, ffr_3_11, nfu_3_11, ffu_3_11, nfr_3_12, ffr_3_12, nfu_3_12, ffu_3_12, nfr_3_13, ffr_3_13, nfu_3_13, ffu_3_13, nfi_3_14, ffi_3_14, nfi_3_15, ffi_3_15, nfr_3_16, ffr_3_16, nfu_3_16, ffu_3_16, nfr_3_17, ffr_3_17, nfu_3_17, ffu_3_17, nfr_3_18, ffr_3_18, nfu_3_18, ffu_3_18, nfr_3_19, ffr_3_19, nfu_3_19, ffu_3_19, nfr_3_20, ffr_3_20, nfu_3_20, ffu_3_20, nfi_3_21, ffi_3_21, Option.some.injEq, Sum.inr.injEq, Sum.inl.injEq, Prod.mk.injEq, true_and, and_true, exists_eq_left', exists_eq_left, exists_eq_right, exists_eq_right', exists_and_left, exists_and_right, List.getElem?_cons_succ, List.getElem?_cons_zero, List.length_cons, List.length_nil, List.set_cons_zero, List.set_cons_succ, Option.toList_some, Option.toList_none, List.nil_append, List.cons_append, mj_up_s, true_or, or_true, Nat.sub_zero, and_assoc, b10, not_true_eq_false, not_false_eq_true, false_implies, true_implies, implies_true, eq_self, and_self, rf_some, rf_none, sX3_octet_33, sX3_octet_34]
    refine And.intro (by decide) ?_
    rw [sX3_octet_37]
    refine And.intro (fun c => absurd c (by decide)) (fun _ => ?_)
    simp only [sX3_octet_40, sX3_octet_41, sX3_octet_57, Option.some.injEq, Sum.inr.injEq, Sum.inl.injEq, Prod.mk.injEq, true_and, and_true, exists_eq_left', exists_eq_left, exists_eq_right, exists_eq_right', exists_and_left, exists_and_right, List.getElem?_cons_succ, List.getElem?_cons_zero, List.length_cons, List.length_nil, List.set_cons_zero, List.set_cons_succ, Option.toList_some, Option.toList_none, List.nil_append, List.cons_append, mj_up_s, true_or, or_true, Nat.sub_zero, and_assoc, b10, not_true_eq_false, not_false_eq_true, false_implies, true_implies, implies_true, eq_self, and_self, rf_some, rf_none, nar_y0]
    exact hQ _ ⟨Xw X 0 1, A, hM.putX 0 1, hR.x0, Xw_s⟩
  simp only [sX3_octet_0, sX3_octet_1, sX3_octet_2]
  refine sX3_octet_3z hM.ob rfl (r_isPack (by omega) (by show 43 ≤ w - 22; omega) hM hR hW ?_)
  by_cases hc : pkI S p = true
  · rw [if_pos hc]
    obtain ⟨q, rfl, j1, j2⟩ := cl_iff.mp hc
    obtain ⟨a6, a7, a8, a9, a10⟩ := hR.2.2.2.2.2.1 q j2
    obtain ⟨p1, p2, p3, p4⟩ := (hW.2.2.2.2.2 q j2).1
    have vq : vp_in (nI q) 20 := vp_in_nI (by omega) (by decide)
    have i9 := hM.ar 9 (by omega) (by omega)
    have i10 := hM.ar 10 (by omega) (by omega)
    simp only [sX3_octet_6, Option.some.injEq, Sum.inr.injEq, Sum.inl.injEq, Prod.mk.injEq, true_and, and_true, exists_eq_left', exists_eq_left, exists_eq_right, exists_eq_right', exists_and_left, exists_and_right, List.getElem?_cons_succ, List.getElem?_cons_zero, List.length_cons, List.length_nil, List.set_cons_zero, List.set_cons_succ, Option.toList_some, Option.toList_none, List.nil_append, List.cons_append, mj_up_s, true_or, or_true, Nat.sub_zero, and_assoc, b10, not_true_eq_false, not_false_eq_true, false_implies, true_implies, implies_true, eq_self, and_self, rf_some, rf_none, sX3_octet_9, sX3_octet_10, sX3_octet_11, sX3_octet_12, sX3_octet_15, sX3_octet_16, sX3_octet_17, sX3_octet_18, hM.ob, i9, nI_cl j1, a9]
    refine And.intro vq ?_
    refine sX3_octet_19z rfl (r_isIn (by omega) (by show 22 ≤ w - 22; omega) ?_)
    simp only [isin_cl (o := i) (N := S_pz S q) (by omega)]
    by_cases hi : (decide (0 ≤ i) && decide (i.toNatClampNeg < S_pz S q)) = true
    · rw [if_pos hi]
      obtain ⟨t, rfl, t1, t2⟩ := cl_iff.mp hi
      have eo : op_oct S (nI q) (nI t) = some (S_pb S q t) := by
        unfold op_oct
        rw [if_pos, nI_cl j1, nI_cl t1]
        exact ⟨hc, nI_pos' t1, by rw [nI_cl j1]; exact nI_lt t2 (by omega)⟩
      rw [eo] at hQ
      have e1 : (600 : Int32) * nI q + nI t = nI (600 * q + t) := by rw [show (600 : Int32) = nI 600 from rfl, pk_mul, nI_add]
      have ne : AD 6 10 ≠ AD 6 0 := hM.ne (by omega) (by omega) (by omega)
      simp only [sX3_octet_22, Option.some.injEq, Sum.inr.injEq, Sum.inl.injEq, Prod.mk.injEq, true_and, and_true, exists_eq_left', exists_eq_left, exists_eq_right, exists_eq_right', exists_and_left, exists_and_right, List.getElem?_cons_succ, List.getElem?_cons_zero, List.length_cons, List.length_nil, List.set_cons_zero, List.set_cons_succ, Option.toList_some, Option.toList_none, List.nil_append, List.cons_append, mj_up_s, true_or, or_true, Nat.sub_zero, and_assoc, b10, not_true_eq_false, not_false_eq_true, false_implies, true_implies, implies_true, eq_self, and_self, rf_some, rf_none, sX3_octet_25, sX3_octet_26, sX3_octet_30, hM.ob, nfi_3_0, ffi_3_0, nfi_3_1, ffi_3_1, nfr_3_2, ffr_3_2, nfu_3_2, ffu_3_2, nfr_3_3, ffr_3_3, nfu_3_3, ffu_3_3, nfr_3_4, ffr_3_4, nfu_3_4, ffu_3_4, nfr_3_5, ffr_3_5, nfu_3_5, ffu_3_5, nfr_3_6, ffr_3_6, nfu_3_6, ffu_3_6, nfi_3_7, ffi_3_7, nfr_3_8, ffr_3_8, nfu_3_8, ffu_3_8, nfr_3_9, ffr_3_9, nfu_3_9, ffu_3_9, nfr_3_10, ffr_3_10, nfu_3_10, ffu_3_10, nfr_3_11, ffr_3_11, nfu_3_11, ffu_3_11, nfr_3_12, ffr_3_12, nfu_3_12, ffu_3_12, nfr_3_13, ffr_3_13, nfu_3_13, ffu_3_13, nfi_3_14, ffi_3_14, nfi_3_15, ffi_3_15, nfr_3_16, ffr_3_16, nfu_3_16, ffu_3_16, nfr_3_17, ffr_3_17, nfu_3_17, ffu_3_17, nfr_3_18, ffr_3_18, nfu_3_18, ffu_3_18, nfr_3_19, ffr_3_19, nfu_3_19, ffu_3_19, nfr_3_20, ffr_3_20, nfu_3_20, ffu_3_20, nfi_3_21, ffi_3_21, sX3_octet_33, sX3_octet_34]
      refine And.intro (by decide) ?_
      rw [sX3_octet_37]
      refine And.intro (fun _ => ?_) (fun c => absurd (by decide) c)
      simp only [sX3_octet_44, sX3_octet_45, sX3_octet_48, sX3_octet_51, sX3_octet_52, sX3_octet_53, sX3_octet_54, sX3_octet_55, sX3_octet_56, sX3_octet_57, Option.some.injEq, Sum.inr.injEq, Sum.inl.injEq, Prod.mk.injEq, true_and, and_true, exists_eq_left', exists_eq_left, exists_eq_right, exists_eq_right', exists_and_left, exists_and_right, List.getElem?_cons_succ, List.getElem?_cons_zero, List.length_cons, List.length_nil, List.set_cons_zero, List.set_cons_succ, Option.toList_some, Option.toList_none, List.nil_append, List.cons_append, mj_up_s, true_or, or_true, Nat.sub_zero, and_assoc, b10, not_true_eq_false, not_false_eq_true, false_implies, true_implies, implies_true, eq_self, and_self, rf_some, rf_none, mj_up_n ne, i10, e1, nI_cl (show 600 * q + t < 2147483648 by omega), a10 t t2]
      refine And.intro (vp_in_nI (show _ < 12000 by omega) (by decide)) ?_
      have e : (nI (S_pb S q t)).toInt8.toInt32 = bS (S_pb S q t) := rfl
      rw [e]
      exact And.intro (bS_narrow _) (hQ _ ⟨Xw X 0 0, A, hM.putX 0 0, hR.x0, Xw_s⟩)
    · rw [if_neg hi]
      have eo : op_oct S (nI q) i = none := by
        unfold op_oct
        rw [if_neg]
        rintro ⟨-, q1, q2⟩
        rw [nI_cl j1] at q2
        apply hi
        obtain ⟨t, t1, rfl, t3⟩ := i32_of (x := i) (by clear hQ none_ hM hR i9 i10 hi; (simp only [Int32.le_iff_toInt_le, Int32.lt_iff_toInt_lt, i32_eq, i32_0, i32_m1, i32_600, i32_60, i32_20, i32_99, i32_10, i32_1, i32_2] at *; omega))
        have z := nI_tI (n := S_pz S q) (by omega)
        exact cl_iff.mpr ⟨t, rfl, t1, by clear hQ none_ hM hR i9 i10 hi; (simp only [Int32.le_iff_toInt_le, Int32.lt_iff_toInt_lt, i32_eq, i32_0, i32_m1, i32_600, i32_60, i32_20, i32_99, i32_10, i32_1, i32_2] at *; omega)⟩
      simp only [sX3_octet_22, Option.some.injEq, Sum.inr.injEq, Sum.inl.injEq, Prod.mk.injEq, true_and, and_true, exists_eq_left', exists_eq_left, exists_eq_right, exists_eq_right', exists_and_left, exists_and_right, List.getElem?_cons_succ, List.getElem?_cons_zero, List.length_cons, List.length_nil, List.set_cons_zero, List.set_cons_succ, Option.toList_some, Option.toList_none, List.nil_append, List.cons_append, mj_up_s, true_or, or_true, Nat.sub_zero, and_assoc, b10, not_true_eq_false, not_false_eq_true, false_implies, true_implies, implies_true, eq_self, and_self, rf_some, rf_none]
      exact none_ eo
  · rw [if_neg hc]
    simp only [sX3_octet_6, Option.some.injEq, Sum.inr.injEq, Sum.inl.injEq, Prod.mk.injEq, true_and, and_true, exists_eq_left', exists_eq_left, exists_eq_right, exists_eq_right', exists_and_left, exists_and_right, List.getElem?_cons_succ, List.getElem?_cons_zero, List.length_cons, List.length_nil, List.set_cons_zero, List.set_cons_succ, Option.toList_some, Option.toList_none, List.nil_append, List.cons_append, mj_up_s, true_or, or_true, Nat.sub_zero, and_assoc, b10, not_true_eq_false, not_false_eq_true, false_implies, true_implies, implies_true, eq_self, and_self, rf_some, rf_none]
    exact none_ (if_neg (fun z => hc z.1))
set_option maxRecDepth 100000 in
theorem r_extend (hf : 3 ≤ f) (hw : 66 ≤ w) (hM : MHF h0 h AD X A) (hR : CM S X A) (hW : WF S) (hE : ACY S) {p o : Int32} (hQ : ∀ h', RK h0 AD (op_extend S p o).2 0 h' → Q (some (.int (op_extend S p o).1)) h' n) : mj_bk f w 80 [.ref (AD 6 0), .int p, .int o] h n mc ms Q := by
  have w1 := hW.2.1
  refine mj_begin (by omega) (by decide) (by show 23 ≤ w; omega) rfl ?_
  show mj_W _ _ 80 mj_noZ Q 0 [.ref (AD 6 0), .int p, .int o, .retAddr 0] [] h n mc ms
  simp only [sX3_extend_0, sX3_extend_1, sX3_extend_2, sX3_extend_5, sX3_extend_6, hM.ob, nfi_3_0, ffi_3_0, nfi_3_1, ffi_3_1, nfr_3_2, ffr_3_2, nfu_3_2, ffu_3_2, nfr_3_3, ffr_3_3, nfu_3_3, ffu_3_3, nfr_3_4, ffr_3_4, nfu_3_4, ffu_3_4, nfr_3_5, ffr_3_5, nfu_3_5, ffu_3_5, nfr_3_6, ffr_3_6, nfu_3_6, ffu_3_6, nfi_3_7, ffi_3_7, nfr_3_8, ffr_3_8, nfu_3_8, ffu_3_8, nfr_3_9, ffr_3_9, nfu_3_9, ffu_3_9, nfr_3_10, ffr_3_10, nfu_3_10, ffu_3_10, nfr_3_11, ffr_3_11, nfu_3_11, ffu_3_11, nfr_3_12, ffr_3_12, nfu_3_12, ffu_3_12, nfr_3_13, ffr_3_13, nfu_3_13, ffu_3_13, nfi_3_14, ffi_3_14, nfi_3_15, ffi_3_15, nfr_3_16, ffr_3_16, nfu_3_16, ffu_3_16, nfr_3_17, ffr_3_17, nfu_3_17, ffu_3_17, nfr_3_18, ffr_3_18, nfu_3_18, ffu_3_18, nfr_3_19, ffr_3_19, nfu_3_19, ffu_3_19, nfr_3_20, ffr_3_20, nfu_3_20, ffu_3_20, nfi_3_21, ffi_3_21, Option.some.injEq, Sum.inr.injEq, Sum.inl.injEq, Prod.mk.injEq, true_and, and_true, exists_eq_left', exists_eq_left, exists_eq_right, exists_eq_right', exists_and_left, exists_and_right, List.getElem?_cons_succ, List.getElem?_cons_zero, List.length_cons, List.length_nil, List.set_cons_zero, List.set_cons_succ, Option.toList_some, Option.toList_none, List.nil_append, List.cons_append, mj_up_s, true_or, or_true, Nat.sub_zero, and_assoc, b10, not_true_eq_false, not_false_eq_true, false_implies, true_implies, implies_true, eq_self, and_self, rf_some, rf_none]
  refine And.intro (by decide) ?_
  generalize hH : mj_up h (AD 6 0) _ = h1
  have hM1 : MHF h0 h1 AD (Xw X 0 0) A := hH ▸ hM.putX 0 0
  have hR1 : CM S (Xw X 0 0) A := hR.x0
  clear hH
  refine sX3_extend_7z hM1.ob rfl (r_isPack (by omega) (by show 43 ≤ w - 23; omega) hM1 hR1 hW ?_)
  unfold op_extend at hQ
  by_cases hc : pkI S p = true
  · rw [if_pos hc]
    obtain ⟨i, rfl, j1, j2⟩ := cl_iff.mp hc
    rw [nI_cl j1] at hQ
    obtain ⟨a6, a7, a8, a9, a10⟩ := hR.2.2.2.2.2.1 i j2
    have i8 := hM1.ar 8 (by omega) (by omega)
    have vi : vp_in (nI i) 20 := vp_in_nI (by omega) (by decide)
    let rI : Nat → Int32 := fun r => if r = 0 then -1 else nI (r - 1)
    have rI_s : ∀ q, rI (q + 1) = nI q := fun q => by show (if q + 1 = 0 then _ else _) = _; rw [if_neg (by omega)]; rfl
    have tail : ∀ r, r ≤ S_np S → o = rI r → (∀ h', RK h0 AD (if leadsN S i r 20 = true then ((0 : Int32), S) else (1, S_pack S i (S_ct S i) (S_fs S i) r (S_pz S i) (S_pb S i))).2 0 h' → Q (some (.int (if leadsN S i r 20 = true then ((0 : Int32), S) else (1, S_pack S i (S_ct S i) (S_fs S i) r (S_pz S i) (S_pb S i))).1)) h' n) → mj_W (f - 1) (w - (19 + mj_maxL 80)) 80 mj_noZ Q 29 [.ref (AD 6 0), .int (nI i), .int o, .retAddr 0] [] h1 n mc ms := by
      intro r hr ho hQ
      have loop : ∀ m s, s ≤ S_np S → chEnd S s m = true → leadsN S i s m = leadsN S i r 20 → mj_W (f - 1) (w - (19 + mj_maxL 80)) 80 mj_noZ Q 31 [.ref (AD 6 0), .int (nI i), .int o, .int (rI s)] [] h1 n mc ms := by
        have done : leadsN S i r 20 = false → mj_W (f - 1) (w - (19 + mj_maxL 80)) 80 mj_noZ Q 31 [.ref (AD 6 0), .int (nI i), .int o, .int (rI 0)] [] h1 n mc ms := by
          intro hl
          rw [hl, if_neg (by decide)] at hQ
          rw [sX3_extend_31, sX3_extend_32, sX3_extend_33]
          refine And.intro (fun _ => ?_) (fun c => absurd rfl c)
          simp only [sX3_extend_53, sX3_extend_54, sX3_extend_57, sX3_extend_58, sX3_extend_59, sX3_extend_60, sX3_extend_61, hM1.ob, i8, Option.some.injEq, Sum.inr.injEq, Sum.inl.injEq, Prod.mk.injEq, true_and, and_true, exists_eq_left', exists_eq_left, exists_eq_right, exists_eq_right', exists_and_left, exists_and_right, List.getElem?_cons_succ, List.getElem?_cons_zero, List.length_cons, List.length_nil, List.set_cons_zero, List.set_cons_succ, Option.toList_some, Option.toList_none, List.nil_append, List.cons_append, mj_up_s, true_or, or_true, Nat.sub_zero, and_assoc, b10, not_true_eq_false, not_false_eq_true, false_implies, true_implies, implies_true, eq_self, and_self, rf_some, rf_none, nI_cl j1]
          refine And.intro vi ?_
          refine hQ _ ⟨Xw X 0 0, Aw A 8 i o, hM1.putA 8 i o (by omega) (by omega), ?_, Xw_s⟩
          refine CM_pack hR hW j2 S_pack_same (Xw_n (by omega)) (Xw_n (by omega)) (Xw_n (by omega)) (fun j h1 h2 => by rw [Aw_n (by omega)]) (fun k hk => ⟨by rw [Aw_n (by omega)], by rw [Aw_n (by omega)], by rw [Aw_s, pk_un hk], by rw [Aw_n (by omega)]⟩) (fun x hx => by rw [Aw_n (by omega)]) ⟨?_, ?_, ?_, ?_, fun j hj => ?_⟩
          · rw [Aw_n (by omega), S_pack_ct]; exact a6
          · rw [Aw_n (by omega), S_pack_fs]; exact a7
          · rw [Aw_s, pk_us, S_pack_ex]; exact ho
          · rw [Aw_n (by omega), S_pack_pz]; exact a9
          · rw [S_pack_pz] at hj
            rw [Aw_n (by omega), S_pack_pb]; exact a10 j hj
        intro m
        induction m with
        | zero =>
          intro s hs hch hl
          have hs0 : s = 0 := by
            cases s with
            | zero => rfl
            | succ q => simp [chEnd] at hch
          subst hs0
          exact done (by rw [← hl]; rfl)
        | succ m ih =>
          intro s hs hch hl
          cases s with
          | zero => exact done (by rw [← hl]; rfl)
          | succ q =>
            have hq : q < S_np S := by omega
            obtain ⟨b6, b7, b8, b9, b10⟩ := hR.2.2.2.2.2.1 q hq
            have vq : vp_in (nI q) 20 := vp_in_nI (by omega) (by decide)
            have hex := (hW.2.2.2.2.2 q hq).2
            rw [rI_s, sX3_extend_31, sX3_extend_32, sX3_extend_33]
            refine And.intro (fun c => absurd c (nIm1 (by omega))) (fun _ => ?_)
            rw [sX3_extend_36, sX3_extend_37, sX3_extend_38]
            rw [show leadsN S i (q + 1) (m + 1) = if q = i then true else leadsN S i (S_ex S q) m from rfl] at hl
            by_cases hqi : q = i
            · rw [if_pos hqi] at hl
              refine And.intro (fun c => absurd (by rw [hqi]) c) (fun _ => ?_)
              simp only [sX3_extend_41, sX3_extend_42]
              rw [← hl, if_pos rfl] at hQ
              exact hQ h1 ⟨_, A, hM1, hR1, Xw_s⟩
            · rw [if_neg hqi] at hl
              refine And.intro (fun _ => ?_) (fun c => absurd (fun e => hqi ((nI_eq (by omega) (by omega)).mp e)) c)
              simp only [sX3_extend_43, sX3_extend_44, sX3_extend_47, sX3_extend_48, sX3_extend_49, sX3_extend_50, hM1.ob, i8, Option.some.injEq, Sum.inr.injEq, Sum.inl.injEq, Prod.mk.injEq, true_and, and_true, exists_eq_left', exists_eq_left, exists_eq_right, exists_eq_right', exists_and_left, exists_and_right, List.getElem?_cons_succ, List.getElem?_cons_zero, List.length_cons, List.length_nil, List.set_cons_zero, List.set_cons_succ, Option.toList_some, Option.toList_none, List.nil_append, List.cons_append, mj_up_s, true_or, or_true, Nat.sub_zero, and_assoc, b10, not_true_eq_false, not_false_eq_true, false_implies, true_implies, implies_true, eq_self, and_self, rf_some, rf_none, nI_cl (show q < 2147483648 by omega), b8]
              exact And.intro vq (ih (S_ex S q) hex hch hl)
      simp only [sX3_extend_29, sX3_extend_30]
      have := loop 20 r hr (hE r hr) rfl
      rw [← ho] at this
      exact this
    simp only [sX3_extend_10, Option.some.injEq, Sum.inr.injEq, Sum.inl.injEq, Prod.mk.injEq, true_and, and_true, exists_eq_left', exists_eq_left, exists_eq_right, exists_eq_right', exists_and_left, exists_and_right, List.getElem?_cons_succ, List.getElem?_cons_zero, List.length_cons, List.length_nil, List.set_cons_zero, List.set_cons_succ, Option.toList_some, Option.toList_none, List.nil_append, List.cons_append, mj_up_s, true_or, or_true, Nat.sub_zero, and_assoc, b10, not_true_eq_false, not_false_eq_true, false_implies, true_implies, implies_true, eq_self, and_self, rf_some, rf_none, sX3_extend_13, sX3_extend_14, sX3_extend_15]
    refine And.intro (fun c => ?_) (fun c => ?_)
    · rw [if_pos ⟨hc, Or.inr c⟩] at hQ
      have e : exr S o = 0 := if_pos c
      rw [e] at hQ
      exact tail 0 (by omega) c hQ
    · rw [sX3_extend_18, sX3_extend_19]
      refine sX3_extend_20z hM1.ob rfl (r_isPack (by omega) (by show 43 ≤ w - 23; omega) hM1 hR1 hW ?_)
      by_cases hc2 : pkI S o = true
      · rw [if_pos hc2]
        rw [if_pos ⟨hc, Or.inl hc2⟩] at hQ
        obtain ⟨q, rfl, q1, q2⟩ := cl_iff.mp hc2
        have e : exr S (nI q) = q + 1 := by
          unfold exr
          rw [if_neg (nIm1 q1), nI_cl q1]
        rw [e] at hQ
        simp only [sX3_extend_23, Option.some.injEq, Sum.inr.injEq, Sum.inl.injEq, Prod.mk.injEq, true_and, and_true, exists_eq_left', exists_eq_left, exists_eq_right, exists_eq_right', exists_and_left, exists_and_right, List.getElem?_cons_succ, List.getElem?_cons_zero, List.length_cons, List.length_nil, List.set_cons_zero, List.set_cons_succ, Option.toList_some, Option.toList_none, List.nil_append, List.cons_append, mj_up_s, true_or, or_true, Nat.sub_zero, and_assoc, b10, not_true_eq_false, not_false_eq_true, false_implies, true_implies, implies_true, eq_self, and_self, rf_some, rf_none]
        exact tail (q + 1) (by omega) (rI_s q).symm hQ
      · rw [if_neg hc2]
        rw [if_neg (fun z => z.2.elim hc2 c)] at hQ
        simp only [sX3_extend_23, Option.some.injEq, Sum.inr.injEq, Sum.inl.injEq, Prod.mk.injEq, true_and, and_true, exists_eq_left', exists_eq_left, exists_eq_right, exists_eq_right', exists_and_left, exists_and_right, List.getElem?_cons_succ, List.getElem?_cons_zero, List.length_cons, List.length_nil, List.set_cons_zero, List.set_cons_succ, Option.toList_some, Option.toList_none, List.nil_append, List.cons_append, mj_up_s, true_or, or_true, Nat.sub_zero, and_assoc, b10, not_true_eq_false, not_false_eq_true, false_implies, true_implies, implies_true, eq_self, and_self, rf_some, rf_none, sX3_extend_26, sX3_extend_28]
        exact hQ h1 ⟨_, A, hM1, hR1, Xw_s⟩
  · rw [if_neg hc]
    rw [if_neg (fun z => hc z.1)] at hQ
    simp only [sX3_extend_10, Option.some.injEq, Sum.inr.injEq, Sum.inl.injEq, Prod.mk.injEq, true_and, and_true, exists_eq_left', exists_eq_left, exists_eq_right, exists_eq_right', exists_and_left, exists_and_right, List.getElem?_cons_succ, List.getElem?_cons_zero, List.length_cons, List.length_nil, List.set_cons_zero, List.set_cons_succ, Option.toList_some, Option.toList_none, List.nil_append, List.cons_append, mj_up_s, true_or, or_true, Nat.sub_zero, and_assoc, b10, not_true_eq_false, not_false_eq_true, false_implies, true_implies, implies_true, eq_self, and_self, rf_some, rf_none, sX3_extend_26, sX3_extend_28]
    exact hQ h1 ⟨_, A, hM1, hR1, Xw_s⟩
set_option maxRecDepth 100000 in
theorem r_row (hf : 3 ≤ f) (hw : 67 ≤ w) (hM : MHF h0 h AD X A) (hR : CM S X A) (hW : WF S) {o p x : Int32} (hQ : ∀ h', RK h0 AD (op_row S o p x).2 0 h' → Q (some (.int (op_row S o p x).1)) h' n) : mj_bk f w 81 [.ref (AD 6 0), .int o, .int p, .int x] h n mc ms Q := by
  have w1 := hW.1
  have w2 := hW.2.1
  refine mj_begin (by omega) (by decide) (by show 24 ≤ w; omega) rfl ?_
  show mj_W _ _ 81 mj_noZ Q 0 [.ref (AD 6 0), .int o, .int p, .int x, .retAddr 0] [] h n mc ms
  simp only [sX3_row_0, sX3_row_1, sX3_row_2, sX3_row_5, sX3_row_6, hM.ob, nfi_3_0, ffi_3_0, nfi_3_1, ffi_3_1, nfr_3_2, ffr_3_2, nfu_3_2, ffu_3_2, nfr_3_3, ffr_3_3, nfu_3_3, ffu_3_3, nfr_3_4, ffr_3_4, nfu_3_4, ffu_3_4, nfr_3_5, ffr_3_5, nfu_3_5, ffu_3_5, nfr_3_6, ffr_3_6, nfu_3_6, ffu_3_6, nfi_3_7, ffi_3_7, nfr_3_8, ffr_3_8, nfu_3_8, ffu_3_8, nfr_3_9, ffr_3_9, nfu_3_9, ffu_3_9, nfr_3_10, ffr_3_10, nfu_3_10, ffu_3_10, nfr_3_11, ffr_3_11, nfu_3_11, ffu_3_11, nfr_3_12, ffr_3_12, nfu_3_12, ffu_3_12, nfr_3_13, ffr_3_13, nfu_3_13, ffu_3_13, nfi_3_14, ffi_3_14, nfi_3_15, ffi_3_15, nfr_3_16, ffr_3_16, nfu_3_16, ffu_3_16, nfr_3_17, ffr_3_17, nfu_3_17, ffu_3_17, nfr_3_18, ffr_3_18, nfu_3_18, ffu_3_18, nfr_3_19, ffr_3_19, nfu_3_19, ffu_3_19, nfr_3_20, ffr_3_20, nfu_3_20, ffu_3_20, nfi_3_21, ffi_3_21, Option.some.injEq, Sum.inr.injEq, Sum.inl.injEq, Prod.mk.injEq, true_and, and_true, exists_eq_left', exists_eq_left, exists_eq_right, exists_eq_right', exists_and_left, exists_and_right, List.getElem?_cons_succ, List.getElem?_cons_zero, List.length_cons, List.length_nil, List.set_cons_zero, List.set_cons_succ, Option.toList_some, Option.toList_none, List.nil_append, List.cons_append, mj_up_s, true_or, or_true, Nat.sub_zero, and_assoc, b10, not_true_eq_false, not_false_eq_true, false_implies, true_implies, implies_true, eq_self, and_self, rf_some, rf_none]
  refine And.intro (by decide) ?_
  generalize hH : mj_up h (AD 6 0) _ = h1
  have hM1 : MHF h0 h1 AD (Xw X 0 0) A := hH ▸ hM.putX 0 0
  have hR1 : CM S (Xw X 0 0) A := hR.x0
  clear hH
  refine sX3_row_7z hM1.ob rfl (r_isObject (by omega) (by show 43 ≤ w - 24; omega) hM1 hR1 hW ?_)
  unfold op_row at hQ
  have bad : ¬ (obI S o = true ∧ pkI S p = true ∧ S_kd S o.toNatClampNeg ≠ 1 ∧ 0 ≤ x ∧ x ≤ 99) → mj_W (f - 1) (w - (19 + mj_maxL 81)) 81 mj_noZ Q 41 [.ref (AD 6 0), .int o, .int p, .int x, .retAddr 0] [] h1 n mc ms := fun hb => by
    rw [if_neg hb] at hQ
    simp only [sX3_row_41, sX3_row_43]
    exact hQ h1 ⟨_, A, hM1, hR1, Xw_s⟩
  by_cases hc : obI S o = true
  · rw [if_pos hc]
    obtain ⟨i, rfl, j1, j2⟩ := cl_iff.mp hc
    obtain ⟨a1, a4, a5, a2⟩ := hR.2.2.2.1 i j2
    obtain ⟨u1, u2, u3, u4, u5⟩ := hW.2.2.2.1 i j2
    have vi : vp_in (nI i) 60 := vp_in_nI (by omega) (by decide)
    simp only [sX3_row_10, Option.some.injEq, Sum.inr.injEq, Sum.inl.injEq, Prod.mk.injEq, true_and, and_true, exists_eq_left', exists_eq_left, exists_eq_right, exists_eq_right', exists_and_left, exists_and_right, List.getElem?_cons_succ, List.getElem?_cons_zero, List.length_cons, List.length_nil, List.set_cons_zero, List.set_cons_succ, Option.toList_some, Option.toList_none, List.nil_append, List.cons_append, mj_up_s, true_or, or_true, Nat.sub_zero, and_assoc, b10, not_true_eq_false, not_false_eq_true, false_implies, true_implies, implies_true, eq_self, and_self, rf_some, rf_none, sX3_row_13, sX3_row_14]
    refine sX3_row_15z hM1.ob rfl (r_isPack (by omega) (by show 43 ≤ w - 24; omega) hM1 hR1 hW ?_)
    by_cases hc2 : pkI S p = true
    · rw [if_pos hc2]
      obtain ⟨q, rfl, q1, q2⟩ := cl_iff.mp hc2
      have i1 := hM1.ar 1 (by omega) (by omega)
      simp only [sX3_row_18, Option.some.injEq, Sum.inr.injEq, Sum.inl.injEq, Prod.mk.injEq, true_and, and_true, exists_eq_left', exists_eq_left, exists_eq_right, exists_eq_right', exists_and_left, exists_and_right, List.getElem?_cons_succ, List.getElem?_cons_zero, List.length_cons, List.length_nil, List.set_cons_zero, List.set_cons_succ, Option.toList_some, Option.toList_none, List.nil_append, List.cons_append, mj_up_s, true_or, or_true, Nat.sub_zero, and_assoc, b10, not_true_eq_false, not_false_eq_true, false_implies, true_implies, implies_true, eq_self, and_self, rf_some, rf_none, sX3_row_21, sX3_row_22, sX3_row_25, sX3_row_26, sX3_row_27, sX3_row_28, hM1.ob, i1, nI_cl j1, a1]
      refine And.intro vi ?_
      refine And.intro (fun c => bad (fun z => z.2.2.1 (by rw [nI_cl j1]; exact (nI_eq (by omega) (by omega)).mp (show nI _ = nI 1 from c)))) (fun c => ?_)
      simp only [sX3_row_31, sX3_row_32, sX3_row_33]
      refine sX3_row_35z rfl (r_isIn (by omega) (by show 22 ≤ w - 24; omega) ?_)
      by_cases hc3 : 0 ≤ x ∧ x ≤ 99
      · rw [if_pos hc3]
        have hk : S_kd S i ≠ 1 := fun e => c (by rw [e]; rfl)
        rw [nI_cl j1, nI_cl q1] at hQ
        rw [if_pos ⟨hc, hc2, hk, hc3.1, hc3.2⟩] at hQ
        obtain ⟨t, t1, rfl, t3⟩ := i32_of (x := x) (by clear hQ bad hM1 hR1 i1; (simp only [Int32.le_iff_toInt_le, Int32.lt_iff_toInt_lt, i32_eq, i32_0, i32_m1, i32_600, i32_60, i32_20, i32_99, i32_10, i32_1, i32_2] at *; omega))
        rw [nI_cl t1] at hQ
        have ht99 : t ≤ 99 := by clear hQ bad hM1 hR1 i1; (simp only [Int32.le_iff_toInt_le, Int32.lt_iff_toInt_lt, i32_eq, i32_0, i32_m1, i32_600, i32_60, i32_20, i32_99, i32_10, i32_1, i32_2] at *; omega)
        have i4 := hM1.ar 4 (by omega) (by omega)
        -- behind the question whether it was in a pack: the answer b
        have tail : ∀ b : Int32, (∀ h', RK h0 AD (S_item S i (S_kd S i) 0 (S_by S i) (q + 1) t) 0 h' → Q (some (.int b)) h' n) → mj_W (f - 1) (w - (19 + mj_maxL 81)) 81 mj_noZ Q 59 [.ref (AD 6 0), .int (nI i), .int (nI q), .int (nI t), .retAddr 0] [.int b] h1 n mc ms := by
          intro b hQ
          simp only [sX3_row_59, sX3_row_61, sX3_row_62, sX3_row_65, sX3_row_66, sX3_row_67, hM1.ob, i4, Option.some.injEq, Sum.inr.injEq, Sum.inl.injEq, Prod.mk.injEq, true_and, and_true, exists_eq_left', exists_eq_left, exists_eq_right, exists_eq_right', exists_and_left, exists_and_right, List.getElem?_cons_succ, List.getElem?_cons_zero, List.length_cons, List.length_nil, List.set_cons_zero, List.set_cons_succ, Option.toList_some, Option.toList_none, List.nil_append, List.cons_append, mj_up_s, true_or, or_true, Nat.sub_zero, and_assoc, b10, not_true_eq_false, not_false_eq_true, false_implies, true_implies, implies_true, eq_self, and_self, rf_some, rf_none, nI_cl j1]
          refine And.intro vi ?_
          generalize hH : mj_up h1 (AD 6 4) _ = h2
          have hM2 : MHF h0 h2 AD (Xw X 0 0) (Aw A 4 i (nI q)) := hH ▸ hM1.putA 4 i (nI q) (by omega) (by omega)
          clear hH
          have i5 := hM2.ar 5 (by omega) (by omega)
          simp only [sX3_row_68, sX3_row_69, sX3_row_72, sX3_row_73, sX3_row_74, hM2.ob, i5, Option.some.injEq, Sum.inr.injEq, Sum.inl.injEq, Prod.mk.injEq, true_and, and_true, exists_eq_left', exists_eq_left, exists_eq_right, exists_eq_right', exists_and_left, exists_and_right, List.getElem?_cons_succ, List.getElem?_cons_zero, List.length_cons, List.length_nil, List.set_cons_zero, List.set_cons_succ, Option.toList_some, Option.toList_none, List.nil_append, List.cons_append, mj_up_s, true_or, or_true, Nat.sub_zero, and_assoc, b10, not_true_eq_false, not_false_eq_true, false_implies, true_implies, implies_true, eq_self, and_self, rf_some, rf_none, nI_cl j1]
          refine And.intro vi ?_
          generalize hH : mj_up h2 (AD 6 5) _ = h3
          have hM3 : MHF h0 h3 AD (Xw X 0 0) (Aw (Aw A 4 i (nI q)) 5 i (nI t)) := hH ▸ hM2.putA 5 i (nI t) (by omega) (by omega)
          clear hH
          have i2 := hM3.ar 2 (by omega) (by omega)
          simp only [sX3_row_75, sX3_row_76, sX3_row_79, sX3_row_80, sX3_row_81, sX3_row_82, sX3_row_84, hM3.ob, i2, Option.some.injEq, Sum.inr.injEq, Sum.inl.injEq, Prod.mk.injEq, true_and, and_true, exists_eq_left', exists_eq_left, exists_eq_right, exists_eq_right', exists_and_left, exists_and_right, List.getElem?_cons_succ, List.getElem?_cons_zero, List.length_cons, List.length_nil, List.set_cons_zero, List.set_cons_succ, Option.toList_some, Option.toList_none, List.nil_append, List.cons_append, mj_up_s, true_or, or_true, Nat.sub_zero, and_assoc, b10, not_true_eq_false, not_false_eq_true, false_implies, true_implies, implies_true, eq_self, and_self, rf_some, rf_none, nI_cl j1]
          refine And.intro vi ?_
          refine hQ _ ⟨Xw X 0 0, Aw (Aw (Aw A 4 i (nI q)) 5 i (nI t)) 2 i 0, hM3.putA 2 i 0 (by omega) (by omega), ?_, Xw_s⟩
          refine CM_item hR hW j2 S_item_same (Xw_n (by omega)) (Xw_n (by omega)) (Xw_n (by omega)) (fun j h1 h2 h3 => ?_) (fun k hk => ⟨?_, ?_, ?_, ?_⟩) (fun x hx => ?_) ⟨?_, ?_, ?_, fun hz => ?_⟩
          · rw [Aw_n (by omega), Aw_n (by omega), Aw_n (by omega)]
          · rw [Aw_n (by omega), Aw_n (by omega), Aw_n (by omega)]
          · rw [Aw_s, pk_un hk, Aw_n (by omega), Aw_n (by omega)]
          · rw [Aw_n (by omega), Aw_n (by omega), Aw_s, pk_un hk]
          · rw [Aw_n (by omega), Aw_s, pk_un hk, Aw_n (by omega)]
          · rw [Aw_n (by omega), Aw_n (by omega), Aw_n (by omega)]
          · rw [Aw_n (by omega), Aw_n (by omega), Aw_n (by omega), S_item_kd]; exact a1
          · rw [Aw_n (by omega), Aw_n (by omega), Aw_s, pk_us, S_item_pk, if_neg (by omega)]; rfl
          · rw [Aw_n (by omega), Aw_s, pk_us, S_item_ix]
          · rw [S_item_pk] at hz; omega
        simp only [sX3_row_38, Option.some.injEq, Sum.inr.injEq, Sum.inl.injEq, Prod.mk.injEq, true_and, and_true, exists_eq_left', exists_eq_left, exists_eq_right, exists_eq_right', exists_and_left, exists_and_right, List.getElem?_cons_succ, List.getElem?_cons_zero, List.length_cons, List.length_nil, List.set_cons_zero, List.set_cons_succ, Option.toList_some, Option.toList_none, List.nil_append, List.cons_append, mj_up_s, true_or, or_true, Nat.sub_zero, and_assoc, b10, not_true_eq_false, not_false_eq_true, false_implies, true_implies, implies_true, eq_self, and_self, rf_some, rf_none, sX3_row_44, sX3_row_45, sX3_row_48, sX3_row_49, sX3_row_50, sX3_row_51, hM1.ob, i4, nI_cl j1, a4]
        refine And.intro vi ?_
        by_cases hp : S_pk S i = 0
        · rw [if_pos hp] at hQ ⊢
          refine And.intro (fun c => absurd rfl c) (fun _ => ?_)
          simp only [sX3_row_54, sX3_row_55]
          exact tail 0 hQ
        · rw [if_neg hp] at hQ ⊢
          refine And.intro (fun _ => ?_) (fun c => absurd (nIm1 (x := S_pk S i - 1) (by omega)) c)
          simp only [sX3_row_58]
          exact tail 1 hQ
      · rw [if_neg hc3]
        simp only [sX3_row_38, Option.some.injEq, Sum.inr.injEq, Sum.inl.injEq, Prod.mk.injEq, true_and, and_true, exists_eq_left', exists_eq_left, exists_eq_right, exists_eq_right', exists_and_left, exists_and_right, List.getElem?_cons_succ, List.getElem?_cons_zero, List.length_cons, List.length_nil, List.set_cons_zero, List.set_cons_succ, Option.toList_some, Option.toList_none, List.nil_append, List.cons_append, mj_up_s, true_or, or_true, Nat.sub_zero, and_assoc, b10, not_true_eq_false, not_false_eq_true, false_implies, true_implies, implies_true, eq_self, and_self, rf_some, rf_none]
        exact bad (fun z => hc3 z.2.2.2)
    · rw [if_neg hc2]
      simp only [sX3_row_18, Option.some.injEq, Sum.inr.injEq, Sum.inl.injEq, Prod.mk.injEq, true_and, and_true, exists_eq_left', exists_eq_left, exists_eq_right, exists_eq_right', exists_and_left, exists_and_right, List.getElem?_cons_succ, List.getElem?_cons_zero, List.length_cons, List.length_nil, List.set_cons_zero, List.set_cons_succ, Option.toList_some, Option.toList_none, List.nil_append, List.cons_append, mj_up_s, true_or, or_true, Nat.sub_zero, and_assoc, b10, not_true_eq_false, not_false_eq_true, false_implies, true_implies, implies_true, eq_self, and_self, rf_some, rf_none]
      exact bad (fun z => hc2 z.2.1)
  · rw [if_neg hc]
    simp only [sX3_row_10, Option.some.injEq, Sum.inr.injEq, Sum.inl.injEq, Prod.mk.injEq, true_and, and_true, exists_eq_left', exists_eq_left, exists_eq_right, exists_eq_right', exists_and_left, exists_and_right, List.getElem?_cons_succ, List.getElem?_cons_zero, List.length_cons, List.length_nil, List.set_cons_zero, List.set_cons_succ, Option.toList_some, Option.toList_none, List.nil_append, List.cons_append, mj_up_s, true_or, or_true, Nat.sub_zero, and_assoc, b10, not_true_eq_false, not_false_eq_true, false_implies, true_implies, implies_true, eq_self, and_self, rf_some, rf_none]
    exact bad (fun z => hc z.1)
set_option maxRecDepth 100000 in
theorem r_told (hf : 2 ≤ f) (hw : 44 ≤ w) (hM : MHF h0 h AD X A) (hR : CM S X A) (hW : WF S) {i wh : Int32} (hQ : ∀ h', RK h0 AD S 0 h' → Q (some (.int (op_told S i wh))) h' n) : mj_bk f w 85 [.ref (AD 6 0), .int i, .int wh] h n mc ms Q := by
  have w1 := hW.2.2.1
  refine mj_begin (by omega) (by decide) (by show 22 ≤ w; omega) rfl ?_
  show mj_W _ _ 85 mj_noZ Q 0 [.ref (AD 6 0), .int i, .int wh] [] h n mc ms
  simp only [sX3_told_0, sX3_told_1, sX3_told_2, sX3_told_5, sX3_told_6, hM.ob, nfi_3_0, ffi_3_0, nfi_3_1, ffi_3_1, nfr_3_2, ffr_3_2, nfu_3_2, ffu_3_2, nfr_3_3, ffr_3_3, nfu_3_3, ffu_3_3, nfr_3_4, ffr_3_4, nfu_3_4, ffu_3_4, nfr_3_5, ffr_3_5, nfu_3_5, ffu_3_5, nfr_3_6, ffr_3_6, nfu_3_6, ffu_3_6, nfi_3_7, ffi_3_7, nfr_3_8, ffr_3_8, nfu_3_8, ffu_3_8, nfr_3_9, ffr_3_9, nfu_3_9, ffu_3_9, nfr_3_10, ffr_3_10, nfu_3_10, ffu_3_10, nfr_3_11, ffr_3_11, nfu_3_11, ffu_3_11, nfr_3_12, ffr_3_12, nfu_3_12, ffu_3_12, nfr_3_13, ffr_3_13, nfu_3_13, ffu_3_13, nfi_3_14, ffi_3_14, nfi_3_15, ffi_3_15, nfr_3_16, ffr_3_16, nfu_3_16, ffu_3_16, nfr_3_17, ffr_3_17, nfu_3_17, ffu_3_17, nfr_3_18, ffr_3_18, nfu_3_18, ffu_3_18, nfr_3_19, ffr_3_19, nfu_3_19, ffu_3_19, nfr_3_20, ffr_3_20, nfu_3_20, ffu_3_20, nfi_3_21, ffi_3_21, Option.some.injEq, Sum.inr.injEq, Sum.inl.injEq, Prod.mk.injEq, true_and, and_true, exists_eq_left', exists_eq_left, exists_eq_right, exists_eq_right', exists_and_left, exists_and_right, List.getElem?_cons_succ, List.getElem?_cons_zero, List.length_cons, List.length_nil, List.set_cons_zero, List.set_cons_succ, Option.toList_some, Option.toList_none, List.nil_append, List.cons_append, mj_up_s, true_or, or_true, Nat.sub_zero, and_assoc, b10, not_true_eq_false, not_false_eq_true, false_implies, true_implies, implies_true, eq_self, and_self, rf_some, rf_none]
  refine And.intro (by decide) ?_
  generalize hH : mj_up h (AD 6 0) _ = h1
  have hM1 : MHF h0 h1 AD (Xw X 0 0) A := hH ▸ hM.putX 0 0
  have hR1 : CM S (Xw X 0 0) A := hR.x0
  clear hH
  have fin := hQ h1 ⟨_, A, hM1, hR1, Xw_s⟩
  have e15 : (Xw X 0 0) 15 = nI (S_nt S) := hR1.2.2.1
  unfold op_told at fin
  rw [sX3_told_7]
  refine And.intro (fun c0 => ?_) (fun c0 => ?_)
  · rw [if_neg c0] at fin
    simp only [sX3_told_15, sX3_told_16, sX3_told_17, sX3_told_18, sX3_told_21, sX3_told_22, hM1.ob, Option.some.injEq, Sum.inr.injEq, Sum.inl.injEq, Prod.mk.injEq, true_and, and_true, exists_eq_left', exists_eq_left, exists_eq_right, exists_eq_right', exists_and_left, exists_and_right, List.getElem?_cons_succ, List.getElem?_cons_zero, List.length_cons, List.length_nil, List.set_cons_zero, List.set_cons_succ, Option.toList_some, Option.toList_none, List.nil_append, List.cons_append, mj_up_s, true_or, or_true, Nat.sub_zero, and_assoc, b10, not_true_eq_false, not_false_eq_true, false_implies, true_implies, implies_true, eq_self, and_self, rf_some, rf_none]
    refine sX3_told_23z rfl (r_isIn (by omega) (by show 22 ≤ w - 22; omega) ?_)
    rw [e15]
    simp only [isin_cl (o := i) (N := S_nt S) (by omega)]
    by_cases hi : (decide (0 ≤ i) && decide (i.toNatClampNeg < S_nt S)) = true
    · rw [if_pos hi]
      obtain ⟨t, rfl, t1, t2⟩ := cl_iff.mp hi
      obtain ⟨b1, b2⟩ := hR.2.2.2.2.2.2 t t2
      have i12 := hM1.ar 12 (by omega) (by omega)
      have i13 := hM1.ar 13 (by omega) (by omega)
      have vt : vp_in (nI t) 100 := vp_in_nI (by omega) (by decide)
      rw [nI_cl t1] at fin
      simp only [sX3_told_26, Option.some.injEq, Sum.inr.injEq, Sum.inl.injEq, Prod.mk.injEq, true_and, and_true, exists_eq_left', exists_eq_left, exists_eq_right, exists_eq_right', exists_and_left, exists_and_right, List.getElem?_cons_succ, List.getElem?_cons_zero, List.length_cons, List.length_nil, List.set_cons_zero, List.set_cons_succ, Option.toList_some, Option.toList_none, List.nil_append, List.cons_append, mj_up_s, true_or, or_true, Nat.sub_zero, and_assoc, b10, not_true_eq_false, not_false_eq_true, false_implies, true_implies, implies_true, eq_self, and_self, rf_some, rf_none, sX3_told_29, sX3_told_30, sX3_told_31]
      refine sX3_told_32z rfl (r_isIn (by omega) (by show 22 ≤ w - 22; omega) ?_)
      by_cases hc : 0 ≤ wh ∧ wh ≤ 1
      · rw [if_pos hc]
        rw [if_pos ⟨⟨nI_pos' t1, nI_lt t2 (by omega)⟩, hc.1, hc.2⟩] at fin
        simp only [sX3_told_35, Option.some.injEq, Sum.inr.injEq, Sum.inl.injEq, Prod.mk.injEq, true_and, and_true, exists_eq_left', exists_eq_left, exists_eq_right, exists_eq_right', exists_and_left, exists_and_right, List.getElem?_cons_succ, List.getElem?_cons_zero, List.length_cons, List.length_nil, List.set_cons_zero, List.set_cons_succ, Option.toList_some, Option.toList_none, List.nil_append, List.cons_append, mj_up_s, true_or, or_true, Nat.sub_zero, and_assoc, b10, not_true_eq_false, not_false_eq_true, false_implies, true_implies, implies_true, eq_self, and_self, rf_some, rf_none, sX3_told_38, sX3_told_39, sX3_told_42, sX3_told_43, sX3_told_46, sX3_told_47, sX3_told_48, sX3_told_51, sX3_told_52, sX3_told_55, sX3_told_56, sX3_told_57, sX3_told_61, hM1.ob, i12, i13, nI_cl t1, b1, b2]
        refine And.intro (fun c => ?_) (fun c => ?_)
        · rw [if_neg c] at fin; exact And.intro vt fin
        · rw [if_pos (by simpa using c)] at fin; exact And.intro vt fin
      · rw [if_neg hc]
        rw [if_neg (fun z => hc z.2)] at fin
        simp only [sX3_told_35, Option.some.injEq, Sum.inr.injEq, Sum.inl.injEq, Prod.mk.injEq, true_and, and_true, exists_eq_left', exists_eq_left, exists_eq_right, exists_eq_right', exists_and_left, exists_and_right, List.getElem?_cons_succ, List.getElem?_cons_zero, List.length_cons, List.length_nil, List.set_cons_zero, List.set_cons_succ, Option.toList_some, Option.toList_none, List.nil_append, List.cons_append, mj_up_s, true_or, or_true, Nat.sub_zero, and_assoc, b10, not_true_eq_false, not_false_eq_true, false_implies, true_implies, implies_true, eq_self, and_self, rf_some, rf_none, sX3_told_60, sX3_told_61]
        exact fin
    · rw [if_neg hi]
      rw [if_neg] at fin
      · simp only [sX3_told_26, Option.some.injEq, Sum.inr.injEq, Sum.inl.injEq, Prod.mk.injEq, true_and, and_true, exists_eq_left', exists_eq_left, exists_eq_right, exists_eq_right', exists_and_left, exists_and_right, List.getElem?_cons_succ, List.getElem?_cons_zero, List.length_cons, List.length_nil, List.set_cons_zero, List.set_cons_succ, Option.toList_some, Option.toList_none, List.nil_append, List.cons_append, mj_up_s, true_or, or_true, Nat.sub_zero, and_assoc, b10, not_true_eq_false, not_false_eq_true, false_implies, true_implies, implies_true, eq_self, and_self, rf_some, rf_none, sX3_told_60, sX3_told_61]
        exact fin
      · rintro ⟨⟨q1, q2⟩, -⟩
        apply hi
        obtain ⟨t, t1, rfl, t3⟩ := i32_of (x := i) (by clear fin hQ hM1 hR1 e15 hi; (simp only [Int32.le_iff_toInt_le, Int32.lt_iff_toInt_lt, i32_eq, i32_0, i32_m1, i32_600, i32_60, i32_20, i32_99, i32_10, i32_1, i32_2] at *; omega))
        have z := nI_tI (n := S_nt S) (by omega)
        exact cl_iff.mpr ⟨t, rfl, t1, by clear fin hQ hM1 hR1 e15 hi; (simp only [Int32.le_iff_toInt_le, Int32.lt_iff_toInt_lt, i32_eq, i32_0, i32_m1, i32_600, i32_60, i32_20, i32_99, i32_10, i32_1, i32_2] at *; omega)⟩
  · rw [if_pos (by simpa using c0)] at fin
    simp only [sX3_told_10, sX3_told_11, sX3_told_14, hM1.ob, Option.some.injEq, Sum.inr.injEq, Sum.inl.injEq, Prod.mk.injEq, true_and, and_true, exists_eq_left', exists_eq_left, exists_eq_right, exists_eq_right', exists_and_left, exists_and_right, List.getElem?_cons_succ, List.getElem?_cons_zero, List.length_cons, List.length_nil, List.set_cons_zero, List.set_cons_succ, Option.toList_some, Option.toList_none, List.nil_append, List.cons_append, mj_up_s, true_or, or_true, Nat.sub_zero, and_assoc, b10, not_true_eq_false, not_false_eq_true, false_implies, true_implies, implies_true, eq_self, and_self, rf_some, rf_none]
    rw [e15]; exact fin
set_option maxRecDepth 100000 in
theorem r_pair (hf : 5 ≤ f) (hw : 117 ≤ w) (hM : MHF h0 h AD X A) (hR : CM S X A) (hW : WF S) {p k wh : Int32} (hQ : ∀ h', RK h0 AD S 0 h' → Q (some (.int (op_pair S p k wh))) h' n) : mj_bk f w 86 [.ref (AD 6 0), .int p, .int k, .int wh] h n mc ms Q := by
  refine mj_begin (by omega) (by decide) (by show 23 ≤ w; omega) rfl ?_
  show mj_W _ _ 86 mj_noZ Q 0 [.ref (AD 6 0), .int p, .int k, .int wh] [] h n mc ms
  simp only [sX3_pair_0, sX3_pair_1, sX3_pair_2, sX3_pair_5, sX3_pair_6, hM.ob, nfi_3_0, ffi_3_0, nfi_3_1, ffi_3_1, nfr_3_2, ffr_3_2, nfu_3_2, ffu_3_2, nfr_3_3, ffr_3_3, nfu_3_3, ffu_3_3, nfr_3_4, ffr_3_4, nfu_3_4, ffu_3_4, nfr_3_5, ffr_3_5, nfu_3_5, ffu_3_5, nfr_3_6, ffr_3_6, nfu_3_6, ffu_3_6, nfi_3_7, ffi_3_7, nfr_3_8, ffr_3_8, nfu_3_8, ffu_3_8, nfr_3_9, ffr_3_9, nfu_3_9, ffu_3_9, nfr_3_10, ffr_3_10, nfu_3_10, ffu_3_10, nfr_3_11, ffr_3_11, nfu_3_11, ffu_3_11, nfr_3_12, ffr_3_12, nfu_3_12, ffu_3_12, nfr_3_13, ffr_3_13, nfu_3_13, ffu_3_13, nfi_3_14, ffi_3_14, nfi_3_15, ffi_3_15, nfr_3_16, ffr_3_16, nfu_3_16, ffu_3_16, nfr_3_17, ffr_3_17, nfu_3_17, ffu_3_17, nfr_3_18, ffr_3_18, nfu_3_18, ffu_3_18, nfr_3_19, ffr_3_19, nfu_3_19, ffu_3_19, nfr_3_20, ffr_3_20, nfu_3_20, ffu_3_20, nfi_3_21, ffi_3_21, Option.some.injEq, Sum.inr.injEq, Sum.inl.injEq, Prod.mk.injEq, true_and, and_true, exists_eq_left', exists_eq_left, exists_eq_right, exists_eq_right', exists_and_left, exists_and_right, List.getElem?_cons_succ, List.getElem?_cons_zero, List.length_cons, List.length_nil, List.set_cons_zero, List.set_cons_succ, Option.toList_some, Option.toList_none, List.nil_append, List.cons_append, mj_up_s, true_or, or_true, Nat.sub_zero, and_assoc, b10, not_true_eq_false, not_false_eq_true, false_implies, true_implies, implies_true, eq_self, and_self, rf_some, rf_none]
  refine And.intro (by decide) ?_
  generalize hH : mj_up h (AD 6 0) _ = h1
  have hM1 : MHF h0 h1 AD (Xw X 0 0) A := hH ▸ hM.putX 0 0
  have hR1 : CM S (Xw X 0 0) A := hR.x0
  clear hH
  refine sX3_pair_7z hM1.ob rfl (r_isPack (by omega) (by show 43 ≤ w - 23; omega) hM1 hR1 hW ?_)
  have fin := hQ h1 ⟨_, A, hM1, hR1, Xw_s⟩
  by_cases hc : pkI S p = true
  · rw [if_pos hc]
    obtain ⟨q, rfl, j1, j2⟩ := cl_iff.mp hc
    simp only [sX3_pair_10, Option.some.injEq, Sum.inr.injEq, Sum.inl.injEq, Prod.mk.injEq, true_and, and_true, exists_eq_left', exists_eq_left, exists_eq_right, exists_eq_right', exists_and_left, exists_and_right, List.getElem?_cons_succ, List.getElem?_cons_zero, List.length_cons, List.length_nil, List.set_cons_zero, List.set_cons_succ, Option.toList_some, Option.toList_none, List.nil_append, List.cons_append, mj_up_s, true_or, or_true, Nat.sub_zero, and_assoc, b10, not_true_eq_false, not_false_eq_true, false_implies, true_implies, implies_true, eq_self, and_self, rf_some, rf_none, sX3_pair_13, sX3_pair_14, sX3_pair_15]
    refine sX3_pair_16z rfl (r_isIn (by omega) (by show 22 ≤ w - 23; omega) ?_)
    by_cases hc2 : 0 ≤ wh ∧ wh ≤ 2
    · rw [if_pos hc2]
      obtain ⟨t, t1, rfl, t3⟩ := i32_of (x := wh) (by clear fin hQ hM1 hR1; (simp only [Int32.le_iff_toInt_le, Int32.lt_iff_toInt_lt, i32_eq, i32_0, i32_m1, i32_600, i32_60, i32_20, i32_99, i32_10, i32_1, i32_2] at *; omega))
      have ht2 : t ≤ 2 := by clear fin hQ hM1 hR1; (simp only [Int32.le_iff_toInt_le, Int32.lt_iff_toInt_lt, i32_eq, i32_0, i32_m1, i32_600, i32_60, i32_20, i32_99, i32_10, i32_1, i32_2] at *; omega)
      have eop : op_pair S (nI q) k (nI t) = if S_thI S q k = true then (if nI t = 2 then oI (S_cl S q k.toNatClampNeg) else nI (S_num S q k.toNatClampNeg t)) else -1 := by
        unfold op_pair
        rw [if_pos ⟨hc, hc2.1, hc2.2⟩, nI_cl j1, nI_cl t1]
      rw [eop] at fin hQ
      simp only [sX3_pair_19, Option.some.injEq, Sum.inr.injEq, Sum.inl.injEq, Prod.mk.injEq, true_and, and_true, exists_eq_left', exists_eq_left, exists_eq_right, exists_eq_right', exists_and_left, exists_and_right, List.getElem?_cons_succ, List.getElem?_cons_zero, List.length_cons, List.length_nil, List.set_cons_zero, List.set_cons_succ, Option.toList_some, Option.toList_none, List.nil_append, List.cons_append, mj_up_s, true_or, or_true, Nat.sub_zero, and_assoc, b10, not_true_eq_false, not_false_eq_true, false_implies, true_implies, implies_true, eq_self, and_self, rf_some, rf_none, sX3_pair_25, sX3_pair_26, sX3_pair_27]
      refine sX3_pair_28z hM1.ob rfl (r_isThere (by omega) (by show 44 ≤ w - 23; omega) hM1 hR1 hW j2 ?_)
      by_cases ht : S_thI S q k = true
      · rw [if_pos ht] at fin hQ ⊢
        obtain ⟨kk, rfl, k1, k2⟩ := S_thI_iff.mp ht
        rw [nI_cl k1] at fin hQ
        have hkk : kk < 99 := by
          have := (S_th_iff.mp k2).1
          have := (hW.2.2.2.2.2 q j2).1.1
          omega
        simp only [sX3_pair_31, Option.some.injEq, Sum.inr.injEq, Sum.inl.injEq, Prod.mk.injEq, true_and, and_true, exists_eq_left', exists_eq_left, exists_eq_right, exists_eq_right', exists_and_left, exists_and_right, List.getElem?_cons_succ, List.getElem?_cons_zero, List.length_cons, List.length_nil, List.set_cons_zero, List.set_cons_succ, Option.toList_some, Option.toList_none, List.nil_append, List.cons_append, mj_up_s, true_or, or_true, Nat.sub_zero, and_assoc, b10, not_true_eq_false, not_false_eq_true, false_implies, true_implies, implies_true, eq_self, and_self, rf_some, rf_none, sX3_pair_36, sX3_pair_37, sX3_pair_38]
        by_cases h2 : t = 2
        · subst h2
          refine And.intro (fun _ => ?_) (fun c => absurd (by decide) c)
          simp only [sX3_pair_54, sX3_pair_55, sX3_pair_56]
          refine sX3_pair_57z hM1.ob rfl (r_unpackTo (by omega) (by show 94 ≤ w - 23; omega) hM1 hR1 hW j2 hkk (fun h' X' A' hM' hs' hc' => ?_))
          simp only [sX3_pair_60, sX3_pair_61, sX3_pair_64, hM'.ob, Option.some.injEq, Sum.inr.injEq, Sum.inl.injEq, Prod.mk.injEq, true_and, and_true, exists_eq_left', exists_eq_left, exists_eq_right, exists_eq_right', exists_and_left, exists_and_right, List.getElem?_cons_succ, List.getElem?_cons_zero, List.length_cons, List.length_nil, List.set_cons_zero, List.set_cons_succ, Option.toList_some, Option.toList_none, List.nil_append, List.cons_append, mj_up_s, true_or, or_true, Nat.sub_zero, and_assoc, b10, not_true_eq_false, not_false_eq_true, false_implies, true_implies, implies_true, eq_self, and_self, rf_some, rf_none]
          rw [hc'.1]
          have := hQ h' ⟨X', A', hM', hR1.same hs', by rw [hs'.1 0 (by omega)]; exact Xw_s⟩
          rw [if_pos (show nI 2 = 2 from rfl)] at this
          exact this
        · have hne : nI t ≠ 2 := fun e => h2 ((nI_eq (by omega) (by omega)).mp (show nI t = nI 2 from e))
          rw [if_neg hne] at fin
          refine And.intro (fun c => absurd c (show ¬ nI 2 ≤ nI t from nI_ge (by omega) (by omega))) (fun _ => ?_)
          have e1 : (4 : Int32) * nI kk + 2 * nI t = nI (4 * kk + 2 * t) := by rw [show (4 : Int32) = nI 4 from rfl, show (2 : Int32) = nI 2 from rfl, pk_mul, pk_mul, nI_add]
          simp only [sX3_pair_41, sX3_pair_42, sX3_pair_43, sX3_pair_44, sX3_pair_45, sX3_pair_46, sX3_pair_47, sX3_pair_48, sX3_pair_49, e1]
          refine sX3_pair_50z hM1.ob rfl (r_two (wh := t) (by omega) (by show 22 ≤ w - 23; omega) hM1 hR1 hW j2 (by omega) k2 ?_)
          simp only [sX3_pair_53, Option.some.injEq, Sum.inr.injEq, Sum.inl.injEq, Prod.mk.injEq, true_and, and_true, exists_eq_left', exists_eq_left, exists_eq_right, exists_eq_right', exists_and_left, exists_and_right, List.getElem?_cons_succ, List.getElem?_cons_zero, List.length_cons, List.length_nil, List.set_cons_zero, List.set_cons_succ, Option.toList_some, Option.toList_none, List.nil_append, List.cons_append, mj_up_s, true_or, or_true, Nat.sub_zero, and_assoc, b10, not_true_eq_false, not_false_eq_true, false_implies, true_implies, implies_true, eq_self, and_self, rf_some, rf_none]
          exact fin
      · rw [if_neg ht] at fin ⊢
        simp only [sX3_pair_31, Option.some.injEq, Sum.inr.injEq, Sum.inl.injEq, Prod.mk.injEq, true_and, and_true, exists_eq_left', exists_eq_left, exists_eq_right, exists_eq_right', exists_and_left, exists_and_right, List.getElem?_cons_succ, List.getElem?_cons_zero, List.length_cons, List.length_nil, List.set_cons_zero, List.set_cons_succ, Option.toList_some, Option.toList_none, List.nil_append, List.cons_append, mj_up_s, true_or, or_true, Nat.sub_zero, and_assoc, b10, not_true_eq_false, not_false_eq_true, false_implies, true_implies, implies_true, eq_self, and_self, rf_some, rf_none, sX3_pair_34, sX3_pair_35]
        exact fin
    · rw [if_neg hc2]
      have eop : op_pair S (nI q) k wh = -2 := if_neg (fun z => hc2 z.2)
      rw [eop] at fin
      simp only [sX3_pair_19, Option.some.injEq, Sum.inr.injEq, Sum.inl.injEq, Prod.mk.injEq, true_and, and_true, exists_eq_left', exists_eq_left, exists_eq_right, exists_eq_right', exists_and_left, exists_and_right, List.getElem?_cons_succ, List.getElem?_cons_zero, List.length_cons, List.length_nil, List.set_cons_zero, List.set_cons_succ, Option.toList_some, Option.toList_none, List.nil_append, List.cons_append, mj_up_s, true_or, or_true, Nat.sub_zero, and_assoc, b10, not_true_eq_false, not_false_eq_true, false_implies, true_implies, implies_true, eq_self, and_self, rf_some, rf_none, sX3_pair_22, sX3_pair_24]
      exact fin
  · rw [if_neg hc]
    have eop : op_pair S p k wh = -2 := if_neg (fun z => hc z.1)
    rw [eop] at fin
    simp only [sX3_pair_10, Option.some.injEq, Sum.inr.injEq, Sum.inl.injEq, Prod.mk.injEq, true_and, and_true, exists_eq_left', exists_eq_left, exists_eq_right, exists_eq_right', exists_and_left, exists_and_right, List.getElem?_cons_succ, List.getElem?_cons_zero, List.length_cons, List.length_nil, List.set_cons_zero, List.set_cons_succ, Option.toList_some, Option.toList_none, List.nil_append, List.cons_append, mj_up_s, true_or, or_true, Nat.sub_zero, and_assoc, b10, not_true_eq_false, not_false_eq_true, false_implies, true_implies, implies_true, eq_self, and_self, rf_some, rf_none, sX3_pair_22, sX3_pair_24]
    exact fin
end
