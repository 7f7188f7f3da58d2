/-! ===== the reference: layOut ===== -/
section
variable {f w : Nat} {Q : mj_Q} {h0 h : mj_H} {n mc ms : Nat} {S : St} {AD : Ad} {X : Nat → Int32} {A : Nat → Nat → Int32}
theorem vn_b0 : vp_nar .boolean 0 = 0 := rfl
theorem vn_b1 : vp_nar .boolean 1 = 1 := rfl
theorem INV.la {most : Nat} {P : PL} (h : INV S most P) {l : Nat} (hl : P.la = l + 1) : l < S_no S ∧ S_pk S l = 0 := by
  obtain ⟨c1, c2, c3, -⟩ := h.cur (by omega)
  obtain ⟨d1, d2, -⟩ := h.ord (P.dn - 1) (by omega)
  have : l = P.od (P.dn - 1) := by omega
  subst this
  exact ⟨d1, (wts_iff.mp d2).2.1⟩
set_option maxRecDepth 100000 in
theorem r_layOut (hf : 3 ≤ f) (hw : 76 ≤ w) (hM : MHF h0 h AD X A) (hR : CM S X A) (hW : WF S) {most : Nat} {F : PL} (hm1 : 1 ≤ most) (hm2 : most ≤ 10) (hL : Lay S most PL0 F)
    (hQ : ∀ h' X' A', MHF h0 h' AD X' A' → (∀ t, t ≠ 21 → X' t = X t) → X' 21 = nI F.dn → (∀ j, j ≤ 13 → A' j = A j) → RPL S A' F → Q (some (.int (nI F.md))) h' n) : mj_bk f w 73 [.ref (AD 6 0), .int (nI most)] h n mc ms Q := by
  have w1 := hW.1
  have hz60 : ∀ i, i < S_no S → S_sz S i ≤ 60 := fun i hi => (hW.2.2.2.1 i hi).2.1
  refine mj_begin (by omega) (by decide) (by show 28 ≤ w; omega) rfl ?_
  show mj_W _ _ 73 mj_noZ Q 0 [.ref (AD 6 0), .int (nI most), .retAddr 0, .retAddr 0, .retAddr 0, .retAddr 0, .retAddr 0, .retAddr 0, .retAddr 0] [] h n mc ms
  -- next one is o: as far as its cost
  have pre : ∀ (P : PL) o h1 A1 v8, INV S most P → MHF h0 h1 AD X A1 → (∀ j, j ≤ 13 → A1 j = A j) → o < S_no S → wts S o = true → mj_W (f - 1) (w - (19 + mj_maxL 73)) 73 mj_noZ Q 80 [.ref (AD 6 0), .int (nI most), .int (nI P.dn), .int (nI P.md), .int (rIn P.la), .int (nI P.mn), .int (nI P.sz), .int (nI o), .int (nI (6 + un S P.la o))] [] h1 n mc ms → mj_W (f - 1) (w - (19 + mj_maxL 73)) 73 mj_noZ Q 43 [.ref (AD 6 0), .int (nI most), .int (nI P.dn), .int (nI P.md), .int (rIn P.la), .int (nI P.mn), .int (nI P.sz), .int (nI o), v8] [] h1 n mc ms := by
    intro P o h1 A1 v8 hI hM1 hA1 ho hwo go
    have hR1 : CM S X A1 := hR.pl rfl rfl rfl hA1
    obtain ⟨q1, q2, q3⟩ := wts_iff.mp hwo
    obtain ⟨a1, a2⟩ := (hR1.2.2.2.1 o ho).2.2.2 q2
    have i2 := hM1.ar 2 (by omega) (by omega)
    have co := nI_cl (show o < 2147483648 by omega)
    have vo : vp_in (nI o) 60 := vp_in_nI (by omega) (by decide)
    have e6 : (6 : Int32) + nI (S_sz S o) = nI (6 + S_sz S o) := by rw [show (6 : Int32) = nI 6 from rfl, nI_add]
    have hsl := sam_le (S := S) (la := P.la) (o := o)
    have eu : nI (6 + S_sz S o) - nI (sam S P.la o) = nI (6 + un S P.la o) := by rw [pk_sub (by omega)]; unfold un; rw [show 6 + S_sz S o - sam S P.la o = 6 + (S_sz S o - sam S P.la o) by omega]
    rw [sX3_layOut_43, sX3_layOut_45, sX3_layOut_46]
    refine And.intro (fun c => absurd c (nIm1 (by omega))) (fun _ => ?_)
    simp only [sX3_layOut_49, sX3_layOut_51, sX3_layOut_52, sX3_layOut_55, sX3_layOut_57, sX3_layOut_58, sX3_layOut_59, sX3_layOut_61, sX3_layOut_62, hM1.ob, i2, Option.some.injEq, Sum.inr.injEq, Sum.inl.injEq, Prod.mk.injEq, true_and, and_true, exists_eq_left', exists_eq_left, exists_eq_right, exists_eq_right', exists_and_left, exists_and_right, List.getElem?_cons_succ, List.getElem?_cons_zero, List.length_cons, List.length_nil, List.set_cons_zero, List.set_cons_succ, Option.toList_some, Option.toList_none, List.nil_append, List.cons_append, mj_up_s, true_or, or_true, Nat.sub_zero, and_assoc, b10, not_true_eq_false, not_false_eq_true, false_implies, true_implies, implies_true, eq_self, and_self, rf_some, rf_none, co, a1, e6]
    refine And.intro vo ?_
    cases hla : P.la with
    | zero =>
      rw [hla] at eu go
      refine And.intro (fun c => absurd rfl c) (fun _ => ?_)
      simp only [sX3_layOut_65, sX3_layOut_66, sX3_layOut_77, sX3_layOut_78, Option.some.injEq, Sum.inr.injEq, Sum.inl.injEq, Prod.mk.injEq, true_and, and_true, exists_eq_left', exists_eq_left, exists_eq_right, exists_eq_right', exists_and_left, exists_and_right, List.getElem?_cons_succ, List.getElem?_cons_zero, List.length_cons, List.length_nil, List.set_cons_zero, List.set_cons_succ, Option.toList_some, Option.toList_none, List.nil_append, List.cons_append, mj_up_s, true_or, or_true, Nat.sub_zero, and_assoc, b10, not_true_eq_false, not_false_eq_true, false_implies, true_implies, implies_true, eq_self, and_self, rf_some, rf_none]
      rw [show (0 : Int32) = nI (sam S 0 o) from rfl, eu]
      exact go
    | succ l =>
      rw [hla] at eu go
      obtain ⟨l1, l2⟩ := hI.la hla
      rw [rIn_s] at go ⊢
      refine And.intro (fun _ => ?_) (fun c => absurd (nIm1 (by omega)) c)
      simp only [sX3_layOut_69, sX3_layOut_70, sX3_layOut_72]
      refine sX3_layOut_74z hM1.ob rfl (r_alike (by omega) (by show 23 ≤ w - 28; omega) hM1 hR1 hW ho l1 q2 l2 ?_)
      simp only [sX3_layOut_77, sX3_layOut_78, Option.some.injEq, Sum.inr.injEq, Sum.inl.injEq, Prod.mk.injEq, true_and, and_true, exists_eq_left', exists_eq_left, exists_eq_right, exists_eq_right', exists_and_left, exists_and_right, List.getElem?_cons_succ, List.getElem?_cons_zero, List.length_cons, List.length_nil, List.set_cons_zero, List.set_cons_succ, Option.toList_some, Option.toList_none, List.nil_append, List.cons_append, mj_up_s, true_or, or_true, Nat.sub_zero, and_assoc, b10, not_true_eq_false, not_false_eq_true, false_implies, true_implies, implies_true, eq_self, and_self, rf_some, rf_none]
      rw [show alk S o l = sam S (l + 1) o from rfl, eu]
      exact go
  -- it is taken
  have puts : ∀ (P : PL) o m1 n1 s1 h1 A1 v4, INV S most (pushP S P o) → pushP S P o = (P.dn + 1, m1, o + 1, n1 + 1, s1 + (6 + un S P.la o), updN P.od P.dn o, updN P.en (m1 - 1) (P.dn + 1), updN P.ok P.dn (m1 - 1), fun j => if j = o then true else P.tk j) → 1 ≤ m1 → P.dn < 60 → MHF h0 h1 AD X A1 → (∀ j, j ≤ 13 → A1 j = A j) → RPL S A1 P → o < S_no S →
      (∀ h2 A2 v8, MHF h0 h2 AD X A2 → (∀ j, j ≤ 13 → A2 j = A j) → RPL S A2 (pushP S P o) → mj_W (f - 1) (w - (19 + mj_maxL 73)) 73 mj_noZ Q 43 [.ref (AD 6 0), .int (nI most), .int (nI (pushP S P o).dn), .int (nI (pushP S P o).md), .int (rIn (pushP S P o).la), .int (nI (pushP S P o).mn), .int (nI (pushP S P o).sz), .int (rIn (nxt S (pushP S P o).tk (pushP S P o).la (S_no S))), v8] [] h2 n mc ms) →
      mj_W (f - 1) (w - (19 + mj_maxL 73)) 73 mj_noZ Q 124 [.ref (AD 6 0), .int (nI most), .int (nI P.dn), .int (nI m1), v4, .int (nI n1), .int (nI s1), .int (nI o), .int (nI (6 + un S P.la o))] [] h1 n mc ms := by
    intro P o m1 n1 s1 h1 A1 v4 hI' eP hm hdn hM1 hA1 hPl ho go
    have co := nI_cl (show o < 2147483648 by omega)
    have vo : vp_in (nI o) 60 := vp_in_nI (by omega) (by decide)
    have cd := nI_cl (show P.dn < 2147483648 by omega)
    have vd : vp_in (nI P.dn) 60 := vp_in_nI (by omega) (by decide)
    have em : nI m1 - 1 = nI (m1 - 1) := by rw [show (1 : Int32) = nI 1 from rfl, pk_sub hm]
    have i16 := hM1.tk
    simp only [sX3_layOut_124, sX3_layOut_125, sX3_layOut_128, sX3_layOut_130, sX3_layOut_131, hM1.ob, i16, Option.some.injEq, Sum.inr.injEq, Sum.inl.injEq, Prod.mk.injEq, true_and, and_true, exists_eq_left', exists_eq_left, exists_eq_right, exists_eq_right', exists_and_left, exists_and_right, List.getElem?_cons_succ, List.getElem?_cons_zero, List.length_cons, List.length_nil, List.set_cons_zero, List.set_cons_succ, Option.toList_some, Option.toList_none, List.nil_append, List.cons_append, mj_up_s, true_or, or_true, Nat.sub_zero, and_assoc, b10, not_true_eq_false, not_false_eq_true, false_implies, true_implies, implies_true, eq_self, and_self, rf_some, rf_none, co, vn_b1]
    refine And.intro vo ?_
    generalize hH : mj_up h1 (AD 6 16) _ = h2
    have hM2 : MHF h0 h2 AD X (Aw A1 16 o 1) := hH ▸ hM1.putA 16 o 1 (by omega) (by omega)
    clear hH
    have i14 := hM2.ar 14 (by omega) (by omega)
    simp only [sX3_layOut_132, sX3_layOut_133, sX3_layOut_136, sX3_layOut_137, sX3_layOut_139, hM2.ob, i14, Option.some.injEq, Sum.inr.injEq, Sum.inl.injEq, Prod.mk.injEq, true_and, and_true, exists_eq_left', exists_eq_left, exists_eq_right, exists_eq_right', exists_and_left, exists_and_right, List.getElem?_cons_succ, List.getElem?_cons_zero, List.length_cons, List.length_nil, List.set_cons_zero, List.set_cons_succ, Option.toList_some, Option.toList_none, List.nil_append, List.cons_append, mj_up_s, true_or, or_true, Nat.sub_zero, and_assoc, b10, not_true_eq_false, not_false_eq_true, false_implies, true_implies, implies_true, eq_self, and_self, rf_some, rf_none, cd]
    refine And.intro vd ?_
    generalize hH : mj_up h2 (AD 6 14) _ = h3
    have hM3 : MHF h0 h3 AD X (Aw (Aw A1 16 o 1) 14 P.dn (nI o)) := hH ▸ hM2.putA 14 P.dn (nI o) (by omega) (by omega)
    clear hH
    have i15 := hM3.ar 15 (by omega) (by omega)
    simp only [sX3_layOut_140, sX3_layOut_141, sX3_layOut_144, sX3_layOut_145, sX3_layOut_146, sX3_layOut_147, sX3_layOut_148, hM3.ob, i15, Option.some.injEq, Sum.inr.injEq, Sum.inl.injEq, Prod.mk.injEq, true_and, and_true, exists_eq_left', exists_eq_left, exists_eq_right, exists_eq_right', exists_and_left, exists_and_right, List.getElem?_cons_succ, List.getElem?_cons_zero, List.length_cons, List.length_nil, List.set_cons_zero, List.set_cons_succ, Option.toList_some, Option.toList_none, List.nil_append, List.cons_append, mj_up_s, true_or, or_true, Nat.sub_zero, and_assoc, b10, not_true_eq_false, not_false_eq_true, false_implies, true_implies, implies_true, eq_self, and_self, rf_some, rf_none, cd, em]
    refine And.intro vd ?_
    generalize hH : mj_up h3 (AD 6 15) _ = h4
    have hM4 : MHF h0 h4 AD X (Aw (Aw (Aw A1 16 o 1) 14 P.dn (nI o)) 15 P.dn (nI (m1 - 1))) := hH ▸ hM3.putA 15 P.dn (nI (m1 - 1)) (by omega) (by omega)
    clear hH
    have hA4 : ∀ j, j ≤ 13 → (Aw (Aw (Aw A1 16 o 1) 14 P.dn (nI o)) 15 P.dn (nI (m1 - 1))) j = A j := fun j hj => by rw [Aw_n (by omega), Aw_n (by omega), Aw_n (by omega)]; exact hA1 j hj
    have hR4 : CM S X (Aw (Aw (Aw A1 16 o 1) 14 P.dn (nI o)) 15 P.dn (nI (m1 - 1))) := hR.pl rfl rfl rfl hA4
    have hPl4 : RPL S (Aw (Aw (Aw A1 16 o 1) 14 P.dn (nI o)) 15 P.dn (nI (m1 - 1))) (pushP S P o) := by
      refine ⟨fun i hi => ?_, fun i hi => ?_⟩
      · rw [Aw_n (by omega), Aw_n (by omega), Aw_s, pushP_tk]
        by_cases e : i = o
        · subst e; rw [pk_us, if_pos rfl, if_pos rfl]
        · rw [pk_un e, if_neg e]; exact hPl.1 i hi
      · rw [eP] at hi ⊢
        have hi : i < P.dn + 1 := hi
        show _ = nI (updN P.od P.dn o i) ∧ _ = nI (updN P.ok P.dn (m1 - 1) i)
        rw [Aw_n (by omega), Aw_s, Aw_s, Aw_n (by omega), Aw_n (by omega), Aw_n (by omega)]
        by_cases e : i = P.dn
        · subst e; rw [pk_us, pk_us, updN_s, updN_s]; exact ⟨rfl, rfl⟩
        · rw [pk_un e, pk_un e, updN_n e, updN_n e]; exact hPl.2 i (by omega)
    have ed : nI P.dn + 1 = nI (P.dn + 1) := nI_1 _
    have en1 : nI n1 + 1 = nI (n1 + 1) := nI_1 _
    have es : nI s1 + nI (6 + un S P.la o) = nI (s1 + (6 + un S P.la o)) := nI_add _ _
    simp only [sX3_layOut_149, sX3_layOut_152, sX3_layOut_155, sX3_layOut_157, sX3_layOut_159, sX3_layOut_160, sX3_layOut_162, sX3_layOut_164, sX3_layOut_166, sX3_layOut_167, Option.some.injEq, Sum.inr.injEq, Sum.inl.injEq, Prod.mk.injEq, true_and, and_true, exists_eq_left', exists_eq_left, exists_eq_right, exists_eq_right', exists_and_left, exists_and_right, List.getElem?_cons_succ, List.getElem?_cons_zero, List.length_cons, List.length_nil, List.set_cons_zero, List.set_cons_succ, Option.toList_some, Option.toList_none, List.nil_append, List.cons_append, mj_up_s, true_or, or_true, Nat.sub_zero, and_assoc, b10, not_true_eq_false, not_false_eq_true, false_implies, true_implies, implies_true, eq_self, and_self, rf_some, rf_none, ed, en1, es]
    rw [← rIn_s (q := o)]
    refine sX3_layOut_169z hM4.ob rfl (r_nextBehind (tk := (pushP S P o).tk) (by omega) (by show 48 ≤ w - 28; omega) hM4 hR4 hW hPl4.1 (fun l hl => hI'.la (l := l) (by rw [eP]; exact hl)) ?_)
    simp only [sX3_layOut_172, sX3_layOut_174, Option.some.injEq, Sum.inr.injEq, Sum.inl.injEq, Prod.mk.injEq, true_and, and_true, exists_eq_left', exists_eq_left, exists_eq_right, exists_eq_right', exists_and_left, exists_and_right, List.getElem?_cons_succ, List.getElem?_cons_zero, List.length_cons, List.length_nil, List.set_cons_zero, List.set_cons_succ, Option.toList_some, Option.toList_none, List.nil_append, List.cons_append, mj_up_s, true_or, or_true, Nat.sub_zero, and_assoc, b10, not_true_eq_false, not_false_eq_true, false_implies, true_implies, implies_true, eq_self, and_self, rf_some, rf_none]
    have := go h4 _ (.int (nI (6 + un S P.la o))) hM4 hA4 hPl4
    rw [eP] at this ⊢
    exact this
  have main := hL (fun P F => INV S most P → (∀ h' X' A', MHF h0 h' AD X' A' → (∀ t, t ≠ 21 → X' t = X t) → X' 21 = nI F.dn → (∀ j, j ≤ 13 → A' j = A j) → RPL S A' F → Q (some (.int (nI F.md))) h' n) → ∀ h1 A1 v8, MHF h0 h1 AD X A1 → (∀ j, j ≤ 13 → A1 j = A j) → RPL S A1 P → mj_W (f - 1) (w - (19 + mj_maxL 73)) 73 mj_noZ Q 43 [.ref (AD 6 0), .int (nI most), .int (nI P.dn), .int (nI P.md), .int (rIn P.la), .int (nI P.mn), .int (nI P.sz), .int (rIn (nxt S P.tk P.la (S_no S))), v8] [] h1 n mc ms) ⟨?_, ?_, ?_⟩
  · -- as far as the loop
    have clear : ∀ m k, k + m = S_no S → ∀ h1 A1, MHF h0 h1 AD X A1 → (∀ j, j ≤ 13 → A1 j = A j) → (∀ i, i < k → A1 16 i = 0) → mj_W (f - 1) (w - (19 + mj_maxL 73)) 73 mj_noZ Q 2 [.ref (AD 6 0), .int (nI most), .int (nI k), .retAddr 0, .retAddr 0, .retAddr 0, .retAddr 0, .retAddr 0, .retAddr 0] [] h1 n mc ms := by
      intro m
      induction m with
      | zero =>
        intro k hk h1 A1 hM1 hA1 h16
        obtain rfl : k = S_no S := by omega
        have hR1 : CM S X A1 := hR.pl rfl rfl rfl hA1
        have hP0 : RPL S A1 PL0 := ⟨fun i hi => h16 i hi, fun i hi => absurd hi (Nat.not_lt_zero _)⟩
        have go := main INV0 hQ h1 A1 (.retAddr 0) hM1 hA1 hP0
        rw [sX3_layOut_2]
        simp only [sX3_layOut_3, sX3_layOut_4, sX3_layOut_7, hM1.ob, Option.some.injEq, Sum.inr.injEq, Sum.inl.injEq, Prod.mk.injEq, true_and, and_true, exists_eq_left', exists_eq_left, exists_eq_right, exists_eq_right', exists_and_left, exists_and_right, List.getElem?_cons_succ, List.getElem?_cons_zero, List.length_cons, List.length_nil, List.set_cons_zero, List.set_cons_succ, Option.toList_some, Option.toList_none, List.nil_append, List.cons_append, mj_up_s, true_or, or_true, Nat.sub_zero, and_assoc, b10, not_true_eq_false, not_false_eq_true, false_implies, true_implies, implies_true, eq_self, and_self, rf_some, rf_none, hR1.1]
        refine And.intro (fun _ => ?_) (fun c => absurd (nI_le (Nat.le_refl _) (by omega)) c)
        simp only [sX3_layOut_23, sX3_layOut_24, sX3_layOut_25, sX3_layOut_26, sX3_layOut_27, sX3_layOut_28, sX3_layOut_30, sX3_layOut_31, sX3_layOut_33, sX3_layOut_34, sX3_layOut_36, sX3_layOut_37, Option.some.injEq, Sum.inr.injEq, Sum.inl.injEq, Prod.mk.injEq, true_and, and_true, exists_eq_left', exists_eq_left, exists_eq_right, exists_eq_right', exists_and_left, exists_and_right, List.getElem?_cons_succ, List.getElem?_cons_zero, List.length_cons, List.length_nil, List.set_cons_zero, List.set_cons_succ, Option.toList_some, Option.toList_none, List.nil_append, List.cons_append, mj_up_s, true_or, or_true, Nat.sub_zero, and_assoc, b10, not_true_eq_false, not_false_eq_true, false_implies, true_implies, implies_true, eq_self, and_self, rf_some, rf_none]
        rw [← rIn_0]
        refine sX3_layOut_38z hM1.ob rfl (r_nextBehind (tk := PL0.tk) (by omega) (by show 48 ≤ w - 28; omega) hM1 hR1 hW hP0.1 (fun l hl => by cases hl) ?_)
        simp only [sX3_layOut_41, Option.some.injEq, Sum.inr.injEq, Sum.inl.injEq, Prod.mk.injEq, true_and, and_true, exists_eq_left', exists_eq_left, exists_eq_right, exists_eq_right', exists_and_left, exists_and_right, List.getElem?_cons_succ, List.getElem?_cons_zero, List.length_cons, List.length_nil, List.set_cons_zero, List.set_cons_succ, Option.toList_some, Option.toList_none, List.nil_append, List.cons_append, mj_up_s, true_or, or_true, Nat.sub_zero, and_assoc, b10, not_true_eq_false, not_false_eq_true, false_implies, true_implies, implies_true, eq_self, and_self, rf_some, rf_none]
        exact go
      | succ m ih =>
        intro k hk h1 A1 hM1 hA1 h16
        have hR1 : CM S X A1 := hR.pl rfl rfl rfl hA1
        have e1 : nI k + 1 = nI (k + 1) := nI_1 k
        have ck := nI_cl (show k < 2147483648 by omega)
        have i16 := hM1.tk
        rw [sX3_layOut_2]
        simp only [sX3_layOut_3, sX3_layOut_4, sX3_layOut_7, sX3_layOut_10, sX3_layOut_11, sX3_layOut_14, sX3_layOut_15, sX3_layOut_16, hM1.ob, i16, Option.some.injEq, Sum.inr.injEq, Sum.inl.injEq, Prod.mk.injEq, true_and, and_true, exists_eq_left', exists_eq_left, exists_eq_right, exists_eq_right', exists_and_left, exists_and_right, List.getElem?_cons_succ, List.getElem?_cons_zero, List.length_cons, List.length_nil, List.set_cons_zero, List.set_cons_succ, Option.toList_some, Option.toList_none, List.nil_append, List.cons_append, mj_up_s, true_or, or_true, Nat.sub_zero, and_assoc, b10, not_true_eq_false, not_false_eq_true, false_implies, true_implies, implies_true, eq_self, and_self, rf_some, rf_none, hR1.1, ck, vn_b0]
        refine And.intro (fun c => absurd c (nI_ge (by omega) (by omega))) (fun _ => And.intro (vp_in_nI (show _ < 60 by omega) (by decide)) ?_)
        generalize hH : mj_up h1 (AD 6 16) _ = h2
        have hM2 : MHF h0 h2 AD X (Aw A1 16 k 0) := hH ▸ hM1.putA 16 k 0 (by omega) (by omega)
        clear hH
        simp only [sX3_layOut_17, sX3_layOut_20, Option.some.injEq, Sum.inr.injEq, Sum.inl.injEq, Prod.mk.injEq, true_and, and_true, exists_eq_left', exists_eq_left, exists_eq_right, exists_eq_right', exists_and_left, exists_and_right, List.getElem?_cons_succ, List.getElem?_cons_zero, List.length_cons, List.length_nil, List.set_cons_zero, List.set_cons_succ, Option.toList_some, Option.toList_none, List.nil_append, List.cons_append, mj_up_s, true_or, or_true, Nat.sub_zero, and_assoc, b10, not_true_eq_false, not_false_eq_true, false_implies, true_implies, implies_true, eq_self, and_self, rf_some, rf_none, e1]
        refine ih (k + 1) (by omega) h2 _ hM2 (fun j hj => by rw [Aw_n (by omega)]; exact hA1 j hj) (fun i hi => ?_)
        rw [Aw_s]
        by_cases e : i = k
        · subst e; exact pk_us
        · rw [pk_un e]; exact h16 i (by omega)
    simp only [sX3_layOut_0, sX3_layOut_1, Option.some.injEq, Sum.inr.injEq, Sum.inl.injEq, Prod.mk.injEq, true_and, and_true, exists_eq_left', exists_eq_left, exists_eq_right, exists_eq_right', exists_and_left, exists_and_right, List.getElem?_cons_succ, List.getElem?_cons_zero, List.length_cons, List.length_nil, List.set_cons_zero, List.set_cons_succ, Option.toList_some, Option.toList_none, List.nil_append, List.cons_append, mj_up_s, true_or, or_true, Nat.sub_zero, and_assoc, b10, not_true_eq_false, not_false_eq_true, false_implies, true_implies, implies_true, eq_self, and_self, rf_some, rf_none]
    by_cases hno : S_no S = 0
    · exact clear (S_no S) 0 (by omega) h A hM (fun _ _ => rfl) (fun i hi => by omega)
    · exact clear (S_no S) 0 (by omega) h A hM (fun _ _ => rfl) (fun i hi => by omega)
  · -- nothing waits
    intro P hn hI hQ h1 A1 v8 hM1 hA1 hPl
    rw [hn, sX3_layOut_43, sX3_layOut_45, sX3_layOut_46]
    refine And.intro (fun _ => ?_) (fun c => absurd rfl c)
    simp only [sX3_layOut_177, sX3_layOut_178, sX3_layOut_179, hM1.ob, nfi_3_0, ffi_3_0, nfi_3_1, ffi_3_1, nfr_3_2, ffr_3_2, nfu_3_2, ffu_3_2, nfr_3_3, ffr_3_3, nfu_3_3, ffu_3_3, nfr_3_4, ffr_3_4, nfu_3_4, ffu_3_4, nfr_3_5, ffr_3_5, nfu_3_5, ffu_3_5, nfr_3_6, ffr_3_6, nfu_3_6, ffu_3_6, nfi_3_7, ffi_3_7, nfr_3_8, ffr_3_8, nfu_3_8, ffu_3_8, nfr_3_9, ffr_3_9, nfu_3_9, ffu_3_9, nfr_3_10, ffr_3_10, nfu_3_10, ffu_3_10, nfr_3_11, ffr_3_11, nfu_3_11, ffu_3_11, nfr_3_12, ffr_3_12, nfu_3_12, ffu_3_12, nfr_3_13, ffr_3_13, nfu_3_13, ffu_3_13, nfi_3_14, ffi_3_14, nfi_3_15, ffi_3_15, nfr_3_16, ffr_3_16, nfu_3_16, ffu_3_16, nfr_3_17, ffr_3_17, nfu_3_17, ffu_3_17, nfr_3_18, ffr_3_18, nfu_3_18, ffu_3_18, nfr_3_19, ffr_3_19, nfu_3_19, ffu_3_19, nfr_3_20, ffr_3_20, nfu_3_20, ffu_3_20, nfi_3_21, ffi_3_21, Option.some.injEq, Sum.inr.injEq, Sum.inl.injEq, Prod.mk.injEq, true_and, and_true, exists_eq_left', exists_eq_left, exists_eq_right, exists_eq_right', exists_and_left, exists_and_right, List.getElem?_cons_succ, List.getElem?_cons_zero, List.length_cons, List.length_nil, List.set_cons_zero, List.set_cons_succ, Option.toList_some, Option.toList_none, List.nil_append, List.cons_append, mj_up_s, true_or, or_true, Nat.sub_zero, and_assoc, b10, not_true_eq_false, not_false_eq_true, false_implies, true_implies, implies_true, eq_self, and_self, rf_some, rf_none]
    refine And.intro (by decide) ?_
    generalize hH : mj_up h1 (AD 6 0) _ = h2
    have hM2 : MHF h0 h2 AD (Xw X 21 (nI P.dn)) A1 := hH ▸ hM1.putX 21 (nI P.dn)
    clear hH
    simp only [sX3_layOut_182, sX3_layOut_183, Option.some.injEq, Sum.inr.injEq, Sum.inl.injEq, Prod.mk.injEq, true_and, and_true, exists_eq_left', exists_eq_left, exists_eq_right, exists_eq_right', exists_and_left, exists_and_right, List.getElem?_cons_succ, List.getElem?_cons_zero, List.length_cons, List.length_nil, List.set_cons_zero, List.set_cons_succ, Option.toList_some, Option.toList_none, List.nil_append, List.cons_append, mj_up_s, true_or, or_true, Nat.sub_zero, and_assoc, b10, not_true_eq_false, not_false_eq_true, false_implies, true_implies, implies_true, eq_self, and_self, rf_some, rf_none]
    exact hQ h2 _ A1 hM2 (fun t ht => Xw_n ht) Xw_s hA1 hPl
  · -- the pack is full
    intro P F o hn hfu ih hI hQ h1 A1 v8 hM1 hA1 hPl
    obtain ⟨h5, h6, h7⟩ := nxt_some hn
    obtain ⟨c1, c2, c3, c4, c5⟩ := hI.cur hfu.1
    obtain ⟨d1, d2, d3, d4⟩ := hI.pks (P.md - 1) (by omega)
    have hen := hI.las.2 c1
    rw [hen] at d3 d4
    have hun := un_le (S := S) (la := P.la) (o := o)
    have hzo := hz60 o h5
    have hR1 : CM S X A1 := hR.pl rfl rfl rfl hA1
    rw [hn, rIn_s]
    refine pre P o h1 A1 v8 hI hM1 hA1 h5 h6 ?_
    have hrl : rIn P.la ≠ -1 := by
      unfold rIn
      rw [if_neg hfu.1]
      cases hla : P.la with
      | zero => exact absurd hla hfu.1
      | succ l => have := (hI.la hla).1; exact nIm1 (by omega)
    have es : nI P.sz + nI (6 + un S P.la o) = nI (P.sz + (6 + un S P.la o)) := nI_add _ _
    have last : mj_W (f - 1) (w - (19 + mj_maxL 73)) 73 mj_noZ Q 103 [.ref (AD 6 0), .int (nI most), .int (nI P.dn), .int (nI P.md), .int (rIn P.la), .int (nI P.mn), .int (nI P.sz), .int (nI o), .int (nI (6 + un S P.la o))] [] h1 n mc ms := by
      simp only [sX3_layOut_103, sX3_layOut_104, sX3_layOut_106, sX3_layOut_166, sX3_layOut_167, Option.some.injEq, Sum.inr.injEq, Sum.inl.injEq, Prod.mk.injEq, true_and, and_true, exists_eq_left', exists_eq_left, exists_eq_right, exists_eq_right', exists_and_left, exists_and_right, List.getElem?_cons_succ, List.getElem?_cons_zero, List.length_cons, List.length_nil, List.set_cons_zero, List.set_cons_succ, Option.toList_some, Option.toList_none, List.nil_append, List.cons_append, mj_up_s, true_or, or_true, Nat.sub_zero, and_assoc, b10, not_true_eq_false, not_false_eq_true, false_implies, true_implies, implies_true, eq_self, and_self, rf_some, rf_none]
      rw [← rIn_0]
      refine sX3_layOut_169z hM1.ob rfl (r_nextBehind (tk := P.tk) (by omega) (by show 48 ≤ w - 28; omega) hM1 hR1 hW hPl.1 (fun l hl => by cases hl) ?_)
      simp only [sX3_layOut_172, sX3_layOut_174, Option.some.injEq, Sum.inr.injEq, Sum.inl.injEq, Prod.mk.injEq, true_and, and_true, exists_eq_left', exists_eq_left, exists_eq_right, exists_eq_right', exists_and_left, exists_and_right, List.getElem?_cons_succ, List.getElem?_cons_zero, List.length_cons, List.length_nil, List.set_cons_zero, List.set_cons_succ, Option.toList_some, Option.toList_none, List.nil_append, List.cons_append, mj_up_s, true_or, or_true, Nat.sub_zero, and_assoc, b10, not_true_eq_false, not_false_eq_true, false_implies, true_implies, implies_true, eq_self, and_self, rf_some, rf_none]
      exact ih hI.clos hQ h1 A1 _ hM1 hA1 hPl
    simp only [sX3_layOut_80, sX3_layOut_82, sX3_layOut_83]
    refine And.intro (fun c => absurd c hrl) (fun _ => ?_)
    simp only [sX3_layOut_86, sX3_layOut_88, sX3_layOut_89]
    refine And.intro (fun _ => last) (fun c => ?_)
    simp only [sX3_layOut_92, sX3_layOut_94, sX3_layOut_96, sX3_layOut_97, sX3_layOut_100, es]
    refine And.intro (fun c2 => ?_) (fun _ => last)
    exfalso
    rcases hfu.2 with q | q
    · exact c (by rw [q])
    · exact absurd c2 (show ¬ nI _ ≤ nI 600 from nI_ge (by omega) (by omega))
  · -- one more
    intro P F o hn hfu ih hI hQ h1 A1 v8 hM1 hA1 hPl
    obtain ⟨h5, h6, h7⟩ := nxt_some hn
    have hun := un_le (S := S) (la := P.la) (o := o)
    have hzo := hz60 o h5
    have hI' := hI.push hm1 h5 h6 h7 hzo hfu
    have hdn : P.dn < 60 := by
      have := cntN_lt (P := P.tk) h7 (S_no S) h5
      rw [← hI.cnt] at this
      omega
    rw [hn, rIn_s]
    refine pre P o h1 A1 v8 hI hM1 hA1 h5 h6 ?_
    simp only [sX3_layOut_80, sX3_layOut_82, sX3_layOut_83]
    by_cases hl : P.la = 0
    · have eP : pushP S P o = (P.dn + 1, P.md + 1, o + 1, 0 + 1, 0 + (6 + un S P.la o), updN P.od P.dn o, updN P.en (P.md + 1 - 1) (P.dn + 1), updN P.ok P.dn (P.md + 1 - 1), fun j => if j = o then true else P.tk j) := by simp only [pushP, if_pos hl]
      have go := puts P o (P.md + 1) 0 0 h1 A1 (.int (rIn P.la)) hI' eP (by omega) hdn hM1 hA1 hPl h5 (ih hI' hQ)
      have em : nI P.md + 1 = nI (P.md + 1) := nI_1 _
      have er : rIn P.la = -1 := by rw [hl]; rfl
      refine And.intro (fun _ => ?_) (fun c => absurd er c)
      simp only [sX3_layOut_109, sX3_layOut_111, sX3_layOut_112]
      refine And.intro (fun c => absurd er c) (fun _ => ?_)
      simp only [sX3_layOut_115, sX3_layOut_118, sX3_layOut_119, sX3_layOut_121, sX3_layOut_122, Option.some.injEq, Sum.inr.injEq, Sum.inl.injEq, Prod.mk.injEq, true_and, and_true, exists_eq_left', exists_eq_left, exists_eq_right, exists_eq_right', exists_and_left, exists_and_right, List.getElem?_cons_succ, List.getElem?_cons_zero, List.length_cons, List.length_nil, List.set_cons_zero, List.set_cons_succ, Option.toList_some, Option.toList_none, List.nil_append, List.cons_append, mj_up_s, true_or, or_true, Nat.sub_zero, and_assoc, b10, not_true_eq_false, not_false_eq_true, false_implies, true_implies, implies_true, eq_self, and_self, rf_some, rf_none, em]
      exact go
    · obtain ⟨c1, c2, c3, c4, c5⟩ := hI.cur hl
      obtain ⟨d1, d2, d3, d4⟩ := hI.pks (P.md - 1) (by omega)
      have hen := hI.las.2 c1
      rw [hen] at d3 d4
      have eP : pushP S P o = (P.dn + 1, P.md, o + 1, P.mn + 1, P.sz + (6 + un S P.la o), updN P.od P.dn o, updN P.en (P.md - 1) (P.dn + 1), updN P.ok P.dn (P.md - 1), fun j => if j = o then true else P.tk j) := by simp only [pushP, if_neg hl]
      have go := puts P o P.md P.mn P.sz h1 A1 (.int (rIn P.la)) hI' eP (by omega) hdn hM1 hA1 hPl h5 (ih hI' hQ)
      have hrl : rIn P.la ≠ -1 := by
        unfold rIn
        rw [if_neg hl]
        cases hla : P.la with
        | zero => exact absurd hla hl
        | succ l => have := (hI.la hla).1; exact nIm1 (by omega)
      have es : nI P.sz + nI (6 + un S P.la o) = nI (P.sz + (6 + un S P.la o)) := nI_add _ _
      refine And.intro (fun c => absurd c hrl) (fun _ => ?_)
      simp only [sX3_layOut_86, sX3_layOut_88, sX3_layOut_89]
      refine And.intro (fun c => absurd ⟨hl, Or.inl ((nI_eq (by omega) (by omega)).mp c)⟩ hfu) (fun _ => ?_)
      simp only [sX3_layOut_92, sX3_layOut_94, sX3_layOut_96, sX3_layOut_97, sX3_layOut_100, es]
      refine And.intro (fun _ => ?_) (fun c => absurd (show nI _ ≤ nI 600 from nI_le (Nat.le_of_not_lt (fun z => hfu ⟨hl, Or.inr z⟩)) (by omega)) c)
      simp only [sX3_layOut_109, sX3_layOut_111, sX3_layOut_112]
      exact And.intro (fun _ => go) (fun c => absurd hrl c)
end
