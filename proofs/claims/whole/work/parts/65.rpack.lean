/-! ===== the states that pack goes through; the reference: pack ===== -/
/-- behind k of the plan's packs -/
def WI (S : St) (F : PL) (Sk : St) (k : Nat) : Prop :=
  WF Sk ∧ S_no Sk = S_no S ∧ S_np Sk = S_np S + k ∧ ∀ o, (∀ i, i < stt F.en k → F.od i ≠ o) → ∀ r b, 1 ≤ r → r ≤ 5 → Sk r o b = S r o b
theorem stt_s {en : Nat → Nat} {k : Nat} : stt en (k + 1) = en k := by unfold stt; rw [if_neg (by omega)]; rfl
theorem WI.facts {S : St} {F : PL} {Sk : St} {k most : Nat} (h : WI S F Sk k) (hW : WF S) (hI : INV S most F) (hm : most ≤ 10) (hk : k < F.md) :
    stt F.en k < F.en k ∧ F.en k ≤ F.dn ∧ F.dn ≤ 60 ∧ F.en k - stt F.en k ≤ 10 ∧ (∀ i, stt F.en k ≤ i → i < F.en k → F.od i < S_no Sk ∧ S_pk Sk (F.od i) = 0 ∧ S_kd Sk (F.od i) = 0 ∧ S_sz Sk (F.od i) ≤ 60) ∧ 4 * (F.en k - stt F.en k) + plc Sk F.od (stt F.en k) (F.en k - stt F.en k) ≤ 600 := by
  obtain ⟨p1, p2, p3, p4⟩ := hI.pks k hk
  obtain ⟨d1, d2⟩ := hI.md_le
  have w1 := hW.1
  have same : ∀ i, stt F.en k ≤ i → i < F.en k → ∀ r b, 1 ≤ r → r ≤ 5 → Sk r (F.od i) b = S r (F.od i) b := fun i h1 h2 => h.2.2.2 (F.od i) (fun j hj => hI.dis j i (by omega) (by omega))
  have hsm : smI S Sk F.od (stt F.en k) (F.en k - stt F.en k) := fun i h1 h2 => ⟨same i h1 (by omega) 2 0 (by omega) (by omega), fun j => same i h1 (by omega) 3 j (by omega) (by omega)⟩
  refine ⟨p1, p2, by omega, by omega, fun i h1 h2 => ?_, by rw [plc_congrS hsm]; exact p4⟩
  obtain ⟨o1, o2, -⟩ := hI.ord i (by omega)
  obtain ⟨q1, q2, q3⟩ := wts_iff.mp o2
  have hz := (hW.2.2.2.1 _ o1).2.1
  exact ⟨by rw [h.2.1]; exact o1, by rw [show S_pk Sk (F.od i) = S_pk S (F.od i) from same i h1 h2 4 0 (by omega) (by omega)]; exact q2, by rw [show S_kd Sk (F.od i) = S_kd S (F.od i) from same i h1 h2 1 0 (by omega) (by omega)]; exact q1, by rw [show S_sz Sk (F.od i) = S_sz S (F.od i) from same i h1 h2 2 0 (by omega) (by omega)]; exact hz⟩
theorem lW_lt {S : St} (hW : WF S) {od : Nat → Nat} {s m : Nat} (ho : ∀ i, s ≤ i → i < s + m → od i < S_no S ∧ S_sz S (od i) ≤ 60) (hp : plc S od s m < 65536) : ∀ x, x ∈ lW S od s m → x < 256 := by
  have w1 := hW.1
  intro x hx
  unfold lW at hx
  rcases List.mem_append.mp hx with h | h
  · exact lP_lt m (fun i h1 h2 => by have := (ho i h1 h2).1; omega) hp x h
  · exact lC_lt hW.2.2.2.2.1 m (fun i h1 h2 => (ho i h1 h2).2) x h
theorem WI.pk {S : St} {F : PL} {Sk : St} {k most : Nat} (h : WI S F Sk k) (hW : WF S) (hI : INV S most F) (hm : most ≤ 10) (hk : k < F.md) (h20 : S_np S + F.md ≤ 20) : WF (st_pk Sk (F.en k - stt F.en k) (lW Sk F.od (stt F.en k) (F.en k - stt F.en k))) := by
  obtain ⟨a1, a2, a3, a4, a5, a6⟩ := h.facts hW hI hm hk
  have e := h.2.2.1
  exact WF_pk h.1 (by omega) (by omega) (by rw [lW_len]; exact a6) (by omega) (lW_lt h.1 (fun i h1 h2 => ⟨(a5 i h1 (by omega)).1, (a5 i h1 (by omega)).2.2.2⟩) (by omega))
theorem WI.step {S : St} {F : PL} {Sk : St} {k most : Nat} (h : WI S F Sk k) (hW : WF S) (hI : INV S most F) (hm : most ≤ 10) (hk : k < F.md) (h20 : S_np S + F.md ≤ 20) : WI S F (wpk Sk F.od (stt F.en k) (F.en k)) (k + 1) := by
  obtain ⟨a1, a2, a3, a4, a5, a6⟩ := h.facts hW hI hm hk
  have e := h.2.2.1
  have hwf := h.pk hW hI hm hk h20
  have hmv := WF_mv hwf (od := F.od) (s := stt F.en k) (p := S_np Sk) (by rw [st_pk_np]; omega) (F.en k - stt F.en k) (by omega) (fun i h1 h2 => by
    rw [show S_kd (st_pk Sk (F.en k - stt F.en k) (lW Sk F.od (stt F.en k) (F.en k - stt F.en k))) (F.od i) = S_kd Sk (F.od i) from st_pk_o (by omega) (by omega)]; exact (a5 i h1 (by omega)).2.2.1)
  refine ⟨hmv.1, ?_, ?_, fun o ho r b r1 r2 => ?_⟩
  · rw [← h.2.1]
    exact (mvN_o _ (by omega)).trans (st_pk_o (by omega) (by omega))
  · show S_np (mvN _ _ _ _ _) = _
    rw [hmv.2, st_pk_np, e]; omega
  · rw [stt_s] at ho
    refine (mvN_o _ (fun z => ?_)).trans ((st_pk_o (by omega) (by omega)).trans (h.2.2.2 o (fun i hi => ho i (by omega)) r b r1 r2))
    obtain ⟨i, i1, i2, i3⟩ := z.2.2
    exact ho i (by omega) i3
theorem WI.all {S : St} {F : PL} {most : Nat} (hW : WF S) (hI : INV S most F) (hm : most ≤ 10) (h20 : S_np S + F.md ≤ 20) : ∀ k, k ≤ F.md → WI S F (wAll S F.od F.en k) k
  | 0, _ => ⟨hW, rfl, rfl, fun o _ r b _ _ => rfl⟩
  | k + 1, hk => (WI.all hW hI hm h20 k (by omega)).step hW hI hm (by omega) h20
theorem CM_pk {S : St} {X X' : Nat → Int32} {A A' : Nat → Nat → Int32} (hR : CM S X A) (hW : WF S) {ct : Nat} {L : List Nat} (hp : S_np S < 20) (x1 : X' 1 = X 1) (x7 : X' 7 = nI (S_np S + 1)) (x15 : X' 15 = X 15) (hA : ∀ j, (j ≤ 5 ∨ 11 ≤ j) → A' j = A j)
    (hk : ∀ k, k ≠ S_np S → A' 6 k = A 6 k ∧ A' 7 k = A 7 k ∧ A' 8 k = A 8 k ∧ A' 9 k = A 9 k) (h10 : ∀ x, x < 600 * S_np S ∨ 600 * S_np S + 600 ≤ x → A' 10 x = A 10 x) (h6 : A' 6 (S_np S) = nI ct) (h7 : A' 7 (S_np S) = nI (4 * ct)) (h8 : A' 8 (S_np S) = -1) (hL : RW A' (S_np S) L) : CM (st_pk S ct L) X' A' := by
  obtain ⟨r1, r2, r3, r4, r5, r6, r7⟩ := hR
  have e0 : S_no (st_pk S ct L) = S_no S := st_pk_o (by omega) (by omega)
  have e12 : S_nt (st_pk S ct L) = S_nt S := st_pk_o (by omega) (by omega)
  refine ⟨by rw [x1, r1, e0], by rw [x7, st_pk_np], by rw [x15, r3, e12], fun j hj => ?_, fun j hj => ?_, fun p hp => ?_, fun j hj => ?_⟩
  · obtain ⟨q1, q2, q3, q4⟩ := r4 j (by omega)
    rw [hA 1 (by omega), hA 2 (by omega), hA 3 (by omega), hA 4 (by omega), hA 5 (by omega), show S_kd (st_pk S ct L) j = S_kd S j from st_pk_o (by omega) (by omega), show S_sz (st_pk S ct L) j = S_sz S j from st_pk_o (by omega) (by omega), show S_pk (st_pk S ct L) j = S_pk S j from st_pk_o (by omega) (by omega), show S_ix (st_pk S ct L) j = S_ix S j from st_pk_o (by omega) (by omega)]
    exact ⟨q1, q2, q3, fun hz => ⟨(q4 hz).1, fun t ht => by rw [show S_by (st_pk S ct L) j t = S_by S j t from st_pk_o (by omega) (by omega)]; exact (q4 hz).2 t ht⟩⟩
  · rw [hA 2 (by omega), hA 5 (by omega)]; exact r5 j (by omega)
  · rw [st_pk_np] at hp
    by_cases he : p = S_np S
    · subst he
      have b1 : S_ct (st_pk S ct L) (S_np S) = ct := (st_pk_p (by omega)).trans S_pack_ct
      have b2 : S_fs (st_pk S ct L) (S_np S) = 4 * ct := (st_pk_p (by omega)).trans S_pack_fs
      have b3 : S_ex (st_pk S ct L) (S_np S) = 0 := (st_pk_p (by omega)).trans S_pack_ex
      have b4 : S_pz (st_pk S ct L) (S_np S) = L.length := (st_pk_p (by omega)).trans S_pack_pz
      rw [b1, b2, b3, b4, if_pos rfl]
      refine ⟨h6, h7, h8, hL.1, fun t ht => ?_⟩
      rw [show S_pb (st_pk S ct L) (S_np S) t = L.getD t 0 from (st_pk_p (by omega)).trans S_pack_pb]
      exact hL.2 t ht
    · obtain ⟨q1, q2, q3, q4, q5⟩ := r6 p (by omega)
      obtain ⟨u6, u7, u8, u9⟩ := hk p he
      have hz := (hW.2.2.2.2.2 p (by omega)).1.2.2.1
      rw [u6, u7, u8, u9, show S_ct (st_pk S ct L) p = S_ct S p from st_pk_o (by omega) (by omega), show S_fs (st_pk S ct L) p = S_fs S p from st_pk_o (by omega) (by omega), show S_ex (st_pk S ct L) p = S_ex S p from st_pk_o (by omega) (by omega), show S_pz (st_pk S ct L) p = S_pz S p from st_pk_o (by omega) (by omega)]
      exact ⟨q1, q2, q3, q4, fun t ht => by rw [h10 _ (by omega), show S_pb (st_pk S ct L) p t = S_pb S p t from st_pk_o (by omega) (by omega)]; exact q5 t ht⟩
  · rw [hA 12 (by omega), hA 13 (by omega), show S_tf (st_pk S ct L) j = S_tf S j from st_pk_o (by omega) (by omega), show S_tp (st_pk S ct L) j = S_tp S j from st_pk_o (by omega) (by omega)]
    exact r7 j (by omega)
section
variable {f w : Nat} {Q : mj_Q} {h0 h : mj_H} {n mc ms : Nat} {S : St} {AD : Ad} {X : Nat → Int32} {A : Nat → Nat → Int32}
set_option maxRecDepth 100000 in
set_option maxHeartbeats 1000000 in
theorem r_pack (hf : 4 ≤ f) (hw : 102 ≤ w) (hM : MHF h0 h AD X A) (hR : CM S X A) (hW : WF S) {mo : Int32} {F : PL} (hL : ∀ m, mo = nI m → 1 ≤ m → m ≤ 10 → Lay S m PL0 F) (hQ : ∀ h', RK h0 AD (op_pack S mo F).2 0 h' → Q (some (.int (op_pack S mo F).1)) h' n) : mj_bk f w 76 [.ref (AD 6 0), .int mo] h n mc ms Q := by
  have w1 := hW.1
  have w2 := hW.2.1
  refine mj_begin (by omega) (by decide) (by show 26 ≤ w; omega) rfl ?_
  show mj_W _ _ 76 mj_noZ Q 0 [.ref (AD 6 0), .int mo, .retAddr 0, .retAddr 0, .retAddr 0, .retAddr 0, .retAddr 0] [] h n mc ms
  simp only [sX3_pack_0, sX3_pack_1, sX3_pack_2, sX3_pack_5, sX3_pack_6, sX3_pack_7, hM.ob, nfi_3_0, ffi_3_0, nfi_3_1, ffi_3_1, nfr_3_2, ffr_3_2, nfu_3_2, ffu_3_2, nfr_3_3, ffr_3_3, nfu_3_3, ffu_3_3, nfr_3_4, ffr_3_4, nfu_3_4, ffu_3_4, nfr_3_5, ffr_3_5, nfu_3_5, ffu_3_5, nfr_3_6, ffr_3_6, nfu_3_6, ffu_3_6, nfi_3_7, ffi_3_7, nfr_3_8, ffr_3_8, nfu_3_8, ffu_3_8, nfr_3_9, ffr_3_9, nfu_3_9, ffu_3_9, nfr_3_10, ffr_3_10, nfu_3_10, ffu_3_10, nfr_3_11, ffr_3_11, nfu_3_11, ffu_3_11, nfr_3_12, ffr_3_12, nfu_3_12, ffu_3_12, nfr_3_13, ffr_3_13, nfu_3_13, ffu_3_13, nfi_3_14, ffi_3_14, nfi_3_15, ffi_3_15, nfr_3_16, ffr_3_16, nfu_3_16, ffu_3_16, nfr_3_17, ffr_3_17, nfu_3_17, ffu_3_17, nfr_3_18, ffr_3_18, nfu_3_18, ffu_3_18, nfr_3_19, ffr_3_19, nfu_3_19, ffu_3_19, nfr_3_20, ffr_3_20, nfu_3_20, ffu_3_20, nfi_3_21, ffi_3_21, Option.some.injEq, Sum.inr.injEq, Sum.inl.injEq, Prod.mk.injEq, true_and, and_true, exists_eq_left', exists_eq_left, exists_eq_right, exists_eq_right', exists_and_left, exists_and_right, List.getElem?_cons_succ, List.getElem?_cons_zero, List.length_cons, List.length_nil, List.set_cons_zero, List.set_cons_succ, Option.toList_some, Option.toList_none, List.nil_append, List.cons_append, mj_up_s, true_or, or_true, Nat.sub_zero, and_assoc, b10, not_true_eq_false, not_false_eq_true, false_implies, true_implies, implies_true, eq_self, and_self, rf_some, rf_none]
  refine And.intro (by decide) ?_
  generalize hH : mj_up h (AD 6 0) _ = h1
  have hM1 : MHF h0 h1 AD (Xw X 0 0) A := hH ▸ hM.putX 0 0
  have hR1 : CM S (Xw X 0 0) A := hR.x0
  have hx1 : (Xw X 0 0) 0 = 0 := Xw_s
  clear hH
  generalize Xw X 0 0 = X1 at hM1 hR1 hx1
  refine sX3_pack_9z rfl (r_isIn (by omega) (by show 22 ≤ w - 26; omega) ?_)
  unfold op_pack at hQ
  by_cases hc : 1 ≤ mo ∧ mo ≤ 10
  · rw [if_pos hc] at hQ ⊢
    obtain ⟨most, t1, rfl, t3⟩ := i32_of (x := mo) (by clear hQ hL hM hR hM1 hR1; (simp only [Int32.le_iff_toInt_le, Int32.lt_iff_toInt_lt, i32_eq, i32_0, i32_m1, i32_600, i32_60, i32_20, i32_99, i32_10, i32_1, i32_2] at *; omega))
    have hm1 : 1 ≤ most := by clear hQ hL hM hR hM1 hR1; (simp only [Int32.le_iff_toInt_le, Int32.lt_iff_toInt_lt, i32_eq, i32_0, i32_m1, i32_600, i32_60, i32_20, i32_99, i32_10, i32_1, i32_2] at *; omega)
    have hm2 : most ≤ 10 := by clear hQ hL hM hR hM1 hR1; (simp only [Int32.le_iff_toInt_le, Int32.lt_iff_toInt_lt, i32_eq, i32_0, i32_m1, i32_600, i32_60, i32_20, i32_99, i32_10, i32_1, i32_2] at *; omega)
    have hLay := hL most rfl hm1 hm2
    have hI : INV S most F := hLay.inv hm1 (fun i hi => (hW.2.2.2.1 i hi).2.1) INV0
    obtain ⟨d1, d2⟩ := hI.md_le
    simp only [sX3_pack_12, sX3_pack_18, sX3_pack_19, Option.some.injEq, Sum.inr.injEq, Sum.inl.injEq, Prod.mk.injEq, true_and, and_true, exists_eq_left', exists_eq_left, exists_eq_right, exists_eq_right', exists_and_left, exists_and_right, List.getElem?_cons_succ, List.getElem?_cons_zero, List.length_cons, List.length_nil, List.set_cons_zero, List.set_cons_succ, Option.toList_some, Option.toList_none, List.nil_append, List.cons_append, mj_up_s, true_or, or_true, Nat.sub_zero, and_assoc, b10, not_true_eq_false, not_false_eq_true, false_implies, true_implies, implies_true, eq_self, and_self, rf_some, rf_none]
    refine sX3_pack_20z hM1.ob rfl (r_layOut (by omega) (by show 76 ≤ w - 26; omega) hM1 hR1 hW hm1 hm2 hLay (fun h2 X2 A2 hM2 hX2 hx21 hA2 hPl => ?_))
    have hR2 : CM S X2 A2 := hR1.pl (hX2 1 (by omega)) (hX2 7 (by omega)) (hX2 15 (by omega)) hA2
    have hx2 : X2 0 = 0 := (hX2 0 (by omega)).trans hx1
    have e1 : nI (S_np S) + nI F.md = nI (S_np S + F.md) := nI_add _ _
    simp only [sX3_pack_23, sX3_pack_24, sX3_pack_25, sX3_pack_28, sX3_pack_29, sX3_pack_30, sX3_pack_32, hM2.ob, Option.some.injEq, Sum.inr.injEq, Sum.inl.injEq, Prod.mk.injEq, true_and, and_true, exists_eq_left', exists_eq_left, exists_eq_right, exists_eq_right', exists_and_left, exists_and_right, List.getElem?_cons_succ, List.getElem?_cons_zero, List.length_cons, List.length_nil, List.set_cons_zero, List.set_cons_succ, Option.toList_some, Option.toList_none, List.nil_append, List.cons_append, mj_up_s, true_or, or_true, Nat.sub_zero, and_assoc, b10, not_true_eq_false, not_false_eq_true, false_implies, true_implies, implies_true, eq_self, and_self, rf_some, rf_none, hR2.2.1, e1]
    by_cases h20 : 20 < S_np S + F.md
    · rw [if_pos h20] at hQ
      refine And.intro (fun c => absurd c (show ¬ nI _ ≤ nI 20 from nI_ge (by omega) (by omega))) (fun _ => ?_)
      simp only [sX3_pack_35, sX3_pack_37, Option.some.injEq, Sum.inr.injEq, Sum.inl.injEq, Prod.mk.injEq, true_and, and_true, exists_eq_left', exists_eq_left, exists_eq_right, exists_eq_right', exists_and_left, exists_and_right, List.getElem?_cons_succ, List.getElem?_cons_zero, List.length_cons, List.length_nil, List.set_cons_zero, List.set_cons_succ, Option.toList_some, Option.toList_none, List.nil_append, List.cons_append, mj_up_s, true_or, or_true, Nat.sub_zero, and_assoc, b10, not_true_eq_false, not_false_eq_true, false_implies, true_implies, implies_true, eq_self, and_self, rf_some, rf_none]
      exact hQ h2 ⟨X2, A2, hM2, hR2, hx2⟩
    · rw [if_neg h20] at hQ
      have h20 : S_np S + F.md ≤ 20 := by omega
      refine And.intro (fun _ => ?_) (fun c => absurd (show nI _ ≤ nI 20 from nI_le (by omega) (by omega)) c)
      have loop : ∀ m k, k + m = F.md → ∀ h1 X1 A1 v5 v6, MHF h0 h1 AD X1 A1 → CM (wAll S F.od F.en k) X1 A1 → X1 0 = 0 → X1 21 = nI F.dn → (∀ i, i < F.dn → A1 14 i = nI (F.od i) ∧ A1 15 i = nI (F.ok i)) → mj_W (f - 1) (w - (19 + mj_maxL 76)) 76 mj_noZ Q 43 [.ref (AD 6 0), .int (nI most), .int (nI F.md), .int (nI (stt F.en k)), .int (nI k), v5, v6] [] h1 n mc ms := by
        intro m
        induction m with
        | zero =>
          intro k hk h1 X1 A1 v5 v6 hM1 hR1 hx1 hx21 hPl
          obtain rfl : k = F.md := by omega
          rw [sX3_pack_43, sX3_pack_45, sX3_pack_46]
          refine And.intro (fun _ => ?_) (fun c => absurd (nI_le (Nat.le_refl _) (by omega)) c)
          simp only [sX3_pack_157, sX3_pack_158]
          exact hQ h1 ⟨X1, A1, hM1, hR1, hx1⟩
        | succ m ih =>
          intro k hk h1 X1 A1 v5 v6 hM1 hR1 hx1 hx21 hPl
          have hWI := WI.all hW hI hm2 h20 k (by omega)
          generalize hSk : wAll S F.od F.en k = Sk at *
          obtain ⟨a1, a2, a3, a4, a5, a6⟩ := hWI.facts hW hI hm2 (by omega)
          have hpk := hWI.pk hW hI hm2 (by omega) h20
          have hnp : S_np Sk = S_np S + k := hWI.2.2.1
          have ek : nI k + 1 = nI (k + 1) := nI_1 _
          have hnext : wAll S F.od F.en (k + 1) = wpk Sk F.od (stt F.en k) (F.en k) := by show wpk (wAll S F.od F.en k) _ _ _ = _; rw [hSk]
          -- the objects are moved
          have move : ∀ m' mm, mm + m' = F.en k - stt F.en k → ∀ h2 A2, MHF h0 h2 AD X1 A2 → CM (mvN (st_pk Sk (F.en k - stt F.en k) (lW Sk F.od (stt F.en k) (F.en k - stt F.en k))) F.od (stt F.en k) (S_np Sk) mm) (Xw X1 7 (nI (S_np Sk + 1))) A2 → (∀ i, i < F.dn → A2 14 i = nI (F.od i) ∧ A2 15 i = nI (F.ok i)) → mj_W (f - 1) (w - (19 + mj_maxL 76)) 76 mj_noZ Q 93 [.ref (AD 6 0), .int (nI most), .int (nI F.md), .int (nI (stt F.en k)), .int (nI k), .int (nI (F.en k)), .int (nI (stt F.en k + mm))] [] h2 n mc ms := by
            intro m'
            induction m' with
            | zero =>
              intro mm hmm h2 A2 hM2 hR2 hPl2
              obtain rfl : mm = F.en k - stt F.en k := by omega
              rw [sX3_pack_93, sX3_pack_95, sX3_pack_97]
              refine And.intro (fun _ => ?_) (fun c => absurd (nI_le (by omega) (by omega)) c)
              have e7 : nI (S_np Sk) + 1 = nI (S_np Sk + 1) := nI_1 _
              simp only [sX3_pack_138, sX3_pack_139, sX3_pack_140, sX3_pack_143, sX3_pack_144, sX3_pack_145, hM2.ob, nfi_3_0, ffi_3_0, nfi_3_1, ffi_3_1, nfr_3_2, ffr_3_2, nfu_3_2, ffu_3_2, nfr_3_3, ffr_3_3, nfu_3_3, ffu_3_3, nfr_3_4, ffr_3_4, nfu_3_4, ffu_3_4, nfr_3_5, ffr_3_5, nfu_3_5, ffu_3_5, nfr_3_6, ffr_3_6, nfu_3_6, ffu_3_6, nfi_3_7, ffi_3_7, nfr_3_8, ffr_3_8, nfu_3_8, ffu_3_8, nfr_3_9, ffr_3_9, nfu_3_9, ffu_3_9, nfr_3_10, ffr_3_10, nfu_3_10, ffu_3_10, nfr_3_11, ffr_3_11, nfu_3_11, ffu_3_11, nfr_3_12, ffr_3_12, nfu_3_12, ffu_3_12, nfr_3_13, ffr_3_13, nfu_3_13, ffu_3_13, nfi_3_14, ffi_3_14, nfi_3_15, ffi_3_15, nfr_3_16, ffr_3_16, nfu_3_16, ffu_3_16, nfr_3_17, ffr_3_17, nfu_3_17, ffu_3_17, nfr_3_18, ffr_3_18, nfu_3_18, ffu_3_18, nfr_3_19, ffr_3_19, nfu_3_19, ffu_3_19, nfr_3_20, ffr_3_20, nfu_3_20, ffu_3_20, nfi_3_21, ffi_3_21, Option.some.injEq, Sum.inr.injEq, Sum.inl.injEq, Prod.mk.injEq, true_and, and_true, exists_eq_left', exists_eq_left, exists_eq_right, exists_eq_right', exists_and_left, exists_and_right, List.getElem?_cons_succ, List.getElem?_cons_zero, List.length_cons, List.length_nil, List.set_cons_zero, List.set_cons_succ, Option.toList_some, Option.toList_none, List.nil_append, List.cons_append, mj_up_s, true_or, or_true, Nat.sub_zero, and_assoc, b10, not_true_eq_false, not_false_eq_true, false_implies, true_implies, implies_true, eq_self, and_self, rf_some, rf_none, hR1.2.1, e7]
              refine And.intro (by decide) ?_
              generalize hH : mj_up h2 (AD 6 0) _ = h3
              have hM3 : MHF h0 h3 AD (Xw X1 7 (nI (S_np Sk + 1))) A2 := hH ▸ hM2.putX 7 _
              clear hH
              have go := ih (k + 1) (by omega) h3 _ A2 (.int (nI (F.en k))) (.int (nI (stt F.en k + (F.en k - stt F.en k)))) hM3 (by rw [hnext]; exact hR2) (by rw [Xw_n (by omega)]; exact hx1) (by rw [Xw_n (by omega)]; exact hx21) hPl2
              rw [stt_s] at go
              simp only [sX3_pack_148, sX3_pack_150, sX3_pack_151, sX3_pack_154, Option.some.injEq, Sum.inr.injEq, Sum.inl.injEq, Prod.mk.injEq, true_and, and_true, exists_eq_left', exists_eq_left, exists_eq_right, exists_eq_right', exists_and_left, exists_and_right, List.getElem?_cons_succ, List.getElem?_cons_zero, List.length_cons, List.length_nil, List.set_cons_zero, List.set_cons_succ, Option.toList_some, Option.toList_none, List.nil_append, List.cons_append, mj_up_s, true_or, or_true, Nat.sub_zero, and_assoc, b10, not_true_eq_false, not_false_eq_true, false_implies, true_implies, implies_true, eq_self, and_self, rf_some, rf_none, ek]
              exact go
            | succ m' ihm =>
              intro mm hmm h2 A2 hM2 hR2 hPl2
              obtain ⟨o1, o2, o3, o4⟩ := a5 (stt F.en k + mm) (by omega) (by omega)
              obtain ⟨b14, b15⟩ := hPl2 (stt F.en k + mm) (by omega)
              have hno : S_no Sk ≤ 60 := by rw [hWI.2.1]; exact w1
              have cm := nI_cl (show stt F.en k + mm < 2147483648 by omega)
              have vm : vp_in (nI (stt F.en k + mm)) 60 := vp_in_nI (by omega) (by decide)
              have co := nI_cl (show F.od (stt F.en k + mm) < 2147483648 by omega)
              have vo : vp_in (nI (F.od (stt F.en k + mm))) 60 := vp_in_nI (by omega) (by decide)
              have i4 := hM2.ar 4 (by omega) (by omega)
              have i14 := hM2.ar 14 (by omega) (by omega)
              rw [sX3_pack_93, sX3_pack_95, sX3_pack_97]
              refine And.intro (fun c => absurd c (nI_ge (by omega) (by omega))) (fun _ => ?_)
              simp only [sX3_pack_100, sX3_pack_101, sX3_pack_104, sX3_pack_105, sX3_pack_108, sX3_pack_110, sX3_pack_111, sX3_pack_112, sX3_pack_115, hM2.ob, i14, i4, Option.some.injEq, Sum.inr.injEq, Sum.inl.injEq, Prod.mk.injEq, true_and, and_true, exists_eq_left', exists_eq_left, exists_eq_right, exists_eq_right', exists_and_left, exists_and_right, List.getElem?_cons_succ, List.getElem?_cons_zero, List.length_cons, List.length_nil, List.set_cons_zero, List.set_cons_succ, Option.toList_some, Option.toList_none, List.nil_append, List.cons_append, mj_up_s, true_or, or_true, Nat.sub_zero, and_assoc, b10, not_true_eq_false, not_false_eq_true, false_implies, true_implies, implies_true, eq_self, and_self, rf_some, rf_none, cm, b14, co, hR1.2.1]
              refine And.intro vm (And.intro vo ?_)
              generalize hH : mj_up h2 (AD 6 4) _ = h3
              have hM3 : MHF h0 h3 AD X1 (Aw A2 4 (F.od (stt F.en k + mm)) (nI (S_np Sk))) := hH ▸ hM2.putA 4 _ _ (by omega) (by omega)
              clear hH
              have i5 := hM3.ar 5 (by omega) (by omega)
              have i14 := hM3.ar 14 (by omega) (by omega)
              rw [Aw_n (by omega)] at i14
              have es : nI (stt F.en k + mm) - nI (stt F.en k) = nI mm := by rw [pk_sub (by omega), Nat.add_sub_cancel_left]
              have e1 : nI (stt F.en k + mm) + 1 = nI (stt F.en k + (mm + 1)) := nI_1 _
              simp only [sX3_pack_116, sX3_pack_117, sX3_pack_120, sX3_pack_121, sX3_pack_124, sX3_pack_126, sX3_pack_127, sX3_pack_129, sX3_pack_130, sX3_pack_131, hM3.ob, i14, i5, Option.some.injEq, Sum.inr.injEq, Sum.inl.injEq, Prod.mk.injEq, true_and, and_true, exists_eq_left', exists_eq_left, exists_eq_right, exists_eq_right', exists_and_left, exists_and_right, List.getElem?_cons_succ, List.getElem?_cons_zero, List.length_cons, List.length_nil, List.set_cons_zero, List.set_cons_succ, Option.toList_some, Option.toList_none, List.nil_append, List.cons_append, mj_up_s, true_or, or_true, Nat.sub_zero, and_assoc, b10, not_true_eq_false, not_false_eq_true, false_implies, true_implies, implies_true, eq_self, and_self, rf_some, rf_none, cm, b14, co, es]
              refine And.intro vm (And.intro vo ?_)
              generalize hH : mj_up h3 (AD 6 5) _ = h4
              have hM4 : MHF h0 h4 AD X1 (Aw (Aw A2 4 (F.od (stt F.en k + mm)) (nI (S_np Sk))) 5 (F.od (stt F.en k + mm)) (nI mm)) := hH ▸ hM3.putA 5 _ _ (by omega) (by omega)
              clear hH
              simp only [sX3_pack_132, sX3_pack_135, Option.some.injEq, Sum.inr.injEq, Sum.inl.injEq, Prod.mk.injEq, true_and, and_true, exists_eq_left', exists_eq_left, exists_eq_right, exists_eq_right', exists_and_left, exists_and_right, List.getElem?_cons_succ, List.getElem?_cons_zero, List.length_cons, List.length_nil, List.set_cons_zero, List.set_cons_succ, Option.toList_some, Option.toList_none, List.nil_append, List.cons_append, mj_up_s, true_or, or_true, Nat.sub_zero, and_assoc, b10, not_true_eq_false, not_false_eq_true, false_implies, true_implies, implies_true, eq_self, and_self, rf_some, rf_none, e1]
              have hmv := WF_mv hpk (od := F.od) (s := stt F.en k) (p := S_np Sk) (by rw [st_pk_np]; omega) mm (by omega) (fun i h1 h2 => by
                rw [show S_kd (st_pk Sk (F.en k - stt F.en k) (lW Sk F.od (stt F.en k) (F.en k - stt F.en k))) (F.od i) = S_kd Sk (F.od i) from st_pk_o (by omega) (by omega)]; exact (a5 i h1 (by omega)).2.2.1)
              refine ihm (mm + 1) (by omega) h4 _ hM4 ?_ (fun i hi => by rw [Aw_n (by omega), Aw_n (by omega), Aw_n (by omega), Aw_n (by omega)]; exact hPl2 i hi)
              rw [mvN_step]
              have hno2 : F.od (stt F.en k + mm) < S_no (mvN (st_pk Sk (F.en k - stt F.en k) (lW Sk F.od (stt F.en k) (F.en k - stt F.en k))) F.od (stt F.en k) (S_np Sk) mm) := by
                rw [show S_no (mvN (st_pk Sk (F.en k - stt F.en k) (lW Sk F.od (stt F.en k) (F.en k - stt F.en k))) F.od (stt F.en k) (S_np Sk) mm) = S_no Sk from (mvN_o _ (by omega)).trans (st_pk_o (by omega) (by omega))]; exact o1
              obtain ⟨u1, u4, u5, u2⟩ := hR2.2.2.2.1 _ hno2
              refine CM_item hR2 hmv.1 hno2 S_item_same rfl rfl rfl (fun j h1 h2 h3 => ?_) (fun q hq => ⟨?_, ?_, ?_, ?_⟩) (fun x hx => ?_) ⟨?_, ?_, ?_, fun hz => ?_⟩
              · rw [Aw_n (by omega), Aw_n (by omega)]
              · rw [Aw_n (by omega), Aw_n (by omega)]
              · rw [Aw_n (by omega), Aw_n (by omega)]
              · rw [Aw_n (by omega), Aw_s, pk_un hq]
              · rw [Aw_s, pk_un hq, Aw_n (by omega)]
              · rw [Aw_n (by omega), Aw_n (by omega)]
              · rw [Aw_n (by omega), Aw_n (by omega), S_item_kd]; exact u1
              · rw [Aw_n (by omega), Aw_s, pk_us, S_item_pk, if_neg (by omega)]; rfl
              · rw [Aw_s, pk_us, S_item_ix]
              · rw [S_item_pk] at hz; omega
          -- where the pack ends
          have hw_ : mj_W (f - 1) (w - (19 + mj_maxL 76)) 76 mj_noZ Q 79 [.ref (AD 6 0), .int (nI most), .int (nI F.md), .int (nI (stt F.en k)), .int (nI k), .int (nI (F.en k)), v6] [] h1 n mc ms := by
            simp only [sX3_pack_79, sX3_pack_80, sX3_pack_81, sX3_pack_84, sX3_pack_85, hM1.ob, Option.some.injEq, Sum.inr.injEq, Sum.inl.injEq, Prod.mk.injEq, true_and, and_true, exists_eq_left', exists_eq_left, exists_eq_right, exists_eq_right', exists_and_left, exists_and_right, List.getElem?_cons_succ, List.getElem?_cons_zero, List.length_cons, List.length_nil, List.set_cons_zero, List.set_cons_succ, Option.toList_some, Option.toList_none, List.nil_append, List.cons_append, mj_up_s, true_or, or_true, Nat.sub_zero, and_assoc, b10, not_true_eq_false, not_false_eq_true, false_implies, true_implies, implies_true, eq_self, and_self, rf_some, rf_none, hR1.2.1]
            refine sX3_pack_87z hM1.ob rfl (r_write (od := F.od) (by omega) (by show 51 ≤ w - 26; omega) hM1 hR1 hWI.1 (by omega) (by omega) (by omega) (fun i hi => (hPl i (by omega)).1) (fun i h1 h2 => ⟨(a5 i h1 h2).1, (a5 i h1 h2).2.1⟩) a6 (fun h2 A2 hM2 k1 k2 k3 k4 k5 k6 k7 => ?_))
            simp only [sX3_pack_90, sX3_pack_91, Option.some.injEq, Sum.inr.injEq, Sum.inl.injEq, Prod.mk.injEq, true_and, and_true, exists_eq_left', exists_eq_left, exists_eq_right, exists_eq_right', exists_and_left, exists_and_right, List.getElem?_cons_succ, List.getElem?_cons_zero, List.length_cons, List.length_nil, List.set_cons_zero, List.set_cons_succ, Option.toList_some, Option.toList_none, List.nil_append, List.cons_append, mj_up_s, true_or, or_true, Nat.sub_zero, and_assoc, b10, not_true_eq_false, not_false_eq_true, false_implies, true_implies, implies_true, eq_self, and_self, rf_some, rf_none]
            exact move (F.en k - stt F.en k) 0 (by omega) h2 A2 hM2 (CM_pk hR1 hWI.1 (by omega) (Xw_n (by omega)) Xw_s (Xw_n (by omega)) k1 k2 k3 k4 k5 k6 k7) (fun i hi => by rw [k1 14 (by omega), k1 15 (by omega)]; exact hPl i hi)
          have ends : ∀ m' i, i + m' = F.en k → stt F.en k ≤ i → mj_W (f - 1) (w - (19 + mj_maxL 76)) 76 mj_noZ Q 52 [.ref (AD 6 0), .int (nI most), .int (nI F.md), .int (nI (stt F.en k)), .int (nI k), .int (nI i), v6] [] h1 n mc ms := by
            have i15 := hM1.ar 15 (by omega) (by omega)
            intro m'
            induction m' with
            | zero =>
              intro i hi hsi
              obtain rfl : i = F.en k := by omega
              rw [sX3_pack_52]
              simp only [sX3_pack_54, sX3_pack_55, sX3_pack_58, hM1.ob, Option.some.injEq, Sum.inr.injEq, Sum.inl.injEq, Prod.mk.injEq, true_and, and_true, exists_eq_left', exists_eq_left, exists_eq_right, exists_eq_right', exists_and_left, exists_and_right, List.getElem?_cons_succ, List.getElem?_cons_zero, List.length_cons, List.length_nil, List.set_cons_zero, List.set_cons_succ, Option.toList_some, Option.toList_none, List.nil_append, List.cons_append, mj_up_s, true_or, or_true, Nat.sub_zero, and_assoc, b10, not_true_eq_false, not_false_eq_true, false_implies, true_implies, implies_true, eq_self, and_self, rf_some, rf_none, hx21]
              refine And.intro (fun _ => hw_) (fun c => ?_)
              have hlt : F.en k < F.dn := Nat.lt_of_not_le (fun z => c (nI_le z (by omega)))
              have hk1 : k + 1 < F.md := by
                by_cases e : k + 1 = F.md
                · exfalso
                  have := hI.las.2 (by omega)
                  rw [← e, Nat.add_sub_cancel] at this; omega
                · omega
              have hok := hI.oks (k + 1) hk1 (F.en k) (by rw [stt_s]; omega) (by have := (hI.pks (k + 1) hk1).1; rw [stt_s] at this; exact this)
              simp only [sX3_pack_61, sX3_pack_62, sX3_pack_65, sX3_pack_67, sX3_pack_68, sX3_pack_70, hM1.ob, i15, Option.some.injEq, Sum.inr.injEq, Sum.inl.injEq, Prod.mk.injEq, true_and, and_true, exists_eq_left', exists_eq_left, exists_eq_right, exists_eq_right', exists_and_left, exists_and_right, List.getElem?_cons_succ, List.getElem?_cons_zero, List.length_cons, List.length_nil, List.set_cons_zero, List.set_cons_succ, Option.toList_some, Option.toList_none, List.nil_append, List.cons_append, mj_up_s, true_or, or_true, Nat.sub_zero, and_assoc, b10, not_true_eq_false, not_false_eq_true, false_implies, true_implies, implies_true, eq_self, and_self, rf_some, rf_none, nI_cl (show F.en k < 2147483648 by omega), (hPl _ hlt).2, hok]
              refine And.intro (vp_in_nI (show _ < 60 by omega) (by decide)) (And.intro (fun _ => hw_) (fun c => absurd (fun e => by have := (nI_eq (by omega) (by omega)).mp e; omega) c))
            | succ m' ihm =>
              intro i hi hsi
              have e1 : nI i + 1 = nI (i + 1) := nI_1 _
              have hok := hI.oks k (by omega) i hsi (by omega)
              have go := ihm (i + 1) (by omega) (by omega)
              rw [sX3_pack_52]
              simp only [sX3_pack_54, sX3_pack_55, sX3_pack_58, sX3_pack_61, sX3_pack_62, sX3_pack_65, sX3_pack_67, sX3_pack_68, sX3_pack_70, sX3_pack_73, sX3_pack_76, hM1.ob, i15, Option.some.injEq, Sum.inr.injEq, Sum.inl.injEq, Prod.mk.injEq, true_and, and_true, exists_eq_left', exists_eq_left, exists_eq_right, exists_eq_right', exists_and_left, exists_and_right, List.getElem?_cons_succ, List.getElem?_cons_zero, List.length_cons, List.length_nil, List.set_cons_zero, List.set_cons_succ, Option.toList_some, Option.toList_none, List.nil_append, List.cons_append, mj_up_s, true_or, or_true, Nat.sub_zero, and_assoc, b10, not_true_eq_false, not_false_eq_true, false_implies, true_implies, implies_true, eq_self, and_self, rf_some, rf_none, hx21, nI_cl (show i < 2147483648 by omega), (hPl i (by omega)).2, hok, e1]
              exact And.intro (fun c => absurd c (nI_ge (by omega) (by omega))) (fun _ => And.intro (vp_in_nI (show _ < 60 by omega) (by decide)) go)
          rw [sX3_pack_43, sX3_pack_45, sX3_pack_46]
          refine And.intro (fun c => absurd c (nI_ge (by omega) (by omega))) (fun _ => ?_)
          simp only [sX3_pack_49, sX3_pack_50, Option.some.injEq, Sum.inr.injEq, Sum.inl.injEq, Prod.mk.injEq, true_and, and_true, exists_eq_left', exists_eq_left, exists_eq_right, exists_eq_right', exists_and_left, exists_and_right, List.getElem?_cons_succ, List.getElem?_cons_zero, List.length_cons, List.length_nil, List.set_cons_zero, List.set_cons_succ, Option.toList_some, Option.toList_none, List.nil_append, List.cons_append, mj_up_s, true_or, or_true, Nat.sub_zero, and_assoc, b10, not_true_eq_false, not_false_eq_true, false_implies, true_implies, implies_true, eq_self, and_self, rf_some, rf_none]
          exact ends (F.en k - stt F.en k) (stt F.en k) (by omega) (by omega)
      simp only [sX3_pack_38, sX3_pack_39, sX3_pack_40, sX3_pack_41, Option.some.injEq, Sum.inr.injEq, Sum.inl.injEq, Prod.mk.injEq, true_and, and_true, exists_eq_left', exists_eq_left, exists_eq_right, exists_eq_right', exists_and_left, exists_and_right, List.getElem?_cons_succ, List.getElem?_cons_zero, List.length_cons, List.length_nil, List.set_cons_zero, List.set_cons_succ, Option.toList_some, Option.toList_none, List.nil_append, List.cons_append, mj_up_s, true_or, or_true, Nat.sub_zero, and_assoc, b10, not_true_eq_false, not_false_eq_true, false_implies, true_implies, implies_true, eq_self, and_self, rf_some, rf_none]
      exact loop F.md 0 (by omega) h2 X2 A2 _ _ hM2 hR2 hx2 hx21 hPl.2
  · rw [if_neg hc] at hQ ⊢
    simp only [sX3_pack_12, sX3_pack_15, sX3_pack_17, Option.some.injEq, Sum.inr.injEq, Sum.inl.injEq, Prod.mk.injEq, true_and, and_true, exists_eq_left', exists_eq_left, exists_eq_right, exists_eq_right', exists_and_left, exists_and_right, List.getElem?_cons_succ, List.getElem?_cons_zero, List.length_cons, List.length_nil, List.set_cons_zero, List.set_cons_succ, Option.toList_some, Option.toList_none, List.nil_append, List.cons_append, mj_up_s, true_or, or_true, Nat.sub_zero, and_assoc, b10, not_true_eq_false, not_false_eq_true, false_implies, true_implies, implies_true, eq_self, and_self, rf_some, rf_none]
    exact hQ h1 ⟨X1, A, hM1, hR1, hx1⟩
end
