/-! ===== the class: pack ===== -/
section
variable {f w : Nat} {Q : mj_Q} {h : mj_H} {n mc ms : Nat} {S : St} {AD : Ad} {C : Ct}
/-- how many packs a call makes -/
def mdP (S : St) (mo : Int32) (F : PL) : Nat := if (1 ≤ mo ∧ mo ≤ 10) ∧ S_np S + F.md ≤ 20 then F.md else 0
set_option maxRecDepth 100000 in
theorem m_pack (hf : 7 ≤ f) (hw : 164 ≤ w) (hM : MEM h n AD (VS S) C) (hC : CC S AD C) (hW : WF S) {mo : Int32} {F : PL} (hL : ∀ m, mo = nI m → 1 ≤ m → m ≤ 10 → Lay S m PL0 F) (hmc : 2 * mdP S mo F ≤ mc) (hms : 606 * mdP S mo F ≤ ms)
    (hQ : ∀ h' AD', KEEPA AD S (op_pack S mo F).2 C (n + 2 * mdP S mo F) h' AD' → Q (some (.int (op_pack S mo F).1)) h' (n + 2 * mdP S mo F)) : mj_bk f w 24 [.ref (AD 5 0), .int mo] h n mc ms Q := by
  have w1 := hW.1
  have w2 := hW.2.1
  obtain ⟨plc0, hO⟩ := hC.os hM
  refine mj_begin (by omega) (by decide) (by show 24 ≤ w; omega) rfl ?_
  show mj_W _ _ 24 mj_noZ Q 0 [.ref (AD 5 0), .int mo, .retAddr 0, .retAddr 0, .retAddr 0] [] h n mc ms
  unfold op_pack at hQ
  by_cases hc : 1 ≤ mo ∧ mo ≤ 10
  · rw [if_pos hc] at hQ
    rw [sX2_pack_0, sX2_pack_1, sX2_pack_2]
    refine And.intro (fun c => absurd c (by clear hQ hL hM hC hO hmc hms; (simp only [Int32.le_iff_toInt_le, Int32.lt_iff_toInt_lt, i32_eq, i32_0, i32_m1, i32_600, i32_60, i32_20, i32_99, i32_10, i32_1, i32_2] at *; omega))) (fun _ => ?_)
    rw [sX2_pack_5, sX2_pack_6, sX2_pack_8]
    refine And.intro (fun _ => ?_) (fun c => absurd hc.2 c)
    obtain ⟨most, t1, rfl, t3⟩ := i32_of (x := mo) (by clear hQ hL hM hC hO hmc hms; (simp only [Int32.le_iff_toInt_le, Int32.lt_iff_toInt_lt, i32_eq, i32_0, i32_m1, i32_600, i32_60, i32_20, i32_99, i32_10, i32_1, i32_2] at *; omega))
    have hm1 : 1 ≤ most := by clear hQ hL hM hC hO hmc hms; (simp only [Int32.le_iff_toInt_le, Int32.lt_iff_toInt_lt, i32_eq, i32_0, i32_m1, i32_600, i32_60, i32_20, i32_99, i32_10, i32_1, i32_2] at *; omega)
    have hm2 : most ≤ 10 := by clear hQ hL hM hC hO hmc hms; (simp only [Int32.le_iff_toInt_le, Int32.lt_iff_toInt_lt, i32_eq, i32_0, i32_m1, i32_600, i32_60, i32_20, i32_99, i32_10, i32_1, i32_2] at *; omega)
    have hLay := hL most rfl hm1 hm2
    have hI : INV S most F := hLay.inv hm1 (fun i hi => (hW.2.2.2.1 i hi).2.1) INV0
    obtain ⟨d1, d2⟩ := hI.md_le
    obtain ⟨F', hOut, f1, f2, f3, f4⟩ := hLay.out.1 rfl
    simp only [sX2_pack_14, sX2_pack_15]
    refine sX2_pack_16z hO rfl (m_plan (by omega) (by show 140 ≤ w - 24; omega) hM hC hW hm1 hm2 hOut (fun h1 C1 hM1 hC1 hK1 hP1 => ?_))
    rw [f2] at hP1 ⊢
    by_cases h20 : 20 < S_np S + F.md
    · rw [if_pos h20] at hQ ⊢
      have emd : mdP S (nI most) F = 0 := if_neg (fun z => by omega)
      rw [emd] at hQ
      simp only [sX2_pack_19, sX2_pack_20, sX2_pack_21, sX2_pack_23, Option.some.injEq, Sum.inr.injEq, Sum.inl.injEq, Prod.mk.injEq, true_and, and_true, exists_eq_left', exists_eq_left, exists_eq_right, exists_eq_right', exists_and_left, exists_and_right, List.getElem?_cons_succ, List.getElem?_cons_zero, List.length_cons, List.length_nil, List.set_cons_zero, List.set_cons_succ, Option.toList_some, Option.toList_none, List.nil_append, List.cons_append, mj_up_s, true_or, or_true, Nat.sub_zero, and_assoc, b10, not_true_eq_false, not_false_eq_true, false_implies, true_implies, implies_true, eq_self, and_self, rf_some, rf_none]
      simp only [sX2_pack_26, sX2_pack_28]
      exact hQ h1 AD ⟨fun _ _ _ => rfl, C1, hM1, hC1, hK1⟩
    · rw [if_neg h20] at hQ ⊢
      have h20 : S_np S + F.md ≤ 20 := by omega
      have emd : mdP S (nI most) F = F.md := if_pos ⟨hc, h20⟩
      rw [emd] at hQ hmc hms
      obtain ⟨hP1, g5, e5, e6⟩ := hP1 h20
      rw [f4] at e6
      obtain ⟨q5, q4, -⟩ := hP1
      rw [f1] at q5
      rw [f1, f3] at q4
      have hne4 : nI F.md ≠ -4 := fun e => by
        have a1 := nI_tI (n := F.md) (by omega)
        rw [e] at a1
        have : (-4 : Int32).toInt = -4 := rfl
        omega
      simp only [sX2_pack_19, sX2_pack_20, sX2_pack_21, sX2_pack_23, Option.some.injEq, Sum.inr.injEq, Sum.inl.injEq, Prod.mk.injEq, true_and, and_true, exists_eq_left', exists_eq_left, exists_eq_right, exists_eq_right', exists_and_left, exists_and_right, List.getElem?_cons_succ, List.getElem?_cons_zero, List.length_cons, List.length_nil, List.set_cons_zero, List.set_cons_succ, Option.toList_some, Option.toList_none, List.nil_append, List.cons_append, mj_up_s, true_or, or_true, Nat.sub_zero, and_assoc, b10, not_true_eq_false, not_false_eq_true, false_implies, true_implies, implies_true, eq_self, and_self, rf_some, rf_none]
      refine And.intro (fun _ => ?_) (fun c => absurd hne4 c)
      have loop : ∀ m k, k + m = F.md → ∀ h1 C1 AD1, (∀ a b, VS S a b → AD1 a b = AD a b) → MEM h1 (n + 2 * k) AD1 (VS (wAll S F.od F.en k)) C1 → CC (wAll S F.od F.en k) AD1 C1 → C1 5 0 = OSc AD1 (wAll S F.od F.en k) (nI F.dn) → (∃ g, C1 0 4 = .inl (.int, 60, .inl g) ∧ ∀ i, i < F.dn → g i = nI (F.od i)) → C1 0 5 = .inl (.int, 20, .inl g5) → (∀ a b, 6 ≤ a → C1 a b = C a b) → mj_W (f - 1) (w - (19 + mj_maxL 24)) 24 mj_noZ Q 34 [.ref (AD 5 0), .int (nI most), .int (nI F.md), .int (nI (stt F.en k)), .int (nI k)] [] h1 (n + 2 * k) (mc - 2 * k) (ms - 606 * k) := by
        intro m
        induction m with
        | zero =>
          intro k hk h1 C1 AD1 hA1 hM1 hC1 k5 k4 k05 k6
          obtain rfl : k = F.md := by omega
          rw [sX2_pack_34, sX2_pack_36, sX2_pack_37]
          refine And.intro (fun _ => ?_) (fun c => absurd (nI_le (Nat.le_refl _) (by omega)) c)
          simp only [sX2_pack_73, sX2_pack_74]
          exact hQ h1 AD1 ⟨hA1, C1, hM1, hC1, k6⟩
        | succ m ih =>
          intro k hk h1 C1 AD1 hA1 hM1 hC1 k5 k4 k05 k6
          have hWI := WI.all hW hI hm2 h20 k (by omega)
          obtain ⟨a1, a2, a3, a4, a5, a6⟩ := hWI.facts hW hI hm2 (by omega)
          have hnp := hWI.2.2.1
          have hno := hWI.2.1
          have eA : AD1 5 0 = AD 5 0 := hA1 5 0 rfl
          have hO := hM1.1 5 0 rfl
          rw [k5] at hO
          have hA5 := hM1.1 0 5 (show 5 < 6 by omega)
          rw [k05] at hA5
          have ck := nI_cl (show k < 2147483648 by omega)
          have vk : vp_in (nI k) 20 := vp_in_nI (by omega) (by decide)
          have ek : nI k + 1 = nI (k + 1) := nI_1 _
          rw [← eA]
          rw [sX2_pack_34, sX2_pack_36, sX2_pack_37]
          refine And.intro (fun c => absurd c (nI_ge (by omega) (by omega))) (fun _ => ?_)
          rw [sX2_pack_40, sX2_pack_42, sX2_pack_44]
          refine And.intro (fun c => absurd c (show ¬ nI 20 ≤ nI k from nI_ge (by omega) (by omega))) (fun _ => ?_)
          simp only [sX2_pack_47, sX2_pack_48, sX2_pack_49, sX2_pack_50, sX2_pack_53, sX2_pack_55, hO, hA5, Option.some.injEq, Sum.inr.injEq, Sum.inl.injEq, Prod.mk.injEq, true_and, and_true, exists_eq_left', exists_eq_left, exists_eq_right, exists_eq_right', exists_and_left, exists_and_right, List.getElem?_cons_succ, List.getElem?_cons_zero, List.length_cons, List.length_nil, List.set_cons_zero, List.set_cons_succ, Option.toList_some, Option.toList_none, List.nil_append, List.cons_append, mj_up_s, true_or, or_true, Nat.sub_zero, and_assoc, b10, not_true_eq_false, not_false_eq_true, false_implies, true_implies, implies_true, eq_self, and_self, rf_some, rf_none, ck, e6 k (by omega)]
          refine And.intro vk ?_
          refine sX2_pack_56 2 606 hO rfl (by omega) (by omega) (m_writePack (by omega) (by show 118 ≤ w - 24; omega) hM1 hC1 hWI.1 (by omega) (by omega) (by omega) k5 k4 (by omega) a2 a3 a4 a5 a6 (fun h2 C2 hM2 hC2 j6 j4 j05 j5 => ?_))
          generalize hAD : Au (Au AD1 3 (S_np (wAll S F.od F.en k)) (n + 2 * k)) 4 (S_np (wAll S F.od F.en k)) (n + 2 * k + 1) = AD2 at *
          have hA2 : ∀ a b, VS S a b → AD2 a b = AD1 a b := fun a b hab => by
            rw [← hAD]
            have q1 : ¬ (a = 3 ∧ b = S_np (wAll S F.od F.en k)) := fun e => by
              obtain ⟨rfl, rfl⟩ := e
              have hab : S_np (wAll S F.od F.en k) < S_np S := hab
              omega
            have q2 : ¬ (a = 4 ∧ b = S_np (wAll S F.od F.en k)) := fun e => by
              obtain ⟨rfl, rfl⟩ := e
              have hab : S_np (wAll S F.od F.en k) < S_np S := hab
              omega
            simp [Au, q1, q2]
          have e2A : AD2 5 0 = AD1 5 0 := hA2 5 0 rfl
          have hO2 := hM2.1 5 0 rfl
          rw [j5, e2A] at hO2
          have hA52 := hM2.1 0 5 (show 5 < 6 by omega)
          rw [j05, k05] at hA52
          have go := ih (k + 1) (by omega) h2 C2 AD2 (fun a b hab => (hA2 a b hab).trans (hA1 a b hab)) (by rw [show n + 2 * (k + 1) = n + 2 * k + 2 by omega]; exact hM2) hC2 j5 (by rw [j4]; exact k4) (by rw [j05]; exact k05) (fun a b ha => (j6 a b ha).trans (k6 a b ha))
          rw [show n + 2 * (k + 1) = n + 2 * k + 2 by omega, show mc - 2 * (k + 1) = mc - 2 * k - 2 by omega, show ms - 606 * (k + 1) = ms - 606 * k - 606 by omega, stt_s, ← eA] at go
          simp only [sX2_pack_59, sX2_pack_60, sX2_pack_63, sX2_pack_65, sX2_pack_66, sX2_pack_67, sX2_pack_70, hO2, hA52, Option.some.injEq, Sum.inr.injEq, Sum.inl.injEq, Prod.mk.injEq, true_and, and_true, exists_eq_left', exists_eq_left, exists_eq_right, exists_eq_right', exists_and_left, exists_and_right, List.getElem?_cons_succ, List.getElem?_cons_zero, List.length_cons, List.length_nil, List.set_cons_zero, List.set_cons_succ, Option.toList_some, Option.toList_none, List.nil_append, List.cons_append, mj_up_s, true_or, or_true, Nat.sub_zero, and_assoc, b10, not_true_eq_false, not_false_eq_true, false_implies, true_implies, implies_true, eq_self, and_self, rf_some, rf_none, ck, e6 k (by omega), ek]
          exact And.intro vk go
      simp only [sX2_pack_29, sX2_pack_30, sX2_pack_31, sX2_pack_32, Option.some.injEq, Sum.inr.injEq, Sum.inl.injEq, Prod.mk.injEq, true_and, and_true, exists_eq_left', exists_eq_left, exists_eq_right, exists_eq_right', exists_and_left, exists_and_right, List.getElem?_cons_succ, List.getElem?_cons_zero, List.length_cons, List.length_nil, List.set_cons_zero, List.set_cons_succ, Option.toList_some, Option.toList_none, List.nil_append, List.cons_append, mj_up_s, true_or, or_true, Nat.sub_zero, and_assoc, b10, not_true_eq_false, not_false_eq_true, false_implies, true_implies, implies_true, eq_self, and_self, rf_some, rf_none]
      exact loop F.md 0 (by omega) h1 C1 AD (fun _ _ _ => rfl) hM1 hC1 q5 q4 e5 hK1
  · rw [if_neg hc] at hQ
    have emd : mdP S mo F = 0 := if_neg (fun z => hc z.1)
    rw [emd] at hQ
    have fin := hQ h AD (KEEPA.rf hM hC)
    simp only [sX2_pack_0, sX2_pack_1, sX2_pack_2, sX2_pack_5, sX2_pack_6, sX2_pack_8, sX2_pack_11, sX2_pack_13]
    refine And.intro (fun _ => fin) (fun c1 => And.intro (fun c2 => ?_) (fun _ => fin))
    exact absurd ⟨by clear hQ hL hM hC hO hmc hms hc fin; (simp only [Int32.le_iff_toInt_le, Int32.lt_iff_toInt_lt, i32_eq, i32_0, i32_m1, i32_600, i32_60, i32_20, i32_99, i32_10, i32_1, i32_2] at *; omega), c2⟩ hc
end
