/-! ===== the class: plan ===== -/
section
variable {f w : Nat} {Q : mj_Q} {h : mj_H} {n mc ms : Nat} {S : St} {AD : Ad} {C : Ct} {P : PL}
/-- the ends of the planned packs -/
def PE (C : Ct) (en : Nat → Nat) (k : Nat) : Prop := ∃ g, C 0 5 = .inl (.int, 20, .inl g) ∧ ∀ j, j < k → g j = nI (en j)
set_option maxRecDepth 100000 in
theorem m_plan (hf : 6 ≤ f) (hw : 140 ≤ w) (hM : MEM h n AD (VS S) C) (hC : CC S AD C) (hW : WF S) {most : Nat} (hm1 : 1 ≤ most) (hm2 : most ≤ 10) {F : PL} (hL : Out S most PL0 F)
    (hQ : ∀ h' C', MEM h' n AD (VS S) C' → CC S AD C' → (∀ a b, 6 ≤ a → C' a b = C a b) → (S_np S + F.md ≤ 20 → CP S AD C' F ∧ PE C' F.en F.md) → Q (some (.int (if 20 < S_np S + F.md then -4 else nI F.md))) h' n) : mj_bk f w 47 [.ref (AD 5 0), .int (nI most)] h n mc ms Q := by
  have w1 := hW.1
  have w2 := hW.2.1
  have hz60 : ∀ i, i < S_no S → S_sz S i ≤ 60 := fun i hi => (hW.2.2.2.1 i hi).2.1
  refine mj_begin (by omega) (by decide) (by show 24 ≤ w; omega) rfl ?_
  show mj_W _ _ 47 mj_noZ Q 0 [.ref (AD 5 0), .int (nI most), .retAddr 0, .retAddr 0, .retAddr 0] [] h n mc ms
  have main := hL (fun P F => INV S most P → P.md ≤ F.md ∧ (S_np S + P.md ≤ 20 → (∀ h' C', MEM h' n AD (VS S) C' → CC S AD C' → (∀ a b, 6 ≤ a → C' a b = C a b) → (S_np S + F.md ≤ 20 → CP S AD C' F ∧ PE C' F.en F.md) → Q (some (.int (if 20 < S_np S + F.md then -4 else nI F.md))) h' n) → ∀ h1 C1 v4, MEM h1 n AD (VS S) C1 → CC S AD C1 → CP S AD C1 P → PE C1 P.en P.md → (∀ a b, 6 ≤ a → C1 a b = C a b) → mj_W (f - 1) (w - (19 + mj_maxL 47)) 47 mj_noZ Q 65 [.ref (AD 5 0), .int (nI most), .int (nI P.md), .int (nI P.md), v4] [] h1 n mc ms)) ⟨?_, ?_⟩
  · -- the waiting ones
    obtain ⟨plc, hO⟩ := hC.os hM
    simp only [sX2_plan_0, sX2_plan_1, sX2_plan_2, hO, nfr_2_0, ffr_2_0, nfu_2_0, ffu_2_0, nfi_2_1, ffi_2_1, nfr_2_2, ffr_2_2, nfu_2_2, ffu_2_2, nfi_2_3, ffi_2_3, nfr_2_4, ffr_2_4, nfu_2_4, ffu_2_4, nfr_2_5, ffr_2_5, nfu_2_5, ffu_2_5, nfi_2_6, ffi_2_6, nfr_2_7, ffr_2_7, nfu_2_7, ffu_2_7, nfi_2_8, ffi_2_8, nfr_2_9, ffr_2_9, nfu_2_9, ffu_2_9, Option.some.injEq, Sum.inr.injEq, Sum.inl.injEq, Prod.mk.injEq, true_and, and_true, exists_eq_left', exists_eq_left, exists_eq_right, exists_eq_right', exists_and_left, exists_and_right, List.getElem?_cons_succ, List.getElem?_cons_zero, List.length_cons, List.length_nil, List.set_cons_zero, List.set_cons_succ, Option.toList_some, Option.toList_none, List.nil_append, List.cons_append, mj_up_s, true_or, or_true, Nat.sub_zero, and_assoc, b10, not_true_eq_false, not_false_eq_true, false_implies, true_implies, implies_true, eq_self, and_self, rf_some, rf_none]
    refine And.intro (by decide) ?_
    have M1 := hM.put (k := 5) (i := 0) (c := OSc AD S 0) rfl
    have D1 : CC S AD (Cu C 5 0 (OSc AD S 0)) := CC_pln hC (fun a b q1 _ _ => Cu_k q1) ⟨0, Cu_s⟩ (by rw [Cu_k (by decide)]; exact hC.2.2.2.2.2.1) (by rw [Cu_k (by decide)]; exact hC.2.2.2.2.2.2.1) (fun i hi => by rw [Cu_k (by decide)]; exact hC.2.2.2.2.2.2.2.1 i hi)
    have loop : ∀ m k, k + m = S_no S → ∀ h1 C1 v3 v4, MEM h1 n AD (VS S) C1 → CC S AD C1 → C1 5 0 = OSc AD S 0 → (∀ i, i < k → C1 1 i = ITc i (S_kd S i) (AD 2 i) (S_sz S i) (hmv AD (S_pk S i)) (S_ix S i) (wtv S PL0.tk i)) → (∀ a b, 6 ≤ a → C1 a b = C a b) → mj_W (f - 1) (w - (19 + mj_maxL 47)) 47 mj_noZ Q 7 [.ref (AD 5 0), .int (nI most), .int (nI k), v3, v4] [] h1 n mc ms := by
      intro m
      induction m with
      | zero =>
        intro k hk h1 C1 v3 v4 hM1 hC1 h5 hI1 hk6
        obtain rfl : k = S_no S := by omega
        have hO := hM1.1 5 0 rfl
        rw [h5] at hO
        obtain ⟨g4, y4⟩ := hC1.2.2.2.2.2.1
        obtain ⟨g5, y5⟩ := hC1.2.2.2.2.2.2.1
        have go := (main INV0).2 (by show S_np S + 0 ≤ 20; omega) hQ h1 C1 v4 hM1 hC1 ⟨h5, ⟨g4, y4, fun i hi => absurd hi (Nat.not_lt_zero _)⟩, hI1⟩ ⟨g5, y5, fun j hj => absurd hj (Nat.not_lt_zero _)⟩ hk6
        rw [sX2_plan_7]
        simp only [sX2_plan_8, sX2_plan_9, sX2_plan_12, hO, Option.some.injEq, Sum.inr.injEq, Sum.inl.injEq, Prod.mk.injEq, true_and, and_true, exists_eq_left', exists_eq_left, exists_eq_right, exists_eq_right', exists_and_left, exists_and_right, List.getElem?_cons_succ, List.getElem?_cons_zero, List.length_cons, List.length_nil, List.set_cons_zero, List.set_cons_succ, Option.toList_some, Option.toList_none, List.nil_append, List.cons_append, mj_up_s, true_or, or_true, Nat.sub_zero, and_assoc, b10, not_true_eq_false, not_false_eq_true, false_implies, true_implies, implies_true, eq_self, and_self, rf_some, rf_none]
        refine And.intro (fun _ => ?_) (fun c => absurd (nI_le (Nat.le_refl _) (by omega)) c)
        simp only [sX2_plan_61, sX2_plan_62, sX2_plan_63, sX2_plan_64, Option.some.injEq, Sum.inr.injEq, Sum.inl.injEq, Prod.mk.injEq, true_and, and_true, exists_eq_left', exists_eq_left, exists_eq_right, exists_eq_right', exists_and_left, exists_and_right, List.getElem?_cons_succ, List.getElem?_cons_zero, List.length_cons, List.length_nil, List.set_cons_zero, List.set_cons_succ, Option.toList_some, Option.toList_none, List.nil_append, List.cons_append, mj_up_s, true_or, or_true, Nat.sub_zero, and_assoc, b10, not_true_eq_false, not_false_eq_true, false_implies, true_implies, implies_true, eq_self, and_self, rf_some, rf_none]
        exact go
      | succ m ih =>
        intro k hk h1 C1 v3 v4 hM1 hC1 h5 hI1 hk6
        have e1 : nI k + 1 = nI (k + 1) := nI_1 k
        have hkn : k < S_no S := by omega
        have hO := hM1.1 5 0 rfl
        rw [h5] at hO
        obtain ⟨wt, hx⟩ := hC1.it hM1 hkn
        have hkd := (hW.2.2.2.1 k hkn).1
        have hzk := hz60 k hkn
        rw [sX2_plan_7]
        simp only [sX2_plan_8, sX2_plan_9, sX2_plan_12, sX2_plan_15, sX2_plan_16, hO, Option.some.injEq, Sum.inr.injEq, Sum.inl.injEq, Prod.mk.injEq, true_and, and_true, exists_eq_left', exists_eq_left, exists_eq_right, exists_eq_right', exists_and_left, exists_and_right, List.getElem?_cons_succ, List.getElem?_cons_zero, List.length_cons, List.length_nil, List.set_cons_zero, List.set_cons_succ, Option.toList_some, Option.toList_none, List.nil_append, List.cons_append, mj_up_s, true_or, or_true, Nat.sub_zero, and_assoc, b10, not_true_eq_false, not_false_eq_true, false_implies, true_implies, implies_true, eq_self, and_self, rf_some, rf_none]
        refine And.intro (fun c => absurd c (nI_ge (by omega) (by omega))) (fun _ => ?_)
        refine sX2_plan_17z hO rfl (m_itemOf (by omega) (by show 21 ≤ w - 24; omega) hM1 hC1 hW ?_)
        rw [obI_n (by omega), nI_cl (by omega), if_pos (show decide (k < S_no S) = true by simp; omega)]
        simp only [sX2_plan_20, sX2_plan_21, sX2_plan_22, sX2_plan_25, sX2_plan_26, sX2_plan_27, sX2_plan_30, hx, Option.some.injEq, Sum.inr.injEq, Sum.inl.injEq, Prod.mk.injEq, true_and, and_true, exists_eq_left', exists_eq_left, exists_eq_right, exists_eq_right', exists_and_left, exists_and_right, List.getElem?_cons_succ, List.getElem?_cons_zero, List.length_cons, List.length_nil, List.set_cons_zero, List.set_cons_succ, Option.toList_some, Option.toList_none, List.nil_append, List.cons_append, mj_up_s, true_or, or_true, Nat.sub_zero, and_assoc, b10, not_true_eq_false, not_false_eq_true, false_implies, true_implies, implies_true, eq_self, and_self, rf_some, rf_none]
        -- the flag is put
        have fin : ∀ b, b = wtv S PL0.tk k → mj_W (f - 1) (w - (19 + mj_maxL 47)) 47 mj_noZ Q 52 [.ref (AD 5 0), .int (nI most), .int (nI k), .ref (AD 1 k), v4] [.int b, .ref (AD 1 k)] h1 n mc ms := by
          intro b hb
          have hnb : narrow .boolean (.int b) = .int b := by rw [hb]; unfold wtv; split <;> rfl
          have M2 := hM1.put (k := 1) (i := k) (c := ITc k (S_kd S k) (AD 2 k) (S_sz S k) (hmv AD (S_pk S k)) (S_ix S k) b) hkn
          have I2 : ∀ i, i < k + 1 → Cu C1 1 k (ITc k (S_kd S k) (AD 2 k) (S_sz S k) (hmv AD (S_pk S k)) (S_ix S k) b) 1 i = ITc i (S_kd S i) (AD 2 i) (S_sz S i) (hmv AD (S_pk S i)) (S_ix S i) (wtv S PL0.tk i) := fun i hi => by
            by_cases e : i = k
            · subst e; rw [Cu_s, hb]
            · rw [Cu_i e]; exact hI1 i (by omega)
          have D2 : CC S AD (Cu C1 1 k (ITc k (S_kd S k) (AD 2 k) (S_sz S k) (hmv AD (S_pk S k)) (S_ix S k) b)) := CC_pln hC1 (fun a c _ q2 _ => Cu_k q2) ⟨0, by rw [Cu_k (by decide)]; exact h5⟩ (by rw [Cu_k (by decide)]; exact hC1.2.2.2.2.2.1) (by rw [Cu_k (by decide)]; exact hC1.2.2.2.2.2.2.1) (fun i hi => by
            by_cases e : i = k
            · subst e; exact ⟨b, Cu_s⟩
            · rw [Cu_i e]; exact hC1.2.2.2.2.2.2.2.1 i hi)
          have go := ih (k + 1) (by omega) _ _ (.ref (AD 1 k)) v4 M2 D2 (by rw [Cu_k (by decide)]; exact h5) I2 (fun a c ha => by rw [Cu_k (by omega)]; exact hk6 a c ha)
          simp only [sX2_plan_52, hx, nfi_0_0, ffi_0_0, nfi_0_1, ffi_0_1, nfr_0_2, ffr_0_2, nfu_0_2, ffu_0_2, nfi_0_3, ffi_0_3, nfr_0_4, ffr_0_4, nfu_0_4, ffu_0_4, nfi_0_5, ffi_0_5, nfz_0_6, ffz_0_6, nfo_0_6, ffo_0_6, Option.some.injEq, Sum.inr.injEq, Sum.inl.injEq, Prod.mk.injEq, true_and, and_true, exists_eq_left', exists_eq_left, exists_eq_right, exists_eq_right', exists_and_left, exists_and_right, List.getElem?_cons_succ, List.getElem?_cons_zero, List.length_cons, List.length_nil, List.set_cons_zero, List.set_cons_succ, Option.toList_some, Option.toList_none, List.nil_append, List.cons_append, mj_up_s, true_or, or_true, Nat.sub_zero, and_assoc, b10, not_true_eq_false, not_false_eq_true, false_implies, true_implies, implies_true, eq_self, and_self, rf_some, rf_none, hnb, sX2_plan_55, sX2_plan_58, e1]
          exact And.intro (by decide) (And.intro hnb (And.intro (by rw [hb]; unfold wtv; split <;> rfl) go))
        have no : wtv S PL0.tk k = 0 → mj_W (f - 1) (w - (19 + mj_maxL 47)) 47 mj_noZ Q 51 [.ref (AD 5 0), .int (nI most), .int (nI k), .ref (AD 1 k), v4] [.ref (AD 1 k)] h1 n mc ms := fun e => by
          rw [sX2_plan_51]; exact fin 0 e.symm
        refine And.intro (fun c => no (if_neg (fun z => c (by rw [(wts_iff.mp z.1).1]; rfl)))) (fun c => ?_)
        have k0 : S_kd S k = 0 := (nI_eq (by omega) (by omega)).mp (show nI _ = nI 0 from Classical.not_not.mp c)
        cases hp : S_pk S k with
        | succ q =>
          rw [hp] at hx
          simp only [sX2_plan_33, sX2_plan_34, sX2_plan_37, hx, hmv, Option.some.injEq, Sum.inr.injEq, Sum.inl.injEq, Prod.mk.injEq, true_and, and_true, exists_eq_left', exists_eq_left, exists_eq_right, exists_eq_right', exists_and_left, exists_and_right, List.getElem?_cons_succ, List.getElem?_cons_zero, List.length_cons, List.length_nil, List.set_cons_zero, List.set_cons_succ, Option.toList_some, Option.toList_none, List.nil_append, List.cons_append, mj_up_s, true_or, or_true, Nat.sub_zero, and_assoc, b10, not_true_eq_false, not_false_eq_true, false_implies, true_implies, implies_true, eq_self, and_self, rf_some, rf_none]
          exact no (if_neg (fun z => by have := (wts_iff.mp z.1).2.1; omega))
        | zero =>
          rw [hp] at hx
          simp only [sX2_plan_33, sX2_plan_34, sX2_plan_37n, sX2_plan_40, sX2_plan_41, sX2_plan_44, hx, hmv, Option.some.injEq, Sum.inr.injEq, Sum.inl.injEq, Prod.mk.injEq, true_and, and_true, exists_eq_left', exists_eq_left, exists_eq_right, exists_eq_right', exists_and_left, exists_and_right, List.getElem?_cons_succ, List.getElem?_cons_zero, List.length_cons, List.length_nil, List.set_cons_zero, List.set_cons_succ, Option.toList_some, Option.toList_none, List.nil_append, List.cons_append, mj_up_s, true_or, or_true, Nat.sub_zero, and_assoc, b10, not_true_eq_false, not_false_eq_true, false_implies, true_implies, implies_true, eq_self, and_self, rf_some, rf_none]
          refine And.intro (fun c => no (if_neg (fun z => absurd c (show ¬ nI _ ≤ nI 0 from nI_ge (wts_iff.mp z.1).2.2 (by omega))))) (fun c => ?_)
          have z0 : 0 < S_sz S k := Nat.pos_of_ne_zero (fun z => c (by rw [z]; decide))
          simp only [sX2_plan_47, sX2_plan_48]
          exact fin 1 (if_pos ⟨wts_iff.mpr ⟨k0, hp, z0⟩, rfl⟩).symm
    simp only [sX2_plan_5, sX2_plan_6, Option.some.injEq, Sum.inr.injEq, Sum.inl.injEq, Prod.mk.injEq, true_and, and_true, exists_eq_left', exists_eq_left, exists_eq_right, exists_eq_right', exists_and_left, exists_and_right, List.getElem?_cons_succ, List.getElem?_cons_zero, List.length_cons, List.length_nil, List.set_cons_zero, List.set_cons_succ, Option.toList_some, Option.toList_none, List.nil_append, List.cons_append, mj_up_s, true_or, or_true, Nat.sub_zero, and_assoc, b10, not_true_eq_false, not_false_eq_true, false_implies, true_implies, implies_true, eq_self, and_self, rf_some, rf_none]
    exact loop (S_no S) 0 (by omega) _ _ _ _ M1 D1 Cu_s (fun i hi => absurd hi (Nat.not_lt_zero _)) (fun a b ha => Cu_k (by omega))
  · -- nothing waits
    intro P hl hn hI
    refine ⟨Nat.le_refl _, ?_⟩
    intro hmd hQ h1 C1 v4 hM1 hC1 hP1 hE1 hk6
    have fin := hQ h1 C1 hM1 hC1 hk6 (fun _ => ⟨hP1, hE1⟩)
    rw [if_neg (by omega)] at fin
    have hO := hM1.1 5 0 rfl
    rw [hP1.1] at hO
    rw [sX2_plan_65, sX2_plan_66, sX2_plan_68]
    refine And.intro (fun c => absurd c (show ¬ nI 60 ≤ nI P.md from nI_ge (by omega) (by omega))) (fun _ => ?_)
    simp only [sX2_plan_71, sX2_plan_72]
    refine sX2_plan_73z hO rfl (m_nextBehind (la := 0) (tk := P.tk) (by omega) (by show 90 ≤ w - 24; omega) hM1 hC1 hW hP1.2.2 (fun l hl => by omega) ?_)
    rw [hn]
    simp only [itv, Option.some.injEq, Sum.inr.injEq, Sum.inl.injEq, Prod.mk.injEq, true_and, and_true, exists_eq_left', exists_eq_left, exists_eq_right, exists_eq_right', exists_and_left, exists_and_right, List.getElem?_cons_succ, List.getElem?_cons_zero, List.length_cons, List.length_nil, List.set_cons_zero, List.set_cons_succ, Option.toList_some, Option.toList_none, List.nil_append, List.cons_append, mj_up_s, true_or, or_true, Nat.sub_zero, and_assoc, b10, not_true_eq_false, not_false_eq_true, false_implies, true_implies, implies_true, eq_self, and_self, rf_some, rf_none, sX2_plan_76n, sX2_plan_78n, sX2_plan_80n, sX2_plan_83, sX2_plan_126, sX2_plan_127]
    exact fin
  · -- one pack more
    intro P P' F o hl hn hIn ih hI
    obtain ⟨h5, h6, h7⟩ := nxt_some hn
    have hnf : ¬ ful S most P o := fun z => z.1 hl
    have hI' := hI.push hm1 h5 h6 h7 (hz60 _ h5) hnf
    have emd : (pushP S P o).md = P.md + 1 := if_pos hl
    obtain ⟨i1, i2, i3, i4⟩ := hIn.inv hm1 hz60 hI' (by show o + 1 ≠ 0; omega)
    rw [emd] at i3 i4
    have hmdF : P.md + 1 ≤ F.md := by have := (ih i1).1; omega
    refine ⟨by omega, ?_⟩
    intro hmd hQ h1 C1 v4 hM1 hC1 hP1 hE1 hk6
    have hO := hM1.1 5 0 rfl
    rw [hP1.1] at hO
    rw [sX2_plan_65, sX2_plan_66, sX2_plan_68]
    refine And.intro (fun c => absurd c (show ¬ nI 60 ≤ nI P.md from nI_ge (by omega) (by omega))) (fun _ => ?_)
    simp only [sX2_plan_71, sX2_plan_72]
    refine sX2_plan_73z hO rfl (m_nextBehind (la := 0) (tk := P.tk) (by omega) (by show 90 ≤ w - 24; omega) hM1 hC1 hW hP1.2.2 (fun l hl => by omega) ?_)
    rw [hn]
    have es : nI (S_np S) + nI P.md = nI (S_np S + P.md) := nI_add _ _
    simp only [itv, Option.some.injEq, Sum.inr.injEq, Sum.inl.injEq, Prod.mk.injEq, true_and, and_true, exists_eq_left', exists_eq_left, exists_eq_right, exists_eq_right', exists_and_left, exists_and_right, List.getElem?_cons_succ, List.getElem?_cons_zero, List.length_cons, List.length_nil, List.set_cons_zero, List.set_cons_succ, Option.toList_some, Option.toList_none, List.nil_append, List.cons_append, mj_up_s, true_or, or_true, Nat.sub_zero, and_assoc, b10, not_true_eq_false, not_false_eq_true, false_implies, true_implies, implies_true, eq_self, and_self, rf_some, rf_none, sX2_plan_76, sX2_plan_78, sX2_plan_80, sX2_plan_86, sX2_plan_87, sX2_plan_90, sX2_plan_91, sX2_plan_92, sX2_plan_94, hO, es]
    by_cases h20 : S_np S + P.md < 20
    · refine And.intro (fun _ => ?_) (fun c => absurd (show nI _ < nI 20 from nI_lt h20 (by omega)) c)
      simp only [sX2_plan_100, sX2_plan_101, sX2_plan_103]
      refine sX2_plan_104z hO rfl (m_planPack (by omega) (by show 116 ≤ w - 24; omega) hM1 hC1 hW hm1 hm2 hI hP1 hl hn hIn (fun h2 C2 hM2 hC2 hP2 hK2 => ?_))
      obtain ⟨g, g1, g2⟩ := hE1
      rw [← hK2.2] at g1
      have hO2 := hM2.1 5 0 rfl
      rw [hP2.1] at hO2
      have hA2 := hM2.1 0 5 (show 5 < 6 by omega)
      rw [g1] at hA2
      have cm := nI_cl (show P.md < 2147483648 by omega)
      have e1 : nI P.md + 1 = nI (P.md + 1) := nI_1 _
      simp only [Option.some.injEq, Sum.inr.injEq, Sum.inl.injEq, Prod.mk.injEq, true_and, and_true, exists_eq_left', exists_eq_left, exists_eq_right, exists_eq_right', exists_and_left, exists_and_right, List.getElem?_cons_succ, List.getElem?_cons_zero, List.length_cons, List.length_nil, List.set_cons_zero, List.set_cons_succ, Option.toList_some, Option.toList_none, List.nil_append, List.cons_append, mj_up_s, true_or, or_true, Nat.sub_zero, and_assoc, b10, not_true_eq_false, not_false_eq_true, false_implies, true_implies, implies_true, eq_self, and_self, rf_some, rf_none, sX2_plan_107, sX2_plan_108, sX2_plan_111, sX2_plan_112, sX2_plan_113, sX2_plan_116, sX2_plan_117, sX2_plan_120, sX2_plan_123, hO2, hA2, cm, e1]
      refine And.intro (vp_in_nI (by omega) (by decide)) ?_
      have M3 := hM2.put (k := 0) (i := 5) (c := .inl (.int, 20, .inl (upd g P.md (nI P'.dn)))) (show 5 < 6 by omega)
      have k6 : ∀ a b, 6 ≤ a → Cu C2 0 5 (.inl (.int, 20, .inl (upd g P.md (nI P'.dn)))) a b = C a b := fun a b ha => by rw [Cu_k (by omega), hK2.1 a b ha]; exact hk6 a b ha
      have D3 : CC S AD (Cu C2 0 5 (.inl (.int, 20, .inl (upd g P.md (nI P'.dn))))) := CC_pln hC2 (fun a b q1 q2 q3 => by
          by_cases e : a = 0
          · rw [Cu_i (by omega)]
          · rw [Cu_k e]) ⟨_, by rw [Cu_k (by decide)]; exact hP2.1⟩ (by rw [Cu_i (by decide)]; exact hC2.2.2.2.2.2.1) ⟨_, Cu_s⟩ (fun i hi => by rw [Cu_k (by decide)]; exact hC2.2.2.2.2.2.2.2.1 i hi)
      have P3 : CP S AD (Cu C2 0 5 (.inl (.int, 20, .inl (upd g P.md (nI P'.dn))))) P' := by
        refine ⟨?_, ?_, fun i hi => ?_⟩
        · rw [Cu_k (by decide)]; exact hP2.1
        · rw [Cu_i (by decide)]; exact hP2.2.1
        · rw [Cu_k (by decide)]; exact hP2.2.2 i hi
      have E3 : PE (Cu C2 0 5 (.inl (.int, 20, .inl (upd g P.md (nI P'.dn))))) P'.en P'.md := by
        refine ⟨_, Cu_s, fun j hj => ?_⟩
        rw [i3] at hj
        by_cases e : j = P.md
        · subst e
          have := i1.las.2 (by omega)
          rw [i3, Nat.add_sub_cancel] at this
          rw [pk_us, this]
        · rw [pk_un e, i4 j (by omega)]
          have : (pushP S P o).en j = P.en j := by
            show updN P.en ((if P.la = 0 then P.md + 1 else P.md) - 1) (P.dn + 1) j = _
            rw [if_pos hl, Nat.add_sub_cancel]; exact updN_n e
          rw [this]; exact g2 j (by omega)
      have go := (ih i1).2 (by omega) hQ _ _ (.ref (AD 1 o)) M3 D3 P3 E3 k6
      rw [i3] at go
      exact go
    · have fin := hQ h1 C1 hM1 hC1 hk6 (fun z => by omega)
      rw [if_pos (by omega)] at fin
      refine And.intro (fun c => absurd c (show ¬ nI _ < nI 20 from by have a1 := nI_tI (n := S_np S + P.md) (by omega); have a2 := nI_tI (n := 20) (by omega); intro z; rw [Int32.lt_iff_toInt_lt, a1, a2] at z; omega)) (fun _ => ?_)
      simp only [sX2_plan_97, sX2_plan_99]
      exact fin
end
