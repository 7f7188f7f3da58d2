/-! ===== the class: planPack, plan ===== -/
def KPL (C C' : Ct) : Prop := (∀ a b, 6 ≤ a → C' a b = C a b) ∧ C' 0 5 = C 0 5
theorem KPL.trans {C C1 C2 : Ct} (h1 : KPL C C1) (h2 : KPL C1 C2) : KPL C C2 := ⟨fun a b h => (h2.1 a b h).trans (h1.1 a b h), h2.2.trans h1.2⟩
theorem CC_pln {S : St} {AD : Ad} {C C' : Ct} (hC : CC S AD C) (hk : ∀ a b, a ≠ 5 → a ≠ 1 → ¬ (a = 0 ∧ (b = 4 ∨ b = 5)) → C' a b = C a b) (h5 : ∃ plc, C' 5 0 = OSc AD S plc) (h4 : ∃ g, C' 0 4 = .inl (.int, 60, .inl g)) (h05 : ∃ g, C' 0 5 = .inl (.int, 20, .inl g)) (h1 : ∀ i, i < S_no S → ∃ wt, C' 1 i = ITc i (S_kd S i) (AD 2 i) (S_sz S i) (hmv AD (S_pk S i)) (S_ix S i) wt) : CC S AD C' := by
  obtain ⟨-, c2, c3, c4, c5, -, -, -, c9, c10, c11⟩ := hC
  refine ⟨h5, ?_, ?_, ?_, ?_, h4, h05, h1, fun i hi => ?_, fun p hp => ?_, fun p hp => ?_⟩
  · rw [hk 0 0 (by decide) (by decide) (by omega)]; exact c2
  · rw [hk 0 1 (by decide) (by decide) (by omega)]; exact c3
  · rw [hk 0 2 (by decide) (by decide) (by omega)]; exact c4
  · rw [hk 0 3 (by decide) (by decide) (by omega)]; exact c5
  · rw [hk 2 i (by decide) (by decide) (by omega)]; exact c9 i hi
  · rw [hk 3 p (by decide) (by decide) (by omega)]; exact c10 p hp
  · rw [hk 4 p (by decide) (by decide) (by omega)]; exact c11 p hp
section
variable {f w : Nat} {Q : mj_Q} {h : mj_H} {n mc ms : Nat} {S : St} {AD : Ad} {C : Ct} {P : PL}
theorem INV.dn_lt {most : Nat} (hI : INV S most P) (hW : WF S) {o : Nat} (ho : o < S_no S) (ht : P.tk o = false) : P.dn < 60 := by
  have := cntN_lt (P := P.tk) ht (S_no S) ho
  rw [← hI.cnt] at this
  have := hW.1
  omega
/-- Inn keeps what it should -/
theorem Inn.inv {most : Nat} (hm1 : 1 ≤ most) (hz : ∀ i, i < S_no S → S_sz S i ≤ 60) {P P' : PL} (hL : Inn S most P P') : INV S most P → P.la ≠ 0 → INV S most P' ∧ P'.la = 0 ∧ P'.md = P.md ∧ ∀ j, j < P.md - 1 → P'.en j = P.en j := by
  refine hL (fun P P' => INV S most P → P.la ≠ 0 → INV S most P' ∧ P'.la = 0 ∧ P'.md = P.md ∧ ∀ j, j < P.md - 1 → P'.en j = P.en j) ⟨fun P h hI hl => ⟨hI.clos, rfl, rfl, fun _ _ => rfl⟩, fun P o h hf hI hl => ⟨hI.clos, rfl, rfl, fun _ _ => rfl⟩, fun P F o h hf ih hI hl => ?_⟩
  obtain ⟨h1, h2, h3⟩ := nxt_some h
  have emd : (pushP S P o).md = P.md := if_neg hl
  obtain ⟨i1, i2, i3, i4⟩ := ih (hI.push hm1 h1 h2 h3 (hz _ h1) hf) (by show o + 1 ≠ 0; omega)
  refine ⟨i1, i2, i3.trans emd, fun j hj => ?_⟩
  rw [i4 j (by rw [emd]; exact hj)]
  show updN P.en ((if P.la = 0 then P.md + 1 else P.md) - 1) (P.dn + 1) j = _
  rw [if_neg hl]
  exact updN_n (by omega)
theorem Out.md {most : Nat} (hm1 : 1 ≤ most) (hz : ∀ i, i < S_no S → S_sz S i ≤ 60) {P F : PL} (hL : Out S most P F) : INV S most P → P.md ≤ F.md := by
  refine hL (fun P F => INV S most P → P.md ≤ F.md) ⟨fun P _ _ _ => Nat.le_refl _, fun P P' F o hl hn hIn ih hI => ?_⟩
  obtain ⟨h1, h2, h3⟩ := nxt_some hn
  have hI' := hI.push hm1 h1 h2 h3 (hz _ h1) (fun z => z.1 hl)
  obtain ⟨i1, i2, i3, i4⟩ := hIn.inv hm1 hz hI' (by show o + 1 ≠ 0; omega)
  have emd : (pushP S P o).md = P.md + 1 := if_pos hl
  have := ih i1
  omega
theorem p92 {v0 v1 v2 v3 v4 v5 v6 : Value} {st : List Value} {rc rs : Nat} (r : Nat) : mj_W f w 48 mj_noZ Q 92 [v0, v1, v2, v3, v4, v5, v6] (itv AD r :: st) h n rc rs = mj_W f w 48 mj_noZ Q 94 [v0, v1, v2, v3, itv AD r, v5, v6] st h n rc rs := by
  cases r with
  | zero => exact sX2_planPack_92n
  | succ q => exact sX2_planPack_92
set_option maxRecDepth 100000 in
theorem m_planPack (hf : 5 ≤ f) (hw : 116 ≤ w) (hM : MEM h n AD (VS S) C) (hC : CC S AD C) (hW : WF S) {most : Nat} (hm1 : 1 ≤ most) (hm2 : most ≤ 10) {P' : PL} {o : Nat} (hI : INV S most P) (hP : CP S AD C P) (hl : P.la = 0) (hn : nxt S P.tk 0 (S_no S) = o + 1) (hIn : Inn S most (pushP S P o) P')
    (hQ : ∀ h' C', MEM h' n AD (VS S) C' → CC S AD C' → CP S AD C' P' → KPL C C' → Q none h' n) : mj_bk f w 48 [.ref (AD 5 0), .ref (AD 1 o), .int (nI most)] h n mc ms Q := by
  have w1 := hW.1
  have hz60 : ∀ i, i < S_no S → S_sz S i ≤ 60 := fun i hi => (hW.2.2.2.1 i hi).2.1
  refine mj_begin (by omega) (by decide) (by show 26 ≤ w; omega) rfl ?_
  show mj_W _ _ 48 mj_noZ Q 0 [.ref (AD 5 0), .ref (AD 1 o), .int (nI most), .retAddr 0, .retAddr 0, .retAddr 0, .retAddr 0] [] h n mc ms
  -- as far as the sum
  have sums : ∀ (P : PL) o n1 s1 h1 C1 v1, n1 < most → P.dn < 60 → o < S_no S → (∀ l, P.la = l + 1 → l < S_no S) → MEM h1 n AD (VS S) C1 → CC S AD C1 → CP S AD C1 P → mj_W (f - 1) (w - (19 + mj_maxL 48)) 48 mj_noZ Q 45 [.ref (AD 5 0), v1, .int (nI most), itv AD P.la, .ref (AD 1 o), .int (nI (s1 + (6 + un S P.la o))), .int (nI n1)] [] h1 n mc ms → mj_W (f - 1) (w - (19 + mj_maxL 48)) 48 mj_noZ Q 11 [.ref (AD 5 0), v1, .int (nI most), itv AD P.la, .ref (AD 1 o), .int (nI s1), .int (nI n1)] [] h1 n mc ms := by
    intro P o n1 s1 h1 C1 v1 hn1 hdn ho hla hM1 hC1 hP1 go
    have hO := hM1.1 5 0 rfl
    rw [hP1.1] at hO
    have hx := hM1.1 1 o ho
    rw [hP1.2.2 o ho] at hx
    have e6 : (6 : Int32) + nI (un S P.la o) = nI (6 + un S P.la o) := by rw [show (6 : Int32) = nI 6 from rfl, nI_add]
    have es : nI s1 + nI (6 + un S P.la o) = nI (s1 + (6 + un S P.la o)) := nI_add _ _
    rw [sX2_planPack_11, sX2_planPack_13, sX2_planPack_14]
    refine And.intro (fun c => absurd c (nI_ge hn1 (by omega))) (fun _ => ?_)
    simp only [sX2_planPack_17, sX2_planPack_19, sX2_planPack_22, sX2_planPack_23, sX2_planPack_26, sX2_planPack_28, hO, Option.some.injEq, Sum.inr.injEq, Sum.inl.injEq, Prod.mk.injEq, true_and, and_true, exists_eq_left', exists_eq_left, exists_eq_right, exists_eq_right', exists_and_left, exists_and_right, List.getElem?_cons_succ, List.getElem?_cons_zero, List.length_cons, List.length_nil, List.set_cons_zero, List.set_cons_succ, Option.toList_some, Option.toList_none, List.nil_append, List.cons_append, mj_up_s, true_or, or_true, Nat.sub_zero, and_assoc, b10, not_true_eq_false, not_false_eq_true, false_implies, true_implies, implies_true, eq_self, and_self, rf_some, rf_none]
    refine And.intro (fun c => absurd c (show ¬ nI 60 ≤ nI P.dn from nI_ge (by omega) (by omega))) (fun _ => ?_)
    have call : ∀ v, v = itv AD P.la → mj_W (f - 1) (w - (19 + mj_maxL 48)) 48 mj_noZ Q 38 [.ref (AD 5 0), v1, .int (nI most), v, .ref (AD 1 o), .int (nI s1), .int (nI n1)] [v, .ref (AD 1 o), .int 6, .int (nI s1)] h1 n mc ms := fun v hv => by
      subst hv
      refine sX2_planPack_38z hx (by cases P.la <;> rfl) (m_unlike (by omega) (by show 64 ≤ w - 26; omega) hM1 hC1 hW ho hla ?_)
      simp only [sX2_planPack_41, sX2_planPack_42, sX2_planPack_43, Option.some.injEq, Sum.inr.injEq, Sum.inl.injEq, Prod.mk.injEq, true_and, and_true, exists_eq_left', exists_eq_left, exists_eq_right, exists_eq_right', exists_and_left, exists_and_right, List.getElem?_cons_succ, List.getElem?_cons_zero, List.length_cons, List.length_nil, List.set_cons_zero, List.set_cons_succ, Option.toList_some, Option.toList_none, List.nil_append, List.cons_append, mj_up_s, true_or, or_true, Nat.sub_zero, and_assoc, b10, not_true_eq_false, not_false_eq_true, false_implies, true_implies, implies_true, eq_self, and_self, rf_some, rf_none, e6, es]
      exact go
    cases hla2 : P.la with
    | zero =>
      have := call .null (by rw [hla2]; rfl)
      simp only [itv, sX2_planPack_31, sX2_planPack_33, sX2_planPack_35, sX2_planPack_37n]
      exact this
    | succ l =>
      have := call (.ref (AD 1 l)) (by rw [hla2]; rfl)
      simp only [itv, sX2_planPack_31, sX2_planPack_33, sX2_planPack_35, sX2_planPack_37]
      exact this
  -- one more
  have puts : ∀ (P : PL) o n1 s1 h1 C1 v1 v3, INV S most (pushP S P o) → (pushP S P o).mn = n1 + 1 → (pushP S P o).sz = s1 + (6 + un S P.la o) → P.dn < 60 → o < S_no S → MEM h1 n AD (VS S) C1 → CC S AD C1 → CP S AD C1 P → KPL C C1 → s1 + (6 + un S P.la o) ≤ 600 →
      (∀ h2 C2, MEM h2 n AD (VS S) C2 → CC S AD C2 → CP S AD C2 (pushP S P o) → KPL C C2 → mj_W (f - 1) (w - (19 + mj_maxL 48)) 48 mj_noZ Q 11 [.ref (AD 5 0), v1, .int (nI most), itv AD (pushP S P o).la, itv AD (nxt S (pushP S P o).tk (pushP S P o).la (S_no S)), .int (nI (pushP S P o).sz), .int (nI (pushP S P o).mn)] [] h2 n mc ms) →
      mj_W (f - 1) (w - (19 + mj_maxL 48)) 48 mj_noZ Q 45 [.ref (AD 5 0), v1, .int (nI most), v3, .ref (AD 1 o), .int (nI (s1 + (6 + un S P.la o))), .int (nI n1)] [] h1 n mc ms := by
    intro P o n1 s1 h1 C1 v1 v3 hI' emn esz hdn ho hM1 hC1 hP1 hK1 hs6 go
    have hO := hM1.1 5 0 rfl
    rw [hP1.1] at hO
    have hx := hM1.1 1 o ho
    rw [hP1.2.2 o ho] at hx
    obtain ⟨g, g1, g2⟩ := hP1.2.1
    have hA := hM1.1 0 4 (show 4 < 6 by omega)
    rw [g1] at hA
    have ne1 : AD 5 0 ≠ AD 0 4 := cell_neA hO hA
    have ne2 : AD 1 o ≠ AD 0 4 := cell_neA hx hA
    have ne3 : AD 1 o ≠ AD 5 0 := fun e => by have := hM1.2.1 1 o 5 0 ho rfl e; omega
    have cd := nI_cl (show P.dn < 2147483648 by omega)
    have ed : nI P.dn + 1 = nI (P.dn + 1) := nI_1 _
    have en1 : nI n1 + 1 = nI (n1 + 1) := nI_1 _
    rw [sX2_planPack_45, sX2_planPack_47, sX2_planPack_50]
    refine And.intro (fun _ => ?_) (fun c => absurd (show nI _ ≤ nI 600 from nI_le hs6 (by omega)) c)
    simp only [sX2_planPack_54, sX2_planPack_55, sX2_planPack_58, sX2_planPack_59, sX2_planPack_62, sX2_planPack_64, sX2_planPack_67, sX2_planPack_68, sX2_planPack_69, sX2_planPack_70, sX2_planPack_73, sX2_planPack_74, sX2_planPack_75, sX2_planPack_78, sX2_planPack_80, sX2_planPack_81, hO, hx, hA, mj_up_n ne1, mj_up_n ne2, mj_up_n ne3, nfr_2_0, ffr_2_0, nfu_2_0, ffu_2_0, nfi_2_1, ffi_2_1, nfr_2_2, ffr_2_2, nfu_2_2, ffu_2_2, nfi_2_3, ffi_2_3, nfr_2_4, ffr_2_4, nfu_2_4, ffu_2_4, nfr_2_5, ffr_2_5, nfu_2_5, ffu_2_5, nfi_2_6, ffi_2_6, nfr_2_7, ffr_2_7, nfu_2_7, ffu_2_7, nfi_2_8, ffi_2_8, nfr_2_9, ffr_2_9, nfu_2_9, ffu_2_9, nfi_0_0, ffi_0_0, nfi_0_1, ffi_0_1, nfr_0_2, ffr_0_2, nfu_0_2, ffu_0_2, nfi_0_3, ffi_0_3, nfr_0_4, ffr_0_4, nfu_0_4, ffu_0_4, nfi_0_5, ffi_0_5, nfz_0_6, ffz_0_6, nfo_0_6, ffo_0_6, Option.some.injEq, Sum.inr.injEq, Sum.inl.injEq, Prod.mk.injEq, true_and, and_true, exists_eq_left', exists_eq_left, exists_eq_right, exists_eq_right', exists_and_left, exists_and_right, List.getElem?_cons_succ, List.getElem?_cons_zero, List.length_cons, List.length_nil, List.set_cons_zero, List.set_cons_succ, Option.toList_some, Option.toList_none, List.nil_append, List.cons_append, mj_up_s, true_or, or_true, Nat.sub_zero, and_assoc, b10, not_true_eq_false, not_false_eq_true, false_implies, true_implies, implies_true, eq_self, and_self, rf_some, rf_none, cd, ed]
    refine And.intro (vp_in_nI (by omega) (by decide)) (And.intro (by decide) (And.intro (by decide) ?_))
    have M2 := ((hM1.put (k := 0) (i := 4) (c := .inl (.int, 60, .inl (upd g P.dn (nI o)))) (show 4 < 6 by omega)).put (k := 5) (i := 0) (c := OSc AD S (nI (P.dn + 1))) rfl).put (k := 1) (i := o) (c := ITc o (S_kd S o) (AD 2 o) (S_sz S o) (hmv AD (S_pk S o)) (S_ix S o) 0) ho
    generalize hC2 : Cu (Cu (Cu C1 0 4 (.inl (.int, 60, .inl (upd g P.dn (nI o))))) 5 0 (OSc AD S (nI (P.dn + 1)))) 1 o (ITc o (S_kd S o) (AD 2 o) (S_sz S o) (hmv AD (S_pk S o)) (S_ix S o) 0) = C2 at M2
    have k4 : C2 0 4 = .inl (.int, 60, .inl (upd g P.dn (nI o))) := by rw [← hC2, Cu_k (by decide), Cu_k (by decide), Cu_s]
    have k5 : C2 5 0 = OSc AD S (nI (P.dn + 1)) := by rw [← hC2, Cu_k (by decide), Cu_s]
    have ko : C2 1 o = ITc o (S_kd S o) (AD 2 o) (S_sz S o) (hmv AD (S_pk S o)) (S_ix S o) 0 := by rw [← hC2, Cu_s]
    have kk : ∀ a b, ¬ (a = 0 ∧ b = 4) → a ≠ 5 → ¬ (a = 1 ∧ b = o) → C2 a b = C1 a b := fun a b q1 q2 q3 => by
      rw [← hC2]
      simp [Cu, q1, q2, q3]
    clear hC2
    have P2 : CP S AD C2 (pushP S P o) := by
      refine ⟨k5, ⟨_, k4, fun i hi => ?_⟩, fun i hi => ?_⟩
      · have hi : i < P.dn + 1 := hi
        show _ = nI (updN P.od P.dn o i)
        by_cases e : i = P.dn
        · subst e; rw [pk_us, updN_s]
        · rw [pk_un e, updN_n e]; exact g2 i (by omega)
      · by_cases e : i = o
        · subst e
          rw [ko]
          have : wtv S (pushP S P i).tk i = 0 := if_neg (fun z => by have := z.2; rw [pushP_tk, if_pos rfl] at this; cases this)
          rw [this]
        · rw [kk 1 i (by omega) (by omega) (by omega), hP1.2.2 i hi]
          have : wtv S (pushP S P o).tk i = wtv S P.tk i := by unfold wtv; rw [pushP_tk, if_neg e]
          rw [this]
    have C2c : CC S AD C2 := CC_pln hC1 (fun a b q1 q2 q3 => kk a b (by omega) q1 (by omega)) ⟨_, k5⟩ ⟨_, k4⟩ (by rw [kk 0 5 (by omega) (by omega) (by omega)]; exact hC1.2.2.2.2.2.2.1) (fun i hi => ⟨_, P2.2.2 i hi⟩)
    have K2 : KPL C C2 := hK1.trans ⟨fun a b ha => kk a b (by omega) (by omega) (by omega), kk 0 5 (by omega) (by omega) (by omega)⟩
    generalize mj_up (mj_up (mj_up h1 (AD 0 4) _) (AD 5 0) _) (AD 1 o) _ = h2 at M2 ⊢
    have hO2 := M2.1 5 0 rfl
    rw [k5] at hO2
    simp only [sX2_planPack_84, sX2_planPack_86, sX2_planPack_87, sX2_planPack_88, Option.some.injEq, Sum.inr.injEq, Sum.inl.injEq, Prod.mk.injEq, true_and, and_true, exists_eq_left', exists_eq_left, exists_eq_right, exists_eq_right', exists_and_left, exists_and_right, List.getElem?_cons_succ, List.getElem?_cons_zero, List.length_cons, List.length_nil, List.set_cons_zero, List.set_cons_succ, Option.toList_some, Option.toList_none, List.nil_append, List.cons_append, mj_up_s, true_or, or_true, Nat.sub_zero, and_assoc, b10, not_true_eq_false, not_false_eq_true, false_implies, true_implies, implies_true, eq_self, and_self, rf_some, rf_none]
    refine sX2_planPack_89z hO2 rfl (m_nextBehind (la := o + 1) (tk := (pushP S P o).tk) (by omega) (by show 90 ≤ w - 26; omega) M2 C2c hW P2.2.2 (fun l hl => by omega) ?_)
    have := go h2 C2 M2 C2c P2 K2
    rw [emn, esz] at this
    simp only [Option.some.injEq, Sum.inr.injEq, Sum.inl.injEq, Prod.mk.injEq, true_and, and_true, exists_eq_left', exists_eq_left, exists_eq_right, exists_eq_right', exists_and_left, exists_and_right, List.getElem?_cons_succ, List.getElem?_cons_zero, List.length_cons, List.length_nil, List.set_cons_zero, List.set_cons_succ, Option.toList_some, Option.toList_none, List.nil_append, List.cons_append, mj_up_s, true_or, or_true, Nat.sub_zero, and_assoc, b10, not_true_eq_false, not_false_eq_true, false_implies, true_implies, implies_true, eq_self, and_self, rf_some, rf_none]
    rw [p92]
    simp only [sX2_planPack_94, sX2_planPack_97, Option.some.injEq, Sum.inr.injEq, Sum.inl.injEq, Prod.mk.injEq, true_and, and_true, exists_eq_left', exists_eq_left, exists_eq_right, exists_eq_right', exists_and_left, exists_and_right, List.getElem?_cons_succ, List.getElem?_cons_zero, List.length_cons, List.length_nil, List.set_cons_zero, List.set_cons_succ, Option.toList_some, Option.toList_none, List.nil_append, List.cons_append, mj_up_s, true_or, or_true, Nat.sub_zero, and_assoc, b10, not_true_eq_false, not_false_eq_true, false_implies, true_implies, implies_true, eq_self, and_self, rf_some, rf_none, en1]
    exact this
  have stop : ∀ h1 v1 v3 v4 v5 n1, nI most ≤ nI n1 → Q none h1 n → mj_W (f - 1) (w - (19 + mj_maxL 48)) 48 mj_noZ Q 11 [.ref (AD 5 0), v1, .int (nI most), v3, v4, v5, .int (nI n1)] [] h1 n mc ms := fun h1 v1 v3 v4 v5 n1 hle hq => by
    rw [sX2_planPack_11, sX2_planPack_13, sX2_planPack_14]
    refine And.intro (fun _ => ?_) (fun c => absurd hle c)
    rw [sX2_planPack_100]; exact hq
  have main := hIn (fun P P' => P.la ≠ 0 → INV S most P → (∀ h' C', MEM h' n AD (VS S) C' → CC S AD C' → CP S AD C' P' → KPL C C' → Q none h' n) → ∀ h1 C1 v1, MEM h1 n AD (VS S) C1 → CC S AD C1 → CP S AD C1 P → KPL C C1 → mj_W (f - 1) (w - (19 + mj_maxL 48)) 48 mj_noZ Q 11 [.ref (AD 5 0), v1, .int (nI most), itv AD P.la, itv AD (nxt S P.tk P.la (S_no S)), .int (nI P.sz), .int (nI P.mn)] [] h1 n mc ms) ⟨?_, ?_, ?_⟩
  · obtain ⟨h5, h6, h7⟩ := nxt_some hn
    have hnf : ¬ ful S most P o := fun z => z.1 hl
    have hI' := hI.push hm1 h5 h6 h7 (hz60 _ h5) hnf
    have hdn := hI.dn_lt hW h5 h7
    have hun := un_le (S := S) (la := P.la) (o := o)
    have hzo := hz60 o h5
    have emn : (pushP S P o).mn = 0 + 1 := by show (if P.la = 0 then 0 else P.mn) + 1 = _; rw [if_pos hl]
    have esz : (pushP S P o).sz = 0 + (6 + un S P.la o) := by show (if P.la = 0 then 0 else P.sz) + _ = _; rw [if_pos hl]
    have p := puts P o 0 0 h C (.ref (AD 1 o)) (itv AD P.la) hI' emn esz hdn h5 hM hC hP ⟨fun _ _ _ => rfl, rfl⟩ (by omega) (fun h2 C2 a b c d => main (by show o + 1 ≠ 0; omega) hI' hQ h2 C2 _ a b c d)
    have s := sums P o 0 0 h C (.ref (AD 1 o)) (by omega) hdn h5 (fun l hl2 => by omega) hM hC hP p
    rw [hl] at s
    simp only [sX2_planPack_0, sX2_planPack_1n, sX2_planPack_2, sX2_planPack_3, sX2_planPack_5, sX2_planPack_6, sX2_planPack_8, sX2_planPack_9, Option.some.injEq, Sum.inr.injEq, Sum.inl.injEq, Prod.mk.injEq, true_and, and_true, exists_eq_left', exists_eq_left, exists_eq_right, exists_eq_right', exists_and_left, exists_and_right, List.getElem?_cons_succ, List.getElem?_cons_zero, List.length_cons, List.length_nil, List.set_cons_zero, List.set_cons_succ, Option.toList_some, Option.toList_none, List.nil_append, List.cons_append, mj_up_s, true_or, or_true, Nat.sub_zero, and_assoc, b10, not_true_eq_false, not_false_eq_true, false_implies, true_implies, implies_true, eq_self, and_self, rf_some, rf_none]
    exact s
  · -- nothing waits
    intro P hn hl hI hQ h1 C1 v1 hM1 hC1 hP1 hK1
    have fin := hQ h1 C1 hM1 hC1 hP1 hK1
    rw [hn]
    by_cases hle : nI most ≤ nI P.mn
    · exact stop h1 v1 _ _ _ _ hle fin
    · rw [sX2_planPack_11, sX2_planPack_13, sX2_planPack_14]
      refine And.intro (fun c => absurd c hle) (fun _ => ?_)
      simp only [itv, sX2_planPack_17n, sX2_planPack_19n, sX2_planPack_100]
      exact fin
  · -- the pack is full
    intro P o hn hfu hl hI hQ h1 C1 v1 hM1 hC1 hP1 hK1
    have fin := hQ h1 C1 hM1 hC1 hP1 hK1
    obtain ⟨h5, h6, h7⟩ := nxt_some hn
    obtain ⟨c1, c2, c3, c4, c5⟩ := hI.cur hl
    obtain ⟨d1, d2, d3, d4⟩ := hI.pks (P.md - 1) (by omega)
    have hen := hI.las.2 c1
    rw [hen] at d3 d4
    have hun := un_le (S := S) (la := P.la) (o := o)
    have hzo := hz60 o h5
    rw [hn]
    by_cases hle : P.mn = most
    · exact stop h1 v1 _ _ _ _ (by rw [hle]; exact nI_le (Nat.le_refl _) (by omega)) fin
    · refine sums P o P.mn P.sz h1 C1 v1 (by omega) (hI.dn_lt hW h5 h7) h5 (fun l hl2 => (hI.la hl2).1) hM1 hC1 hP1 ?_
      rw [sX2_planPack_45, sX2_planPack_47, sX2_planPack_50]
      refine And.intro (fun c => absurd c (show ¬ nI _ ≤ nI 600 from nI_ge (hfu.2.resolve_left hle) (by omega))) (fun _ => ?_)
      rw [sX2_planPack_53]; exact fin
  · -- one more
    intro P F o hn hnf ih hl hI hQ h1 C1 v1 hM1 hC1 hP1 hK1
    obtain ⟨h5, h6, h7⟩ := nxt_some hn
    obtain ⟨c1, c2, c3, c4, c5⟩ := hI.cur hl
    obtain ⟨d1, d2, d3, d4⟩ := hI.pks (P.md - 1) (by omega)
    have hen := hI.las.2 c1
    rw [hen] at d3 d4
    have hun := un_le (S := S) (la := P.la) (o := o)
    have hzo := hz60 o h5
    have hI' := hI.push hm1 h5 h6 h7 hzo hnf
    have hmn : P.mn ≠ most := fun z => hnf ⟨hl, Or.inl z⟩
    have hsz : P.sz + (6 + un S P.la o) ≤ 600 := Nat.le_of_not_lt (fun z => hnf ⟨hl, Or.inr z⟩)
    have emn : (pushP S P o).mn = P.mn + 1 := by show (if P.la = 0 then 0 else P.mn) + 1 = _; rw [if_neg hl]
    have esz : (pushP S P o).sz = P.sz + (6 + un S P.la o) := by show (if P.la = 0 then 0 else P.sz) + _ = _; rw [if_neg hl]
    have hdn := hI.dn_lt hW h5 h7
    rw [hn]
    refine sums P o P.mn P.sz h1 C1 v1 (by omega) hdn h5 (fun l hl2 => (hI.la hl2).1) hM1 hC1 hP1 ?_
    exact puts P o P.mn P.sz h1 C1 v1 _ hI' emn esz hdn h5 hM1 hC1 hP1 hK1 hsz (fun h2 C2 a b c d => ih (by show o + 1 ≠ 0; omega) hI' hQ h2 C2 v1 a b c d)
end
