/-! ===== read and told; packs and objects are made ===== -/
/-- pack p's registers are the same -/
def eqP (S S' : St) (p : Nat) : Prop := ∀ r, 7 ≤ r → r ≤ 11 → ∀ b, S' r p b = S r p b
section
variable {S S' : St} {p : Nat}
theorem eqP.th (e : eqP S S' p) (k : Nat) : S_th S' p k = S_th S p k := by
  have e7 : S_ct S' p = S_ct S p := e 7 (by omega) (by omega) 0
  have e8 : S_fs S' p = S_fs S p := e 8 (by omega) (by omega) 0
  have e10 : S_pz S' p = S_pz S p := e 10 (by omega) (by omega) 0
  unfold S_th; rw [e7, e8, e10]
theorem eqP.num (e : eqP S S' p) (k wh : Nat) : S_num S' p k wh = S_num S p k wh := by
  simp only [S_num, S_pb, e 11 (by omega) (by omega)]
theorem eqP.at (e : eqP S S' p) (k : Nat) : S_at S' p k = S_at S p k := by
  simp only [S_at, S_fs, e 8 (by omega) (by omega), e.num]
theorem eqP.s (e : eqP S S' p) (k : Nat) : S_s S' p k = S_s S p k := by
  simp only [S_s, S_pb, e.at, e 11 (by omega) (by omega)]
theorem eqP.m (e : eqP S S' p) (k : Nat) : S_m S' p k = S_m S p k := by
  simp only [S_m, S_pb, e.at, e 11 (by omega) (by omega)]
theorem eqP.lb (e : eqP S S' p) (k had : Nat) : S_lb S' p k had = S_lb S p k had := by
  have e10 : S_pz S' p = S_pz S p := e 10 (by omega) (by omega) 0
  simp only [S_lb, e10, e.th, e.at, e.s, e.m]
theorem eqP.cl (e : eqP S S' p) : ∀ k, S_cl S' p k = S_cl S p k
  | 0 => e.lb 0 0
  | k + 1 => by unfold S_cl; rw [e.cl k, e.lb]
theorem eqP.cb (e : eqP S S' p) : ∀ k i, S_cb S' p k i = S_cb S p k i
  | 0, i => by simp only [S_cb, S_pb, e.at, e.s, e 11 (by omega) (by omega)]
  | k + 1, i => by simp only [S_cb, S_pb, e.at, e.s, e 11 (by omega) (by omega), e.cb k i]
theorem eqP.isO (e : eqP S S' p) (o : Int32) : S_isO S' p o = S_isO S p o := by
  funext k
  simp only [S_isO, e.th, e.num]
theorem eqP.wr (e : eqP S S' p) (h0 : S_no S' = S_no S) (h1 : ∀ i, S_kd S' i = S_kd S i) (k : Nat) : S_wr S' p k = S_wr S p k := by
  unfold S_wr S_bef
  rw [e.th, e.cl, e.num, h0, h1, e.isO]
end
def S_told (S : St) (wv k : Nat) : St := S_up (S_up (S_up S 13 (S_nt S) 0 wv) 14 (S_nt S) 0 k) 12 0 0 (S_nt S + 1)
def rdN (S : St) (p : Nat) : Nat → Nat × St
  | 0 => (0, S_up S 12 0 0 0)
  | k + 1 => if S_wr S p k = 0 then ((rdN S p k).1 + 1, (rdN S p k).2) else ((rdN S p k).1, S_told (rdN S p k).2 (S_wr S p k) k)
def op_read (S : St) (p : Int32) : Int32 × St := if pkI S p = true then (nI (rdN S p.toNatClampNeg (S_ct S p.toNatClampNeg)).1, (rdN S p.toNatClampNeg (S_ct S p.toNatClampNeg)).2) else (-2, S)
theorem S_told_lo {S : St} {wv k r a b : Nat} (hr : r < 12) : S_told S wv k r a b = S r a b := by
  simp [S_told, S_up, show r ≠ 12 by omega, show r ≠ 13 by omega, show r ≠ 14 by omega]
theorem S_told_nt {S : St} {wv k : Nat} : S_nt (S_told S wv k) = S_nt S + 1 := by simp [S_nt, S_told, S_up]
theorem S_told_tf {S : St} {wv k i : Nat} : S_tf (S_told S wv k) i = if i = S_nt S then wv else S_tf S i := by simp [S_tf, S_told, S_up]
theorem S_told_tp {S : St} {wv k i : Nat} : S_tp (S_told S wv k) i = if i = S_nt S then k else S_tp S i := by simp [S_tp, S_told, S_up]
theorem rdN_lo {S : St} {p : Nat} : ∀ k {r a b : Nat}, r < 12 → (rdN S p k).2 r a b = S r a b
  | 0, r, a, b, hr => by simp [rdN, S_up, show r ≠ 12 by omega]
  | k + 1, r, a, b, hr => by
    unfold rdN
    split
    · exact rdN_lo k hr
    · show S_told _ _ _ r a b = _
      rw [S_told_lo hr]; exact rdN_lo k hr
theorem rdN_nt {S : St} {p : Nat} : ∀ k, S_nt (rdN S p k).2 ≤ k ∧ (rdN S p k).1 ≤ k
  | 0 => by simp [rdN, S_nt, S_up]
  | k + 1 => by
    have := rdN_nt (S := S) (p := p) k
    unfold rdN
    split
    · simp only; omega
    · simp only [S_told_nt]; omega
theorem S_wr_le {S : St} {p k : Nat} : S_wr S p k ≤ 5 := by
  unfold S_wr
  repeat' split
  all_goals omega
/-- only what is told changes -/
def sameLo (S S' : St) : Prop := ∀ r a b, r < 12 → S' r a b = S r a b
theorem CC_told {S S' : St} {AD : Ad} {C C' : Ct} (hC : CC S AD C) (hS : sameLo S S') (hk : ∀ a b, a ≠ 5 → (a = 0 → b ≠ 2 ∧ b ≠ 3) → C' a b = C a b) (h5 : ∃ plc, C' 5 0 = OSc AD S' plc) (h2 : ∃ g, C' 0 2 = .inl (.int, 99, .inl g) ∧ ∀ i, i < S_nt S' → g i = nI (S_tf S' i)) (h3 : ∃ g, C' 0 3 = .inl (.int, 99, .inl g) ∧ ∀ i, i < S_nt S' → g i = nI (S_tp S' i)) : CC S' AD C' := by
  have e0 : S_no S' = S_no S := hS 0 0 0 (by omega)
  have e6 : S_np S' = S_np S := hS 6 0 0 (by omega)
  obtain ⟨⟨plc, c1⟩, ⟨g2, c2, d2⟩, ⟨g3, c3, d3⟩, -, -, ⟨g6, c6⟩, ⟨g7, c7⟩, c8, c9, c10, c11⟩ := hC
  refine ⟨h5, ⟨g2, ?_, fun j hj => d2 j (by omega)⟩, ⟨g3, ?_, fun j hj => d3 j (by omega)⟩, h2, h3, ⟨g6, ?_⟩, ⟨g7, ?_⟩, fun j hj => ?_, fun j hj => ?_, fun p hp => ?_, fun p hp => ?_⟩
  · rw [hk _ _ (by decide) (fun _ => by decide)]; exact c2
  · rw [hk _ _ (by decide) (fun _ => by decide)]; exact c3
  · rw [hk _ _ (by decide) (fun _ => by decide)]; exact c6
  · rw [hk _ _ (by decide) (fun _ => by decide)]; exact c7
  · obtain ⟨wt', c8⟩ := c8 j (by omega)
    refine ⟨wt', ?_⟩
    rw [hk _ _ (by decide) (fun e => by cases e), c8]
    simp only [show S_kd S' j = S_kd S j from hS 1 j 0 (by omega), show S_sz S' j = S_sz S j from hS 2 j 0 (by omega), show S_pk S' j = S_pk S j from hS 4 j 0 (by omega), show S_ix S' j = S_ix S j from hS 5 j 0 (by omega)]
  · obtain ⟨g', c9, d9⟩ := c9 j (by omega)
    refine ⟨g', by rw [hk _ _ (by decide) (fun e => by cases e), c9], fun t ht => ?_⟩
    rw [show S_by S' j t = S_by S j t from hS 3 j t (by omega)]
    exact d9 t (by rw [← show S_sz S' j = S_sz S j from hS 2 j 0 (by omega)]; exact ht)
  · rw [hk _ _ (by decide) (fun e => by cases e), c10 p (by omega)]
    simp only [show S_ct S' p = S_ct S p from hS 7 p 0 (by omega), show S_fs S' p = S_fs S p from hS 8 p 0 (by omega), show S_ex S' p = S_ex S p from hS 9 p 0 (by omega), show S_pz S' p = S_pz S p from hS 10 p 0 (by omega)]
  · obtain ⟨g', c11, d11⟩ := c11 p (by omega)
    refine ⟨g', by rw [hk _ _ (by decide) (fun e => by cases e), c11], fun t ht => ?_⟩
    rw [show S_pb S' p t = S_pb S p t from hS 11 p t (by omega)]
    exact d11 t (by rw [← show S_pz S' p = S_pz S p from hS 10 p 0 (by omega)]; exact ht)
section
variable {f w : Nat} {Q : mj_Q} {h : mj_H} {n mc ms : Nat} {S : St} {AD : Ad} {C : Ct}
theorem WF.lo {S' : St} (hW : WF S) (hS : sameLo S S') (hn : S_nt S' ≤ 99) : WF S' := by
  have e0 : S_no S' = S_no S := hS 0 0 0 (by omega)
  have e6 : S_np S' = S_np S := hS 6 0 0 (by omega)
  obtain ⟨w1, w2, w3, w4, w5, w6⟩ := hW
  refine ⟨by omega, by omega, hn, fun i hi => ?_, fun i j => ?_, fun p hp => ?_⟩
  · have := w4 i (by omega)
    rw [show S_kd S' i = S_kd S i from hS 1 i 0 (by omega), show S_sz S' i = S_sz S i from hS 2 i 0 (by omega), show S_pk S' i = S_pk S i from hS 4 i 0 (by omega), show S_ix S' i = S_ix S i from hS 5 i 0 (by omega), e6]
    exact this
  · rw [show S_by S' i j = S_by S i j from hS 3 i j (by omega)]; exact w5 i j
  · have := w6 p (by omega)
    refine ⟨⟨?_, ?_, ?_, fun j => ?_⟩, ?_⟩
    · rw [show S_ct S' p = S_ct S p from hS 7 p 0 (by omega)]; exact this.1.1
    · rw [show S_fs S' p = S_fs S p from hS 8 p 0 (by omega)]; exact this.1.2.1
    · rw [show S_pz S' p = S_pz S p from hS 10 p 0 (by omega)]; exact this.1.2.2.1
    · rw [show S_pb S' p j = S_pb S p j from hS 11 p j (by omega)]; exact this.1.2.2.2 j
    · rw [show S_ex S' p = S_ex S p from hS 9 p 0 (by omega), e6]; exact this.2
set_option maxRecDepth 100000 in
theorem m_tell (hf : 1 ≤ f) (hw : 22 ≤ w) (hM : MEM h n AD (VS S) C) (hC : CC S AD C) {wv k : Nat} (hn : S_nt S < 99) (hQ : ∀ h', KEEP AD (S_told S wv k) C n h' → Q none h' n) : mj_bk f w 43 [.ref (AD 5 0), .int (nI wv), .int (nI k)] h n mc ms Q := by
  obtain ⟨plc, c1⟩ := id hC.1
  obtain ⟨g1, e1, e2⟩ := id hC.2.2.2.1
  obtain ⟨g2, e3, e4⟩ := id hC.2.2.2.2.1
  have hO := hM.1 5 0 rfl
  have hA := hM.1 0 2 (show 2 < 6 by omega)
  have hB := hM.1 0 3 (show 3 < 6 by omega)
  rw [c1] at hO
  rw [e1] at hA
  rw [e3] at hB
  have n1 : AD 5 0 ≠ AD 0 2 := cell_neA hO hA
  have n2 : AD 5 0 ≠ AD 0 3 := cell_neA hO hB
  have n3 : AD 0 3 ≠ AD 0 2 := fun e => by have := hM.2.1 0 3 0 2 (show 3 < 6 by omega) (show 2 < 6 by omega) e; omega
  have z : nI (S_nt S) + 1 = nI (S_nt S + 1) := nI_1 _
  refine mj_begin (by omega) (by decide) (by show 22 ≤ w; omega) rfl ?_
  show mj_W _ _ 43 mj_noZ Q 0 [.ref (AD 5 0), .int (nI wv), .int (nI k)] [] h n mc ms
  simp only [sX2_tell_0, sX2_tell_1, sX2_tell_4, sX2_tell_6, sX2_tell_9, sX2_tell_10, sX2_tell_13, sX2_tell_14, sX2_tell_17, sX2_tell_18, sX2_tell_19, sX2_tell_20, sX2_tell_23, sX2_tell_24, sX2_tell_27, sX2_tell_28, sX2_tell_29, sX2_tell_30, sX2_tell_31, sX2_tell_34, sX2_tell_35, sX2_tell_36, sX2_tell_39, hO, hA, hB, mj_up_n n1, mj_up_n n2, mj_up_n n3, nfr_2_0, ffr_2_0, nfu_2_0, ffu_2_0, nfi_2_1, ffi_2_1, nfr_2_2, ffr_2_2, nfu_2_2, ffu_2_2, nfi_2_3, ffi_2_3, nfr_2_4, ffr_2_4, nfu_2_4, ffu_2_4, nfr_2_5, ffr_2_5, nfu_2_5, ffu_2_5, nfi_2_6, ffi_2_6, nfr_2_7, ffr_2_7, nfu_2_7, ffu_2_7, nfi_2_8, ffi_2_8, nfr_2_9, ffr_2_9, nfu_2_9, ffu_2_9, Option.some.injEq, Sum.inr.injEq, Sum.inl.injEq, Prod.mk.injEq, true_and, and_true, exists_eq_left', exists_eq_left, exists_eq_right, exists_eq_right', exists_and_left, exists_and_right, List.getElem?_cons_succ, List.getElem?_cons_zero, List.length_cons, List.length_nil, List.set_cons_zero, List.set_cons_succ, Option.toList_some, Option.toList_none, List.nil_append, List.cons_append, mj_up_s, true_or, or_true, Nat.sub_zero, and_assoc, b10, not_true_eq_false, not_false_eq_true, false_implies, true_implies, implies_true, eq_self, and_self, rf_some, rf_none, z, nI_cl (show S_nt S < 2147483648 by omega)]
  refine And.intro (fun c => absurd c (show ¬ nI 99 ≤ nI (S_nt S) from nI_ge (by omega) (by omega))) (fun _ => And.intro (vp_in_nI (by omega) (by decide)) (And.intro (vp_in_nI (by omega) (by decide)) (And.intro (by decide) ?_)))
  have M3 := ((hM.put (k := 0) (i := 2) (c := .inl (.int, 99, .inl (upd g1 (S_nt S) (nI wv)))) (show 2 < 6 by omega)).put (k := 0) (i := 3) (c := .inl (.int, 99, .inl (upd g2 (S_nt S) (nI k)))) (show 3 < 6 by omega)).put (k := 5) (i := 0) (c := OSc AD (S_told S wv k) plc) rfl
  have hlo : sameLo S (S_told S wv k) := fun r a b hr => S_told_lo hr
  have hOS : OSc AD (S_told S wv k) plc = .inr (2, [.ref (AD 0 0), .int (nI (S_no S)), .ref (AD 0 1), .int (nI (S_np S)), .ref (AD 0 2), .ref (AD 0 3), .int (nI (S_nt S + 1)), .ref (AD 0 4), .int plc, .ref (AD 0 5)]) := by
    simp only [OSc, S_told_nt, show S_no (S_told S wv k) = S_no S from hlo 0 0 0 (by omega), show S_np (S_told S wv k) = S_np S from hlo 6 0 0 (by omega)]
  rw [hOS] at M3
  refine hQ _ ⟨_, ?_, CC_told hC hlo (C' := Cu (Cu (Cu C 0 2 (.inl (.int, 99, .inl (upd g1 (S_nt S) (nI wv))))) 0 3 (.inl (.int, 99, .inl (upd g2 (S_nt S) (nI k))))) 5 0 (OSc AD (S_told S wv k) plc)) (fun a b ha hb => ?_) ⟨plc, Cu_s⟩ ⟨_, by rw [Cu_k (by decide), Cu_i (by decide), Cu_s], fun i hi => ?_⟩ ⟨_, by rw [Cu_k (by decide), Cu_s], fun i hi => ?_⟩, fun a b ha => by rw [Cu_k (by omega), Cu_k (by omega), Cu_k (by omega)]⟩
  · rw [hOS, VS_eq (show S_no (S_told S wv k) = S_no S from hlo 0 0 0 (by omega)) (show S_np (S_told S wv k) = S_np S from hlo 6 0 0 (by omega))]
    exact M3
  · by_cases h0 : a = 0
    · obtain ⟨b1, b2⟩ := hb h0
      rw [Cu_k ha, Cu_i b2, Cu_i b1]
    · rw [Cu_k ha, Cu_k h0, Cu_k h0]
  · rw [S_told_nt] at hi
    rw [S_told_tf]
    by_cases he : i = S_nt S
    · rw [if_pos he, he, pk_us]
    · rw [if_neg he, pk_un he]; exact e2 i (by omega)
  · rw [S_told_nt] at hi
    rw [S_told_tp]
    by_cases he : i = S_nt S
    · rw [if_pos he, he, pk_us]
    · rw [if_neg he, pk_un he]; exact e4 i (by omega)
theorem KEEP.trans {S1 S2 : St} {C0 : Ct} {n' : Nat} {h' : mj_H} {C1 : Ct} (hk : ∀ k i, 6 ≤ k → C1 k i = C0 k i) (h2 : KEEP AD S2 C1 n' h') : KEEP AD S2 C0 n' h' := by
  obtain ⟨C', a, b, c⟩ := h2
  exact ⟨C', a, b, fun k i h => (c k i h).trans (hk k i h)⟩
set_option maxRecDepth 100000 in
theorem m_read (hf : 5 ≤ f) (hw : 119 ≤ w) (hM : MEM h n AD (VS S) C) (hC : CC S AD C) (hW : WF S) {p : Int32} (hQ : ∀ h', KEEP AD (op_read S p).2 C n h' → Q (some (.int (op_read S p).1)) h' n) : mj_bk f w 33 [.ref (AD 5 0), .int p] h n mc ms Q := by
  obtain ⟨plc, c1⟩ := id hC.1
  have hO := hM.1 5 0 rfl
  rw [c1] at hO
  refine mj_begin (by omega) (by decide) (by show 27 ≤ w; omega) rfl ?_
  show mj_W _ _ 33 mj_noZ Q 0 [.ref (AD 5 0), .int p, .retAddr 0, .retAddr 0, .retAddr 0, .retAddr 0, .retAddr 0, .retAddr 0] [] h n mc ms
  simp only [sX2_read_0, sX2_read_1, sX2_read_5, sX2_read_5n, sX2_read_6, sX2_read_6n, sX2_read_7, sX2_read_7n, sX2_read_10, sX2_read_12, sX2_read_13, sX2_read_14, sX2_read_15, sX2_read_18, sX2_read_19, sX2_read_20, sX2_read_21, sX2_read_23, sX2_read_24, sX2_read_28, sX2_read_28n, sX2_read_29, sX2_read_32, sX2_read_35, sX2_read_35n, sX2_read_36, sX2_read_38, sX2_read_43, sX2_read_45, sX2_read_46, sX2_read_46n, sX2_read_47, sX2_read_49, sX2_read_54, sX2_read_56, sX2_read_58, sX2_read_61, sX2_read_64, sX2_read_67, sX2_read_68, sX2_read_70, sX2_read_75, sX2_read_77, sX2_read_79, sX2_read_82, sX2_read_85, sX2_read_86, Option.some.injEq, Sum.inr.injEq, Sum.inl.injEq, Prod.mk.injEq, true_and, and_true, exists_eq_left', exists_eq_left, exists_eq_right, exists_eq_right', exists_and_left, exists_and_right, List.getElem?_cons_succ, List.getElem?_cons_zero, List.length_cons, List.length_nil, List.set_cons_zero, List.set_cons_succ, Option.toList_some, Option.toList_none, List.nil_append, List.cons_append, mj_up_s, true_or, or_true, Nat.sub_zero, and_assoc, b10, not_true_eq_false, not_false_eq_true, false_implies, true_implies, implies_true, eq_self, and_self, rf_some, rf_none]
  refine sX2_read_2z hO rfl (m_packOf (by omega) (by show 21 ≤ w - 27; omega) hM hC hW ?_)
  unfold op_read at hQ
  by_cases hc : pkI S p = true
  · rw [if_pos hc] at hQ ⊢
    obtain ⟨q, rfl, j1, j2⟩ := cl_iff.mp hc
    rw [nI_cl j1] at hQ ⊢
    obtain ⟨p1, p2, p3, p4⟩ := (hW.2.2.2.2.2 q j2).1
    have loop : ∀ m k, k + m = S_ct S q → ∀ h1 C1 bf v6 v7, MEM h1 n AD (VS (rdN S q k).2) C1 → CC (rdN S q k).2 AD C1 → (∀ a b, 6 ≤ a → C1 a b = C a b) → (k = 0 ∧ bf = none ∨ ∃ t, k = t + 1 ∧ bf = S_cl S q t) → mj_W (f - 1) (w - (19 + mj_maxL 33)) 33 mj_noZ Q 26 [.ref (AD 5 0), .int (nI q), .ref (AD 3 q), .int (nI (rdN S q k).1), .int (oI bf), .int (nI k), v6, v7] [] h1 n mc ms := by
      intro m
      induction m with
      | zero =>
        intro k hk h1 C1 bf v6 v7 hM1 hC1 hk1 hb
        obtain rfl : k = S_ct S q := by omega
        have eP : eqP S (rdN S q (S_ct S q)).2 q := fun r h1 h2 b => rdN_lo _ (by omega)
        have hnp : S_np (rdN S q (S_ct S q)).2 = S_np S := rdN_lo _ (by omega)
        have hP := hC1.pkc hM1 (p := q) (by omega)
        have ect : S_ct (rdN S q (S_ct S q)).2 q = S_ct S q := eP 7 (by omega) (by omega) 0
        rw [ect] at hP
        rw [sX2_read_26]
        simp only [sX2_read_0, sX2_read_1, sX2_read_5, sX2_read_5n, sX2_read_6, sX2_read_6n, sX2_read_7, sX2_read_7n, sX2_read_10, sX2_read_12, sX2_read_13, sX2_read_14, sX2_read_15, sX2_read_18, sX2_read_19, sX2_read_20, sX2_read_21, sX2_read_23, sX2_read_24, sX2_read_28, sX2_read_28n, sX2_read_29, sX2_read_32, sX2_read_35, sX2_read_35n, sX2_read_36, sX2_read_38, sX2_read_43, sX2_read_45, sX2_read_46, sX2_read_46n, sX2_read_47, sX2_read_49, sX2_read_54, sX2_read_56, sX2_read_58, sX2_read_61, sX2_read_64, sX2_read_67, sX2_read_68, sX2_read_70, sX2_read_75, sX2_read_77, sX2_read_79, sX2_read_82, sX2_read_85, sX2_read_86, hP, Option.some.injEq, Sum.inr.injEq, Sum.inl.injEq, Prod.mk.injEq, true_and, and_true, exists_eq_left', exists_eq_left, exists_eq_right, exists_eq_right', exists_and_left, exists_and_right, List.getElem?_cons_succ, List.getElem?_cons_zero, List.length_cons, List.length_nil, List.set_cons_zero, List.set_cons_succ, Option.toList_some, Option.toList_none, List.nil_append, List.cons_append, mj_up_s, true_or, or_true, Nat.sub_zero, and_assoc, b10, not_true_eq_false, not_false_eq_true, false_implies, true_implies, implies_true, eq_self, and_self, rf_some, rf_none]
        exact And.intro (fun _ => hQ _ ⟨C1, hM1, hC1, hk1⟩) (fun c => absurd (nI_le (Nat.le_refl _) (by omega)) c)
      | succ m ih =>
        intro k hk h1 C1 bf v6 v7 hM1 hC1 hk1 hb
        have e1 : nI k + 1 = nI (k + 1) := nI_1 k
        have eP : eqP S (rdN S q k).2 q := fun r h1 h2 b => rdN_lo _ (by omega)
        have hlo : sameLo S (rdN S q k).2 := fun r a b hr => rdN_lo _ hr
        have hnt := rdN_nt (S := S) (p := q) k
        have hW1 : WF (rdN S q k).2 := hW.lo hlo (by omega)
        have hnp : S_np (rdN S q k).2 = S_np S := hlo 6 0 0 (by omega)
        have hP := hC1.pkc hM1 (p := q) (by omega)
        have hPK := hC1.pk hM1 hW1 (p := q) (by omega)
        obtain ⟨plc1, hO1⟩ := hC1.os hM1
        have ect : S_ct (rdN S q k).2 q = S_ct S q := eP 7 (by omega) (by omega) 0
        have hP0 := hP
        rw [ect] at hP
        rw [sX2_read_26]
        simp only [sX2_read_0, sX2_read_1, sX2_read_5, sX2_read_5n, sX2_read_6, sX2_read_6n, sX2_read_7, sX2_read_7n, sX2_read_10, sX2_read_12, sX2_read_13, sX2_read_14, sX2_read_15, sX2_read_18, sX2_read_19, sX2_read_20, sX2_read_21, sX2_read_23, sX2_read_24, sX2_read_28, sX2_read_28n, sX2_read_29, sX2_read_32, sX2_read_35, sX2_read_35n, sX2_read_36, sX2_read_38, sX2_read_43, sX2_read_45, sX2_read_46, sX2_read_46n, sX2_read_47, sX2_read_49, sX2_read_54, sX2_read_56, sX2_read_58, sX2_read_61, sX2_read_64, sX2_read_67, sX2_read_68, sX2_read_70, sX2_read_75, sX2_read_77, sX2_read_79, sX2_read_82, sX2_read_85, sX2_read_86, hP, Option.some.injEq, Sum.inr.injEq, Sum.inl.injEq, Prod.mk.injEq, true_and, and_true, exists_eq_left', exists_eq_left, exists_eq_right, exists_eq_right', exists_and_left, exists_and_right, List.getElem?_cons_succ, List.getElem?_cons_zero, List.length_cons, List.length_nil, List.set_cons_zero, List.set_cons_succ, Option.toList_some, Option.toList_none, List.nil_append, List.cons_append, mj_up_s, true_or, or_true, Nat.sub_zero, and_assoc, b10, not_true_eq_false, not_false_eq_true, false_implies, true_implies, implies_true, eq_self, and_self, rf_some, rf_none]
        refine And.intro (fun c => absurd c (nI_ge (by omega) (by omega))) (fun _ => ?_)
        have hbf : bf.getD 0 ≤ 510 := by
          rcases hb with ⟨-, rfl⟩ | ⟨t, -, rfl⟩
          · simp
          · cases hx : S_cl S q t with
            | none => simp
            | some x => have := S_cl_lt p4 hx; simpa using this
        have elb : S_lb (rdN S q k).2 q k (bf.getD 0) = S_cl S q k := by
          rw [eP.lb]
          rcases hb with ⟨rfl, rfl⟩ | ⟨t, rfl, rfl⟩
          · rfl
          · rfl
        refine sX2_read_40z hP0 rfl (c_lengthBehind (bf := bf) (by omega) (by show 70 ≤ w - 27; omega) hPK (by omega) hbf ?_)
        rw [elb]
        simp only [sX2_read_0, sX2_read_1, sX2_read_5, sX2_read_5n, sX2_read_6, sX2_read_6n, sX2_read_7, sX2_read_7n, sX2_read_10, sX2_read_12, sX2_read_13, sX2_read_14, sX2_read_15, sX2_read_18, sX2_read_19, sX2_read_20, sX2_read_21, sX2_read_23, sX2_read_24, sX2_read_28, sX2_read_28n, sX2_read_29, sX2_read_32, sX2_read_35, sX2_read_35n, sX2_read_36, sX2_read_38, sX2_read_43, sX2_read_45, sX2_read_46, sX2_read_46n, sX2_read_47, sX2_read_49, sX2_read_54, sX2_read_56, sX2_read_58, sX2_read_61, sX2_read_64, sX2_read_67, sX2_read_68, sX2_read_70, sX2_read_75, sX2_read_77, sX2_read_79, sX2_read_82, sX2_read_85, sX2_read_86, Option.some.injEq, Sum.inr.injEq, Sum.inl.injEq, Prod.mk.injEq, true_and, and_true, exists_eq_left', exists_eq_left, exists_eq_right, exists_eq_right', exists_and_left, exists_and_right, List.getElem?_cons_succ, List.getElem?_cons_zero, List.length_cons, List.length_nil, List.set_cons_zero, List.set_cons_succ, Option.toList_some, Option.toList_none, List.nil_append, List.cons_append, mj_up_s, true_or, or_true, Nat.sub_zero, and_assoc, b10, not_true_eq_false, not_false_eq_true, false_implies, true_implies, implies_true, eq_self, and_self, rf_some, rf_none]
        rw [← eP.cl k]
        refine sX2_read_51z hO1 rfl (m_faultOf (by omega) (by show 92 ≤ w - 27; omega) hM1 hC1 hW1 (p := q) (by omega) (by omega) ?_)
        rw [eP.wr (hlo 0 0 0 (by omega)) (fun i => hlo 1 i 0 (by omega)), eP.cl k]
        have hwl := S_wr_le (S := S) (p := q) (k := k)
        simp only [sX2_read_0, sX2_read_1, sX2_read_5, sX2_read_5n, sX2_read_6, sX2_read_6n, sX2_read_7, sX2_read_7n, sX2_read_10, sX2_read_12, sX2_read_13, sX2_read_14, sX2_read_15, sX2_read_18, sX2_read_19, sX2_read_20, sX2_read_21, sX2_read_23, sX2_read_24, sX2_read_28, sX2_read_28n, sX2_read_29, sX2_read_32, sX2_read_35, sX2_read_35n, sX2_read_36, sX2_read_38, sX2_read_43, sX2_read_45, sX2_read_46, sX2_read_46n, sX2_read_47, sX2_read_49, sX2_read_54, sX2_read_56, sX2_read_58, sX2_read_61, sX2_read_64, sX2_read_67, sX2_read_68, sX2_read_70, sX2_read_75, sX2_read_77, sX2_read_79, sX2_read_82, sX2_read_85, sX2_read_86, Option.some.injEq, Sum.inr.injEq, Sum.inl.injEq, Prod.mk.injEq, true_and, and_true, exists_eq_left', exists_eq_left, exists_eq_right, exists_eq_right', exists_and_left, exists_and_right, List.getElem?_cons_succ, List.getElem?_cons_zero, List.length_cons, List.length_nil, List.set_cons_zero, List.set_cons_succ, Option.toList_some, Option.toList_none, List.nil_append, List.cons_append, mj_up_s, true_or, or_true, Nat.sub_zero, and_assoc, b10, not_true_eq_false, not_false_eq_true, false_implies, true_implies, implies_true, eq_self, and_self, rf_some, rf_none, e1]
        by_cases hw0 : S_wr S q k = 0
        · have er : rdN S q (k + 1) = ((rdN S q k).1 + 1, (rdN S q k).2) := by conv => lhs; unfold rdN; rw [if_pos hw0]
          have go := ih (k + 1) (by omega) h1 C1 (S_cl S q k) (.int (oI (S_cl S q k))) (.int (nI (S_wr S q k)))
          rw [er] at go
          refine And.intro (fun c => absurd (show nI (S_wr S q k) = 0 by rw [hw0]; rfl) c) (fun _ => ?_)
          rw [show nI (rdN S q k).1 + 1 = nI ((rdN S q k).1 + 1) from nI_1 _]
          exact go hM1 hC1 hk1 (Or.inr ⟨k, rfl, rfl⟩)
        · have er : rdN S q (k + 1) = ((rdN S q k).1, S_told (rdN S q k).2 (S_wr S q k) k) := by conv => lhs; unfold rdN; rw [if_neg hw0]
          refine And.intro (fun _ => ?_) (fun c => absurd (fun e : nI (S_wr S q k) = 0 => hw0 ((nI_eq (by omega) (by omega)).mp (show nI _ = nI 0 from e))) c)
          refine sX2_read_72z hO1 rfl (m_tell (by omega) (by show 22 ≤ w - 27; omega) hM1 hC1 (by omega) (fun h2 hK2 => ?_))
          obtain ⟨C2, hM2, hC2, hk2⟩ := hK2
          have go := ih (k + 1) (by omega) h2 C2 (S_cl S q k) (.int (oI (S_cl S q k))) (.int (nI (S_wr S q k)))
          rw [er] at go
          simp only [sX2_read_0, sX2_read_1, sX2_read_5, sX2_read_5n, sX2_read_6, sX2_read_6n, sX2_read_7, sX2_read_7n, sX2_read_10, sX2_read_12, sX2_read_13, sX2_read_14, sX2_read_15, sX2_read_18, sX2_read_19, sX2_read_20, sX2_read_21, sX2_read_23, sX2_read_24, sX2_read_28, sX2_read_28n, sX2_read_29, sX2_read_32, sX2_read_35, sX2_read_35n, sX2_read_36, sX2_read_38, sX2_read_43, sX2_read_45, sX2_read_46, sX2_read_46n, sX2_read_47, sX2_read_49, sX2_read_54, sX2_read_56, sX2_read_58, sX2_read_61, sX2_read_64, sX2_read_67, sX2_read_68, sX2_read_70, sX2_read_75, sX2_read_77, sX2_read_79, sX2_read_82, sX2_read_85, sX2_read_86, Option.some.injEq, Sum.inr.injEq, Sum.inl.injEq, Prod.mk.injEq, true_and, and_true, exists_eq_left', exists_eq_left, exists_eq_right, exists_eq_right', exists_and_left, exists_and_right, List.getElem?_cons_succ, List.getElem?_cons_zero, List.length_cons, List.length_nil, List.set_cons_zero, List.set_cons_succ, Option.toList_some, Option.toList_none, List.nil_append, List.cons_append, mj_up_s, true_or, or_true, Nat.sub_zero, and_assoc, b10, not_true_eq_false, not_false_eq_true, false_implies, true_implies, implies_true, eq_self, and_self, rf_some, rf_none, e1]
          exact go hM2 hC2 (fun a b ha => (hk2 a b ha).trans (hk1 a b ha)) (Or.inr ⟨k, rfl, rfl⟩)
    have hlo0 : sameLo S (S_up S 12 0 0 0) := fun r a b hr => by simp [S_up, show r ≠ 12 by omega]
    have M1 := hM.put (k := 5) (i := 0) (c := OSc AD (S_up S 12 0 0 0) plc) rfl
    have nt0 : S_nt (S_up S 12 0 0 0) = 0 := by simp [S_nt, S_up]
    have C1 : CC (S_up S 12 0 0 0) AD (Cu C 5 0 (OSc AD (S_up S 12 0 0 0) plc)) := by
      refine CC_told hC hlo0 (fun a b ha _ => Cu_k ha) ⟨plc, Cu_s⟩ ?_ ?_
      · obtain ⟨g1, e1, e2⟩ := hC.2.2.2.1
        exact ⟨g1, by rw [Cu_k (by decide), e1], fun i hi => by omega⟩
      · obtain ⟨g1, e1, e2⟩ := hC.2.2.2.2.1
        exact ⟨g1, by rw [Cu_k (by decide), e1], fun i hi => by omega⟩
    have hOS : OSc AD (S_up S 12 0 0 0) plc = .inr (2, [.ref (AD 0 0), .int (nI (S_no S)), .ref (AD 0 1), .int (nI (S_np S)), .ref (AD 0 2), .ref (AD 0 3), .int 0, .ref (AD 0 4), .int plc, .ref (AD 0 5)]) := by
      simp only [OSc, nt0, show S_no (S_up S 12 0 0 0) = S_no S from hlo0 0 0 0 (by omega), show S_np (S_up S 12 0 0 0) = S_np S from hlo0 6 0 0 (by omega)]; rfl
    simp only [sX2_read_0, sX2_read_1, sX2_read_5, sX2_read_5n, sX2_read_6, sX2_read_6n, sX2_read_7, sX2_read_7n, sX2_read_10, sX2_read_12, sX2_read_13, sX2_read_14, sX2_read_15, sX2_read_18, sX2_read_19, sX2_read_20, sX2_read_21, sX2_read_23, sX2_read_24, sX2_read_28, sX2_read_28n, sX2_read_29, sX2_read_32, sX2_read_35, sX2_read_35n, sX2_read_36, sX2_read_38, sX2_read_43, sX2_read_45, sX2_read_46, sX2_read_46n, sX2_read_47, sX2_read_49, sX2_read_54, sX2_read_56, sX2_read_58, sX2_read_61, sX2_read_64, sX2_read_67, sX2_read_68, sX2_read_70, sX2_read_75, sX2_read_77, sX2_read_79, sX2_read_82, sX2_read_85, sX2_read_86, hO, nfr_2_0, ffr_2_0, nfu_2_0, ffu_2_0, nfi_2_1, ffi_2_1, nfr_2_2, ffr_2_2, nfu_2_2, ffu_2_2, nfi_2_3, ffi_2_3, nfr_2_4, ffr_2_4, nfu_2_4, ffu_2_4, nfr_2_5, ffr_2_5, nfu_2_5, ffu_2_5, nfi_2_6, ffi_2_6, nfr_2_7, ffr_2_7, nfu_2_7, ffu_2_7, nfi_2_8, ffi_2_8, nfr_2_9, ffr_2_9, nfu_2_9, ffu_2_9, Option.some.injEq, Sum.inr.injEq, Sum.inl.injEq, Prod.mk.injEq, true_and, and_true, exists_eq_left', exists_eq_left, exists_eq_right, exists_eq_right', exists_and_left, exists_and_right, List.getElem?_cons_succ, List.getElem?_cons_zero, List.length_cons, List.length_nil, List.set_cons_zero, List.set_cons_succ, Option.toList_some, Option.toList_none, List.nil_append, List.cons_append, mj_up_s, true_or, or_true, Nat.sub_zero, and_assoc, b10, not_true_eq_false, not_false_eq_true, false_implies, true_implies, implies_true, eq_self, and_self, rf_some, rf_none]
    refine And.intro (by decide) ?_
    refine loop (S_ct S q) 0 (by omega) _ (Cu C 5 0 (OSc AD (S_up S 12 0 0 0) plc)) none _ _ ?_ C1 (fun a b ha => Cu_k (by omega)) (Or.inl ⟨rfl, rfl⟩)
    show MEM _ n AD (VS (S_up S 12 0 0 0)) _
    rw [VS_eq (show S_no (S_up S 12 0 0 0) = S_no S from hlo0 0 0 0 (by omega)) (show S_np (S_up S 12 0 0 0) = S_np S from hlo0 6 0 0 (by omega))]
    rw [hOS] at M1 ⊢
    exact M1
  · rw [if_neg hc] at hQ ⊢
    simp only [sX2_read_0, sX2_read_1, sX2_read_5, sX2_read_5n, sX2_read_6, sX2_read_6n, sX2_read_7, sX2_read_7n, sX2_read_10, sX2_read_12, sX2_read_13, sX2_read_14, sX2_read_15, sX2_read_18, sX2_read_19, sX2_read_20, sX2_read_21, sX2_read_23, sX2_read_24, sX2_read_28, sX2_read_28n, sX2_read_29, sX2_read_32, sX2_read_35, sX2_read_35n, sX2_read_36, sX2_read_38, sX2_read_43, sX2_read_45, sX2_read_46, sX2_read_46n, sX2_read_47, sX2_read_49, sX2_read_54, sX2_read_56, sX2_read_58, sX2_read_61, sX2_read_64, sX2_read_67, sX2_read_68, sX2_read_70, sX2_read_75, sX2_read_77, sX2_read_79, sX2_read_82, sX2_read_85, sX2_read_86, Option.some.injEq, Sum.inr.injEq, Sum.inl.injEq, Prod.mk.injEq, true_and, and_true, exists_eq_left', exists_eq_left, exists_eq_right, exists_eq_right', exists_and_left, exists_and_right, List.getElem?_cons_succ, List.getElem?_cons_zero, List.length_cons, List.length_nil, List.set_cons_zero, List.set_cons_succ, Option.toList_some, Option.toList_none, List.nil_append, List.cons_append, mj_up_s, true_or, or_true, Nat.sub_zero, and_assoc, b10, not_true_eq_false, not_false_eq_true, false_implies, true_implies, implies_true, eq_self, and_self, rf_some, rf_none]
    exact hQ _ (KEEP.rf hM hC)
end
