/-! ===== the reference: write ===== -/
def RW (A : Nat → Nat → Int32) (p : Nat) (L : List Nat) : Prop := A 9 p = nI L.length ∧ ∀ j, j < L.length → A 10 (600 * p + j) = nI (L.getD j 0)
def frB (A A' : Nat → Nat → Int32) (p : Nat) : Prop := (∀ j, j ≠ 9 → j ≠ 10 → A' j = A j) ∧ (∀ k, k ≠ p → A' 9 k = A 9 k) ∧ ∀ x, x < 600 * p ∨ 600 * p + 600 ≤ x → A' 10 x = A 10 x
theorem frB.rf {A : Nat → Nat → Int32} {p : Nat} : frB A A p := ⟨fun _ _ _ => rfl, fun _ _ => rfl, fun _ _ => rfl⟩
theorem frB.trans {A A1 A2 : Nat → Nat → Int32} {p : Nat} (h1 : frB A A1 p) (h2 : frB A1 A2 p) : frB A A2 p :=
  ⟨fun j a b => (h2.1 j a b).trans (h1.1 j a b), fun k a => (h2.2.1 k a).trans (h1.2.1 k a), fun x a => (h2.2.2 x a).trans (h1.2.2 x a)⟩
theorem CM.frB {S : St} {X : Nat → Int32} {A A' : Nat → Nat → Int32} {p : Nat} (hR : CM S X A) (hW : WF S) (hp : S_np S ≤ p) (hf : frB A A' p) : CM S X A' := by
  obtain ⟨r1, r2, r3, r4, r5, r6, r7⟩ := hR
  refine ⟨r1, r2, r3, fun i hi => ?_, fun i hi => ?_, fun q hq => ?_, fun i hi => ?_⟩
  · rw [hf.1 1 (by omega) (by omega), hf.1 2 (by omega) (by omega), hf.1 3 (by omega) (by omega), hf.1 4 (by omega) (by omega), hf.1 5 (by omega) (by omega)]; exact r4 i hi
  · rw [hf.1 2 (by omega) (by omega), hf.1 5 (by omega) (by omega)]; exact r5 i hi
  · have hz := (hW.2.2.2.2.2 q hq).1.2.2.1
    rw [hf.1 6 (by omega) (by omega), hf.1 7 (by omega) (by omega), hf.1 8 (by omega) (by omega), hf.2.1 q (by omega)]
    obtain ⟨q1, q2, q3, q4, q5⟩ := r6 q hq
    exact ⟨q1, q2, q3, q4, fun j hj => by rw [hf.2.2 _ (by omega)]; exact q5 j hj⟩
  · rw [hf.1 12 (by omega) (by omega), hf.1 13 (by omega) (by omega)]; exact r7 i hi
theorem plc_mono {S : St} {od : Nat → Nat} {s : Nat} : ∀ {m m'}, m ≤ m' → plc S od s m ≤ plc S od s m'
  | m, 0, h => by obtain rfl : m = 0 := by omega
                  exact Nat.le_refl _
  | m, m' + 1, h => by
    by_cases e : m = m' + 1
    · subst e; exact Nat.le_refl _
    · have := plc_mono (S := S) (od := od) (s := s) (m := m) (m' := m') (by omega)
      show _ ≤ plc S od s m' + _
      omega
theorem getD_snoc_s {L : List Nat} {v : Nat} : (L ++ [v]).getD L.length 0 = v := by simp [List.getD_eq_getElem?_getD]
theorem getD_snoc_n {L : List Nat} {v j : Nat} (h : j < L.length) : (L ++ [v]).getD j 0 = L.getD j 0 := by simp [List.getD_eq_getElem?_getD, List.getElem?_append_left h]
theorem and255 : ∀ v, v < 1024 → nI v &&& 255 = nI (v % 256) := by decide +kernel
section
variable {f w : Nat} {Q : mj_Q} {h0 h : mj_H} {n mc ms : Nat} {S : St} {AD : Ad} {X : Nat → Int32} {A : Nat → Nat → Int32}
theorem r_add1 (hf : 1 ≤ f) (hw : 22 ≤ w) (hM : MHF h0 h AD X A) {p v : Nat} {L : List Nat} (hp : p < 20) (hL : RW A p L) (hl : L.length < 600) (hQ : ∀ h' A', MHF h0 h' AD X A' → frB A A' p → RW A' p (L ++ [v]) → Q none h' n) : mj_bk f w 74 [.ref (AD 6 0), .int (nI p), .int (nI v)] h n mc ms Q := by
  refine r_addOne hf hw hM hp hL.1 hl (fun h' hM' => hQ h' _ hM' ⟨fun j a b => ?_, fun k hk => ?_, fun x hx => ?_⟩ ⟨?_, fun j hj => ?_⟩)
  · rw [Aw_n a, Aw_n b]
  · rw [Aw_s, pk_un hk, Aw_n (by omega)]
  · rw [Aw_n (by omega), Aw_s, pk_un (by omega)]
  · rw [Aw_s, pk_us, List.length_append]; rfl
  · rw [List.length_append] at hj
    have hj : j < L.length + 1 := hj
    rw [Aw_n (by omega), Aw_s]
    by_cases e : j = L.length
    · subst e
      rw [pk_us, getD_snoc_s]
    · rw [pk_un (by omega), getD_snoc_n (by omega)]
      exact hL.2 j (by omega)
set_option maxRecDepth 100000 in
set_option maxHeartbeats 1000000 in
theorem r_write (hf : 2 ≤ f) (hw : 51 ≤ w) (hM : MHF h0 h AD X A) (hR : CM S X A) (hW : WF S) {od : Nat → Nat} {s t : Nat} (hnp : S_np S < 20) (hst : s ≤ t) (ht : t ≤ 60) (hod : ∀ i, i < t → A 14 i = nI (od i)) (hit : ∀ i, s ≤ i → i < t → od i < S_no S ∧ S_pk S (od i) = 0) (h600 : 4 * (t - s) + plc S od s (t - s) ≤ 600)
    (hQ : ∀ h' A', MHF h0 h' AD X A' → (∀ j, (j ≤ 5 ∨ 11 ≤ j) → A' j = A j) → (∀ k, k ≠ S_np S → A' 6 k = A 6 k ∧ A' 7 k = A 7 k ∧ A' 8 k = A 8 k ∧ A' 9 k = A 9 k) → (∀ x, x < 600 * S_np S ∨ 600 * S_np S + 600 ≤ x → A' 10 x = A 10 x) → A' 6 (S_np S) = nI (t - s) → A' 7 (S_np S) = nI (4 * (t - s)) → A' 8 (S_np S) = -1 → RW A' (S_np S) (lW S od s (t - s)) → Q none h' n) : mj_bk f w 75 [.ref (AD 6 0), .int (nI (S_np S)), .int (nI s), .int (nI t)] h n mc ms Q := by
  have w1 := hW.1
  generalize hp : S_np S = p at *
  have cp := nI_cl (show p < 2147483648 by omega)
  have vp : vp_in (nI p) 20 := vp_in_nI hnp (by decide)
  have ec : nI t - nI s = nI (t - s) := pk_sub hst
  have e4 : (4 : Int32) * nI (t - s) = nI (4 * (t - s)) := by rw [show (4 : Int32) = nI 4 from rfl, pk_mul]
  refine mj_begin (by omega) (by decide) (by show 28 ≤ w; omega) rfl ?_
  show mj_W _ _ 75 mj_noZ Q 0 [.ref (AD 6 0), .int (nI p), .int (nI s), .int (nI t), .retAddr 0, .retAddr 0, .retAddr 0, .retAddr 0, .retAddr 0] [] h n mc ms
  have i6 := hM.ar 6 (by omega) (by omega)
  simp only [sX3_write_0, sX3_write_1, sX3_write_4, sX3_write_5, sX3_write_6, sX3_write_7, sX3_write_8, hM.ob, i6, Option.some.injEq, Sum.inr.injEq, Sum.inl.injEq, Prod.mk.injEq, true_and, and_true, exists_eq_left', exists_eq_left, exists_eq_right, exists_eq_right', exists_and_left, exists_and_right, List.getElem?_cons_succ, List.getElem?_cons_zero, List.length_cons, List.length_nil, List.set_cons_zero, List.set_cons_succ, Option.toList_some, Option.toList_none, List.nil_append, List.cons_append, mj_up_s, true_or, or_true, Nat.sub_zero, and_assoc, b10, not_true_eq_false, not_false_eq_true, false_implies, true_implies, implies_true, eq_self, and_self, rf_some, rf_none, cp, ec]
  refine And.intro vp ?_
  generalize hH : mj_up h (AD 6 6) _ = h1
  have hM1 : MHF h0 h1 AD X (Aw A 6 p (nI (t - s))) := hH ▸ hM.putA 6 p _ (by omega) (by omega)
  clear hH
  have i7 := hM1.ar 7 (by omega) (by omega)
  simp only [sX3_write_9, sX3_write_10, sX3_write_13, sX3_write_14, sX3_write_15, sX3_write_16, sX3_write_17, sX3_write_18, sX3_write_19, hM1.ob, i7, Option.some.injEq, Sum.inr.injEq, Sum.inl.injEq, Prod.mk.injEq, true_and, and_true, exists_eq_left', exists_eq_left, exists_eq_right, exists_eq_right', exists_and_left, exists_and_right, List.getElem?_cons_succ, List.getElem?_cons_zero, List.length_cons, List.length_nil, List.set_cons_zero, List.set_cons_succ, Option.toList_some, Option.toList_none, List.nil_append, List.cons_append, mj_up_s, true_or, or_true, Nat.sub_zero, and_assoc, b10, not_true_eq_false, not_false_eq_true, false_implies, true_implies, implies_true, eq_self, and_self, rf_some, rf_none, cp, ec, e4]
  refine And.intro vp ?_
  generalize hH : mj_up h1 (AD 6 7) _ = h2
  have hM2 : MHF h0 h2 AD X (Aw (Aw A 6 p (nI (t - s))) 7 p (nI (4 * (t - s)))) := hH ▸ hM1.putA 7 p _ (by omega) (by omega)
  clear hH
  have i8 := hM2.ar 8 (by omega) (by omega)
  simp only [sX3_write_20, sX3_write_21, sX3_write_24, sX3_write_25, sX3_write_26, hM2.ob, i8, Option.some.injEq, Sum.inr.injEq, Sum.inl.injEq, Prod.mk.injEq, true_and, and_true, exists_eq_left', exists_eq_left, exists_eq_right, exists_eq_right', exists_and_left, exists_and_right, List.getElem?_cons_succ, List.getElem?_cons_zero, List.length_cons, List.length_nil, List.set_cons_zero, List.set_cons_succ, Option.toList_some, Option.toList_none, List.nil_append, List.cons_append, mj_up_s, true_or, or_true, Nat.sub_zero, and_assoc, b10, not_true_eq_false, not_false_eq_true, false_implies, true_implies, implies_true, eq_self, and_self, rf_some, rf_none, cp]
  refine And.intro vp ?_
  generalize hH : mj_up h2 (AD 6 8) _ = h3
  have hM3 : MHF h0 h3 AD X (Aw (Aw (Aw A 6 p (nI (t - s))) 7 p (nI (4 * (t - s)))) 8 p (-1)) := hH ▸ hM2.putA 8 p _ (by omega) (by omega)
  clear hH
  have i9 := hM3.ar 9 (by omega) (by omega)
  simp only [sX3_write_27, sX3_write_28, sX3_write_31, sX3_write_32, sX3_write_33, hM3.ob, i9, Option.some.injEq, Sum.inr.injEq, Sum.inl.injEq, Prod.mk.injEq, true_and, and_true, exists_eq_left', exists_eq_left, exists_eq_right, exists_eq_right', exists_and_left, exists_and_right, List.getElem?_cons_succ, List.getElem?_cons_zero, List.length_cons, List.length_nil, List.set_cons_zero, List.set_cons_succ, Option.toList_some, Option.toList_none, List.nil_append, List.cons_append, mj_up_s, true_or, or_true, Nat.sub_zero, and_assoc, b10, not_true_eq_false, not_false_eq_true, false_implies, true_implies, implies_true, eq_self, and_self, rf_some, rf_none, cp]
  refine And.intro vp ?_
  generalize hH : mj_up h3 (AD 6 9) _ = h4
  have hM4 : MHF h0 h4 AD X (Aw (Aw (Aw (Aw A 6 p (nI (t - s))) 7 p (nI (4 * (t - s)))) 8 p (-1)) 9 p 0) := hH ▸ hM3.putA 9 p _ (by omega) (by omega)
  clear hH
  generalize hA0 : Aw (Aw (Aw (Aw A 6 p (nI (t - s))) 7 p (nI (4 * (t - s)))) 8 p (-1)) 9 p 0 = A0 at hM4
  have k1 : ∀ j, (j ≤ 5 ∨ 10 ≤ j) → A0 j = A j := fun j hj => by rw [← hA0, Aw_n (by omega), Aw_n (by omega), Aw_n (by omega), Aw_n (by omega)]
  have k2 : ∀ k, k ≠ p → A0 6 k = A 6 k ∧ A0 7 k = A 7 k ∧ A0 8 k = A 8 k ∧ A0 9 k = A 9 k := fun k hk => by
    rw [← hA0]
    refine ⟨?_, ?_, ?_, ?_⟩
    · rw [Aw_n (by omega), Aw_n (by omega), Aw_n (by omega), Aw_s, pk_un hk]
    · rw [Aw_n (by omega), Aw_n (by omega), Aw_s, pk_un hk, Aw_n (by omega)]
    · rw [Aw_n (by omega), Aw_s, pk_un hk, Aw_n (by omega), Aw_n (by omega)]
    · rw [Aw_s, pk_un hk, Aw_n (by omega), Aw_n (by omega), Aw_n (by omega)]
  have k6 : A0 6 p = nI (t - s) := by rw [← hA0, Aw_n (by omega), Aw_n (by omega), Aw_n (by omega), Aw_s, pk_us]
  have k7 : A0 7 p = nI (4 * (t - s)) := by rw [← hA0, Aw_n (by omega), Aw_n (by omega), Aw_s, pk_us]
  have k8 : A0 8 p = -1 := by rw [← hA0, Aw_n (by omega), Aw_s, pk_us]
  have k9 : RW A0 p [] := ⟨by rw [← hA0, Aw_s, pk_us]; rfl, fun j hj => absurd hj (Nat.not_lt_zero _)⟩
  clear hA0 hM1 hM2 hM3 i6 i7 i8 i9
  have hR0 : CM S X A0 := by
    obtain ⟨r1, r2, r3, r4, r5, r6, r7⟩ := hR
    refine ⟨r1, r2, r3, fun i hi => ?_, fun i hi => ?_, fun q hq => ?_, fun i hi => ?_⟩
    · rw [k1 1 (by omega), k1 2 (by omega), k1 3 (by omega), k1 4 (by omega), k1 5 (by omega)]; exact r4 i hi
    · rw [k1 2 (by omega), k1 5 (by omega)]; exact r5 i hi
    · obtain ⟨u6, u7, u8, u9⟩ := k2 q (by omega)
      rw [u6, u7, u8, u9, k1 10 (by omega)]; exact r6 q hq
    · rw [k1 12 (by omega), k1 13 (by omega)]; exact r7 i hi
  have fin : ∀ h1 A1, MHF h0 h1 AD X A1 → frB A0 A1 p → RW A1 p (lW S od s (t - s)) → Q none h1 n := fun h1 A1 hM1 hf1 hL1 => by
    refine hQ h1 A1 hM1 (fun j hj => ?_) (fun k hk => ?_) (fun x hx => ?_) ?_ ?_ ?_ hL1
    · rw [hf1.1 j (by omega) (by omega)]; exact k1 j (by omega)
    · rw [hf1.1 6 (by omega) (by omega), hf1.1 7 (by omega) (by omega), hf1.1 8 (by omega) (by omega), hf1.2.1 k hk]; exact k2 k hk
    · rw [hf1.2.2 x hx, k1 10 (by omega)]
    · rw [hf1.1 6 (by omega) (by omega)]; exact k6
    · rw [hf1.1 7 (by omega) (by omega)]; exact k7
    · rw [hf1.1 8 (by omega) (by omega)]; exact k8
  -- facts of one of the order
  have ord : ∀ m, m < t - s → ∀ A1, frB A0 A1 p → CM S X A1 ∧ A1 14 (s + m) = nI (od (s + m)) ∧ A1 14 (s + m - 1) = nI (od (s + m - 1)) ∧ A1 2 (od (s + m)) = nI (S_sz S (od (s + m))) ∧ (∀ j, j < S_sz S (od (s + m)) → A1 3 (60 * od (s + m) + j) = nI (S_by S (od (s + m)) j)) ∧ S_sz S (od (s + m)) ≤ 60 ∧ od (s + m) < 60 := by
    intro m hm A1 hf1
    have hR1 : CM S X A1 := hR0.frB hW (by omega) hf1
    obtain ⟨o1, o2⟩ := hit (s + m) (by omega) (by omega)
    obtain ⟨a1, a2⟩ := (hR1.2.2.2.1 _ o1).2.2.2 o2
    refine ⟨hR1, ?_, ?_, a1, a2, (hW.2.2.2.1 _ o1).2.1, by omega⟩
    · rw [hf1.1 14 (by omega) (by omega), k1 14 (by omega)]; exact hod _ (by omega)
    · rw [hf1.1 14 (by omega) (by omega), k1 14 (by omega)]; exact hod _ (by omega)
  -- the contents
  have loop2 : ∀ m' m, m + m' = t - s → ∀ h1 A1 v4 v6 v7 v8, MHF h0 h1 AD X A1 → frB A0 A1 p → RW A1 p (lP S od s (t - s) ++ lC S od s m) → mj_W (f - 1) (w - (19 + mj_maxL 75)) 75 mj_noZ Q 161 [.ref (AD 6 0), .int (nI p), .int (nI s), .int (nI t), v4, .int (nI (s + m)), v6, v7, v8] [] h1 n mc ms := by
    intro m'
    induction m' with
    | zero =>
      intro m hm h1 A1 v4 v6 v7 v8 hM1 hf1 hL1
      obtain rfl : m = t - s := by omega
      rw [sX3_write_161, sX3_write_163, sX3_write_164]
      refine And.intro (fun _ => ?_) (fun c => absurd (nI_le (by omega) (by omega)) c)
      rw [sX3_write_271]
      exact fin h1 A1 hM1 hf1 hL1
    | succ m' ih =>
      intro m hm h1 A1 v4 v6 v7 v8 hM1 hf1 hL1
      obtain ⟨hR1, o14, o14p, z1, b1, z60, o60⟩ := ord m (by omega) A1 hf1
      obtain ⟨q1, q2⟩ := hit (s + m) (by omega) (by omega)
      have em : nI (s + m) + 1 = nI (s + (m + 1)) := nI_1 _
      have em1 : nI (s + m) - 1 = nI (s + m - 1) ∨ m = 0 := by
        by_cases e : m = 0
        · exact Or.inr e
        · left; rw [show (1 : Int32) = nI 1 from rfl, pk_sub (by omega)]
      have cm := nI_cl (show s + m < 2147483648 by omega)
      have vm : vp_in (nI (s + m)) 60 := vp_in_nI (by omega) (by decide)
      have i14 := hM1.ar 14 (by omega) (by omega)
      have hsl := sam_le (S := S) (la := lai od s (s + m)) (o := od (s + m))
      have hpm := plc_mono (S := S) (od := od) (s := s) (show m + 1 ≤ t - s by omega)
      have hstep : plc S od s (m + 1) = plc S od s m + (2 + un S (lai od s (s + m)) (od (s + m))) := rfl
      have hun : un S (lai od s (s + m)) (od (s + m)) = S_sz S (od (s + m)) - sam S (lai od s (s + m)) (od (s + m)) := rfl
      have hlen : (lP S od s (t - s) ++ lC S od s m).length = 4 * (t - s) + plc S od s m := by rw [List.length_append, lP_len, lC_len]
      -- behind the answer of alike
      have tail : ∀ b, b = nI (sam S (lai od s (s + m)) (od (s + m))) → mj_W (f - 1) (w - (19 + mj_maxL 75)) 75 mj_noZ Q 201 [.ref (AD 6 0), .int (nI p), .int (nI s), .int (nI t), v4, .int (nI (s + m)), .int (nI (od (s + m))), v7, v8] [.int b] h1 n mc ms := by
        intro b hb
        subst hb
        generalize hsa : sam S (lai od s (s + m)) (od (s + m)) = sa at *
        generalize hua : un S (lai od s (s + m)) (od (s + m)) = ua at *
        simp only [sX3_write_201, sX3_write_203, sX3_write_204, sX3_write_205, Option.some.injEq, Sum.inr.injEq, Sum.inl.injEq, Prod.mk.injEq, true_and, and_true, exists_eq_left', exists_eq_left, exists_eq_right, exists_eq_right', exists_and_left, exists_and_right, List.getElem?_cons_succ, List.getElem?_cons_zero, List.length_cons, List.length_nil, List.set_cons_zero, List.set_cons_succ, Option.toList_some, Option.toList_none, List.nil_append, List.cons_append, mj_up_s, true_or, or_true, Nat.sub_zero, and_assoc, b10, not_true_eq_false, not_false_eq_true, false_implies, true_implies, implies_true, eq_self, and_self, rf_some, rf_none]
        refine sX3_write_207z hM1.ob rfl (r_add1 (by omega) (by show 22 ≤ w - 28; omega) hM1 hnp hL1 (by omega) (fun h2 A2 hM2 hf2 hL2 => ?_))
        have hf2 := hf1.trans hf2
        obtain ⟨hR2, -, -, y1, y2, -, -⟩ := ord m (by omega) A2 hf2
        have i2 := hM2.ar 2 (by omega) (by omega)
        have co := nI_cl (show od (s + m) < 2147483648 by omega)
        have vo : vp_in (nI (od (s + m))) 60 := vp_in_nI (by omega) (by decide)
        have eu : nI (S_sz S (od (s + m))) - nI sa = nI ua := by rw [pk_sub hsl, ← hun]
        simp only [sX3_write_210, sX3_write_211, sX3_write_212, sX3_write_213, sX3_write_216, sX3_write_218, sX3_write_219, sX3_write_221, hM2.ob, i2, Option.some.injEq, Sum.inr.injEq, Sum.inl.injEq, Prod.mk.injEq, true_and, and_true, exists_eq_left', exists_eq_left, exists_eq_right, exists_eq_right', exists_and_left, exists_and_right, List.getElem?_cons_succ, List.getElem?_cons_zero, List.length_cons, List.length_nil, List.set_cons_zero, List.set_cons_succ, Option.toList_some, Option.toList_none, List.nil_append, List.cons_append, mj_up_s, true_or, or_true, Nat.sub_zero, and_assoc, b10, not_true_eq_false, not_false_eq_true, false_implies, true_implies, implies_true, eq_self, and_self, rf_some, rf_none, co, y1, eu]
        refine And.intro vo ?_
        refine sX3_write_222z hM2.ob rfl (r_add1 (by omega) (by show 22 ≤ w - 28; omega) hM2 hnp hL2 (by rw [List.length_append, hlen]; show _ + 1 < _; omega) (fun h3 A3 hM3 hf3 hL3 => ?_))
        have hf3 := hf2.trans hf3
        simp only [sX3_write_225, sX3_write_227, Option.some.injEq, Sum.inr.injEq, Sum.inl.injEq, Prod.mk.injEq, true_and, and_true, exists_eq_left', exists_eq_left, exists_eq_right, exists_eq_right', exists_and_left, exists_and_right, List.getElem?_cons_succ, List.getElem?_cons_zero, List.length_cons, List.length_nil, List.set_cons_zero, List.set_cons_succ, Option.toList_some, Option.toList_none, List.nil_append, List.cons_append, mj_up_s, true_or, or_true, Nat.sub_zero, and_assoc, b10, not_true_eq_false, not_false_eq_true, false_implies, true_implies, implies_true, eq_self, and_self, rf_some, rf_none]
        -- the bytes
        have inner : ∀ j' j, j + j' = ua → ∀ h4 A4, MHF h0 h4 AD X A4 → frB A0 A4 p → RW A4 p (lP S od s (t - s) ++ lC S od s m ++ [sa] ++ [ua] ++ bLs S (od (s + m)) sa j) → mj_W (f - 1) (w - (19 + mj_maxL 75)) 75 mj_noZ Q 229 [.ref (AD 6 0), .int (nI p), .int (nI s), .int (nI t), v4, .int (nI (s + m)), .int (nI (od (s + m))), .int (nI sa), .int (nI (sa + j))] [] h4 n mc ms := by
          intro j'
          induction j' with
          | zero =>
            intro j hj h4 A4 hM4 hf4 hL4
            obtain rfl : j = ua := by omega
            obtain ⟨hR4, -, -, y1, y2, -, -⟩ := ord m (by omega) A4 hf4
            have i2 := hM4.ar 2 (by omega) (by omega)
            have go := ih (m + 1) (by omega) h4 A4 v4 (.int (nI (od (s + m)))) (.int (nI sa)) (.int (nI (sa + j))) hM4 hf4 (by
              have e : lC S od s (m + 1) = lC S od s m ++ ([sa, j] ++ bLs S (od (s + m)) sa j) := by
                show lC S od s m ++ ([sam S (lai od s (s + m)) (od (s + m)), un S (lai od s (s + m)) (od (s + m))] ++ bLs S (od (s + m)) (sam S (lai od s (s + m)) (od (s + m))) (un S (lai od s (s + m)) (od (s + m)))) = _
                rw [hsa, hua]
              rw [e]
              have e2 : lP S od s (t - s) ++ lC S od s m ++ [sa] ++ [j] ++ bLs S (od (s + m)) sa j = lP S od s (t - s) ++ (lC S od s m ++ ([sa, j] ++ bLs S (od (s + m)) sa j)) := by simp [List.append_assoc]
              rw [← e2]; exact hL4)
            rw [sX3_write_229]
            simp only [sX3_write_231, sX3_write_232, sX3_write_235, sX3_write_237, sX3_write_238, sX3_write_265, sX3_write_268, hM4.ob, i2, Option.some.injEq, Sum.inr.injEq, Sum.inl.injEq, Prod.mk.injEq, true_and, and_true, exists_eq_left', exists_eq_left, exists_eq_right, exists_eq_right', exists_and_left, exists_and_right, List.getElem?_cons_succ, List.getElem?_cons_zero, List.length_cons, List.length_nil, List.set_cons_zero, List.set_cons_succ, Option.toList_some, Option.toList_none, List.nil_append, List.cons_append, mj_up_s, true_or, or_true, Nat.sub_zero, and_assoc, b10, not_true_eq_false, not_false_eq_true, false_implies, true_implies, implies_true, eq_self, and_self, rf_some, rf_none, co, y1, em]
            exact And.intro vo (And.intro (fun _ => go) (fun c => absurd (nI_le (by omega) (by omega)) c))
          | succ j' ihj =>
            intro j hj h4 A4 hM4 hf4 hL4
            obtain ⟨hR4, -, -, y1, y2, -, -⟩ := ord m (by omega) A4 hf4
            have i2 := hM4.ar 2 (by omega) (by omega)
            have i3 := hM4.ar 3 (by omega) (by omega)
            have e60 : (60 : Int32) * nI (od (s + m)) + nI (sa + j) = nI (60 * od (s + m) + (sa + j)) := by rw [show (60 : Int32) = nI 60 from rfl, pk_mul, nI_add]
            have ej : nI (sa + j) + 1 = nI (sa + (j + 1)) := nI_1 _
            rw [sX3_write_229]
            simp only [sX3_write_231, sX3_write_232, sX3_write_235, sX3_write_237, sX3_write_238, hM4.ob, i2, Option.some.injEq, Sum.inr.injEq, Sum.inl.injEq, Prod.mk.injEq, true_and, and_true, exists_eq_left', exists_eq_left, exists_eq_right, exists_eq_right', exists_and_left, exists_and_right, List.getElem?_cons_succ, List.getElem?_cons_zero, List.length_cons, List.length_nil, List.set_cons_zero, List.set_cons_succ, Option.toList_some, Option.toList_none, List.nil_append, List.cons_append, mj_up_s, true_or, or_true, Nat.sub_zero, and_assoc, b10, not_true_eq_false, not_false_eq_true, false_implies, true_implies, implies_true, eq_self, and_self, rf_some, rf_none, co, y1]
            refine And.intro vo (And.intro (fun c => absurd c (nI_ge (by omega) (by omega))) (fun _ => ?_))
            simp only [sX3_write_241, sX3_write_242, sX3_write_243, sX3_write_244, sX3_write_247, sX3_write_249, sX3_write_251, sX3_write_252, sX3_write_254, sX3_write_255, hM4.ob, i3, Option.some.injEq, Sum.inr.injEq, Sum.inl.injEq, Prod.mk.injEq, true_and, and_true, exists_eq_left', exists_eq_left, exists_eq_right, exists_eq_right', exists_and_left, exists_and_right, List.getElem?_cons_succ, List.getElem?_cons_zero, List.length_cons, List.length_nil, List.set_cons_zero, List.set_cons_succ, Option.toList_some, Option.toList_none, List.nil_append, List.cons_append, mj_up_s, true_or, or_true, Nat.sub_zero, and_assoc, b10, not_true_eq_false, not_false_eq_true, false_implies, true_implies, implies_true, eq_self, and_self, rf_some, rf_none, e60, nI_cl (show 60 * od (s + m) + (sa + j) < 2147483648 by omega), y2 (sa + j) (by omega)]
            refine And.intro (vp_in_nI (show _ < 3600 by omega) (by decide)) ?_
            refine sX3_write_256z hM4.ob rfl (r_add1 (by omega) (by show 22 ≤ w - 28; omega) hM4 hnp hL4 (by rw [List.length_append, List.length_append, List.length_append, hlen, bLs_len]; show _ + 1 + 1 + _ < _; omega) (fun h5 A5 hM5 hf5 hL5 => ?_))
            simp only [sX3_write_259, sX3_write_262, Option.some.injEq, Sum.inr.injEq, Sum.inl.injEq, Prod.mk.injEq, true_and, and_true, exists_eq_left', exists_eq_left, exists_eq_right, exists_eq_right', exists_and_left, exists_and_right, List.getElem?_cons_succ, List.getElem?_cons_zero, List.length_cons, List.length_nil, List.set_cons_zero, List.set_cons_succ, Option.toList_some, Option.toList_none, List.nil_append, List.cons_append, mj_up_s, true_or, or_true, Nat.sub_zero, and_assoc, b10, not_true_eq_false, not_false_eq_true, false_implies, true_implies, implies_true, eq_self, and_self, rf_some, rf_none, ej]
            exact ihj (j + 1) (by omega) h5 A5 hM5 (hf4.trans hf5) (by rw [show bLs S (od (s + m)) sa (j + 1) = bLs S (od (s + m)) sa j ++ [S_by S (od (s + m)) (sa + j)] from rfl, ← List.append_assoc]; exact hL5)
        exact inner ua 0 (by omega) h3 A3 hM3 hf3 (by rw [show bLs S (od (s + m)) sa 0 = [] from rfl, List.append_nil]; exact hL3)
      rw [sX3_write_161, sX3_write_163, sX3_write_164]
      refine And.intro (fun c => absurd c (nI_ge (by omega) (by omega))) (fun _ => ?_)
      simp only [sX3_write_167, sX3_write_168, sX3_write_171, sX3_write_173, sX3_write_174, sX3_write_176, sX3_write_178, sX3_write_179, hM1.ob, i14, Option.some.injEq, Sum.inr.injEq, Sum.inl.injEq, Prod.mk.injEq, true_and, and_true, exists_eq_left', exists_eq_left, exists_eq_right, exists_eq_right', exists_and_left, exists_and_right, List.getElem?_cons_succ, List.getElem?_cons_zero, List.length_cons, List.length_nil, List.set_cons_zero, List.set_cons_succ, Option.toList_some, Option.toList_none, List.nil_append, List.cons_append, mj_up_s, true_or, or_true, Nat.sub_zero, and_assoc, b10, not_true_eq_false, not_false_eq_true, false_implies, true_implies, implies_true, eq_self, and_self, rf_some, rf_none, cm, o14]
      refine And.intro vm ?_
      by_cases hm0 : m = 0
      · refine And.intro (fun c => absurd (by rw [hm0]; rfl) c) (fun _ => ?_)
        simp only [sX3_write_182, sX3_write_183]
        refine tail 0 ?_
        have : lai od s (s + m) = 0 := if_pos (by omega)
        rw [this]; rfl
      · have em1 : nI (s + m) - 1 = nI (s + m - 1) := em1.resolve_right hm0
        obtain ⟨r1, r2⟩ := hit (s + m - 1) (by omega) (by omega)
        refine And.intro (fun _ => ?_) (fun c => absurd (fun e => hm0 (by have := (nI_eq (by omega) (by omega)).mp e; omega)) c)
        simp only [sX3_write_186, sX3_write_187, sX3_write_189, sX3_write_190, sX3_write_193, sX3_write_195, sX3_write_196, sX3_write_197, hM1.ob, i14, Option.some.injEq, Sum.inr.injEq, Sum.inl.injEq, Prod.mk.injEq, true_and, and_true, exists_eq_left', exists_eq_left, exists_eq_right, exists_eq_right', exists_and_left, exists_and_right, List.getElem?_cons_succ, List.getElem?_cons_zero, List.length_cons, List.length_nil, List.set_cons_zero, List.set_cons_succ, Option.toList_some, Option.toList_none, List.nil_append, List.cons_append, mj_up_s, true_or, or_true, Nat.sub_zero, and_assoc, b10, not_true_eq_false, not_false_eq_true, false_implies, true_implies, implies_true, eq_self, and_self, rf_some, rf_none, em1, nI_cl (show s + m - 1 < 2147483648 by omega), o14p]
        refine And.intro (vp_in_nI (show _ < 60 by omega) (by decide)) ?_
        refine sX3_write_198z hM1.ob rfl (r_alike (by omega) (by show 23 ≤ w - 28; omega) hM1 hR1 hW q1 r1 q2 r2 ?_)
        refine tail _ ?_
        have : lai od s (s + m) = od (s + m - 1) + 1 := if_neg (by omega)
        rw [this]; rfl
  -- the pairs
  have loop1 : ∀ m' m, m + m' = t - s → ∀ h1 A1 v6 v7 v8, MHF h0 h1 AD X A1 → frB A0 A1 p → RW A1 p (lP S od s m) → mj_W (f - 1) (w - (19 + mj_maxL 75)) 75 mj_noZ Q 40 [.ref (AD 6 0), .int (nI p), .int (nI s), .int (nI t), .int (nI (plc S od s m)), .int (nI (s + m)), v6, v7, v8] [] h1 n mc ms := by
    intro m'
    induction m' with
    | zero =>
      intro m hm h1 A1 v6 v7 v8 hM1 hf1 hL1
      obtain rfl : m = t - s := by omega
      rw [sX3_write_40, sX3_write_42, sX3_write_43]
      refine And.intro (fun _ => ?_) (fun c => absurd (nI_le (by omega) (by omega)) c)
      simp only [sX3_write_158, sX3_write_159, Option.some.injEq, Sum.inr.injEq, Sum.inl.injEq, Prod.mk.injEq, true_and, and_true, exists_eq_left', exists_eq_left, exists_eq_right, exists_eq_right', exists_and_left, exists_and_right, List.getElem?_cons_succ, List.getElem?_cons_zero, List.length_cons, List.length_nil, List.set_cons_zero, List.set_cons_succ, Option.toList_some, Option.toList_none, List.nil_append, List.cons_append, mj_up_s, true_or, or_true, Nat.sub_zero, and_assoc, b10, not_true_eq_false, not_false_eq_true, false_implies, true_implies, implies_true, eq_self, and_self, rf_some, rf_none]
      exact loop2 (t - s) 0 (by omega) h1 A1 _ v6 v7 v8 hM1 hf1 (by rw [show lC S od s 0 = [] from rfl, List.append_nil]; exact hL1)
    | succ m' ih =>
      intro m hm h1 A1 v6 v7 v8 hM1 hf1 hL1
      obtain ⟨hR1, o14, o14p, z1, b1, z60, o60⟩ := ord m (by omega) A1 hf1
      obtain ⟨q1, q2⟩ := hit (s + m) (by omega) (by omega)
      have em : nI (s + m) + 1 = nI (s + (m + 1)) := nI_1 _
      have cm := nI_cl (show s + m < 2147483648 by omega)
      have vm : vp_in (nI (s + m)) 60 := vp_in_nI (by omega) (by decide)
      have co := nI_cl (show od (s + m) < 2147483648 by omega)
      have vo : vp_in (nI (od (s + m))) 60 := vp_in_nI (by omega) (by decide)
      have i14 := hM1.ar 14 (by omega) (by omega)
      have hsl := sam_le (S := S) (la := lai od s (s + m)) (o := od (s + m))
      have hpm := plc_mono (S := S) (od := od) (s := s) (show m + 1 ≤ t - s by omega)
      have hstep : plc S od s (m + 1) = plc S od s m + (2 + un S (lai od s (s + m)) (od (s + m))) := rfl
      have hun : un S (lai od s (s + m)) (od (s + m)) = S_sz S (od (s + m)) - sam S (lai od s (s + m)) (od (s + m)) := rfl
      have hlen : (lP S od s m).length = 4 * m := lP_len m
      have sh1 : nI (od (s + m)) >>> ((8 : Int32) &&& 31) = nI (od (s + m) / 256) := pk_shrN (by omega) _ 8 (by decide +kernel)
      have an1 : nI (od (s + m)) &&& 255 = nI (od (s + m) % 256) := and255 _ (by omega)
      have sh2 : nI (plc S od s m) >>> ((8 : Int32) &&& 31) = nI (plc S od s m / 256) := pk_shrN (by omega) _ 8 (by decide +kernel)
      have an2 : nI (plc S od s m) &&& 255 = nI (plc S od s m % 256) := and255 _ (by omega)
      have tail : ∀ b, b = nI (sam S (lai od s (s + m)) (od (s + m))) → mj_W (f - 1) (w - (19 + mj_maxL 75)) 75 mj_noZ Q 76 [.ref (AD 6 0), .int (nI p), .int (nI s), .int (nI t), .int (nI (plc S od s m)), .int (nI (s + m)), v6, v7, v8] [.int b] h1 n mc ms := by
        intro b hb
        subst hb
        simp only [sX3_write_76, sX3_write_78, sX3_write_79, sX3_write_80, sX3_write_81, sX3_write_84, sX3_write_86, sX3_write_87, sX3_write_89, hM1.ob, i14, Option.some.injEq, Sum.inr.injEq, Sum.inl.injEq, Prod.mk.injEq, true_and, and_true, exists_eq_left', exists_eq_left, exists_eq_right, exists_eq_right', exists_and_left, exists_and_right, List.getElem?_cons_succ, List.getElem?_cons_zero, List.length_cons, List.length_nil, List.set_cons_zero, List.set_cons_succ, Option.toList_some, Option.toList_none, List.nil_append, List.cons_append, mj_up_s, true_or, or_true, Nat.sub_zero, and_assoc, b10, not_true_eq_false, not_false_eq_true, false_implies, true_implies, implies_true, eq_self, and_self, rf_some, rf_none, cm, o14, sh1]
        refine And.intro vm ?_
        refine sX3_write_90z hM1.ob rfl (r_add1 (by omega) (by show 22 ≤ w - 28; omega) hM1 hnp hL1 (by omega) (fun h2 A2 hM2 hf2 hL2 => ?_))
        have hf2 := hf1.trans hf2
        obtain ⟨hR2, y14, -, y1, y2, -, -⟩ := ord m (by omega) A2 hf2
        have i14 := hM2.ar 14 (by omega) (by omega)
        simp only [sX3_write_93, sX3_write_94, sX3_write_95, sX3_write_96, sX3_write_99, sX3_write_101, sX3_write_102, sX3_write_105, hM2.ob, i14, Option.some.injEq, Sum.inr.injEq, Sum.inl.injEq, Prod.mk.injEq, true_and, and_true, exists_eq_left', exists_eq_left, exists_eq_right, exists_eq_right', exists_and_left, exists_and_right, List.getElem?_cons_succ, List.getElem?_cons_zero, List.length_cons, List.length_nil, List.set_cons_zero, List.set_cons_succ, Option.toList_some, Option.toList_none, List.nil_append, List.cons_append, mj_up_s, true_or, or_true, Nat.sub_zero, and_assoc, b10, not_true_eq_false, not_false_eq_true, false_implies, true_implies, implies_true, eq_self, and_self, rf_some, rf_none, cm, y14, an1]
        refine And.intro vm ?_
        refine sX3_write_106z hM2.ob rfl (r_add1 (by omega) (by show 22 ≤ w - 28; omega) hM2 hnp hL2 (by rw [List.length_append, hlen]; show _ + 1 < _; omega) (fun h3 A3 hM3 hf3 hL3 => ?_))
        have hf3 := hf2.trans hf3
        simp only [sX3_write_109, sX3_write_110, sX3_write_111, sX3_write_113, sX3_write_115, Option.some.injEq, Sum.inr.injEq, Sum.inl.injEq, Prod.mk.injEq, true_and, and_true, exists_eq_left', exists_eq_left, exists_eq_right, exists_eq_right', exists_and_left, exists_and_right, List.getElem?_cons_succ, List.getElem?_cons_zero, List.length_cons, List.length_nil, List.set_cons_zero, List.set_cons_succ, Option.toList_some, Option.toList_none, List.nil_append, List.cons_append, mj_up_s, true_or, or_true, Nat.sub_zero, and_assoc, b10, not_true_eq_false, not_false_eq_true, false_implies, true_implies, implies_true, eq_self, and_self, rf_some, rf_none, sh2]
        refine sX3_write_116z hM3.ob rfl (r_add1 (by omega) (by show 22 ≤ w - 28; omega) hM3 hnp hL3 (by rw [List.length_append, List.length_append, hlen]; show _ + 1 + 1 < _; omega) (fun h4 A4 hM4 hf4 hL4 => ?_))
        have hf4 := hf3.trans hf4
        simp only [sX3_write_119, sX3_write_120, sX3_write_121, sX3_write_123, sX3_write_126, Option.some.injEq, Sum.inr.injEq, Sum.inl.injEq, Prod.mk.injEq, true_and, and_true, exists_eq_left', exists_eq_left, exists_eq_right, exists_eq_right', exists_and_left, exists_and_right, List.getElem?_cons_succ, List.getElem?_cons_zero, List.length_cons, List.length_nil, List.set_cons_zero, List.set_cons_succ, Option.toList_some, Option.toList_none, List.nil_append, List.cons_append, mj_up_s, true_or, or_true, Nat.sub_zero, and_assoc, b10, not_true_eq_false, not_false_eq_true, false_implies, true_implies, implies_true, eq_self, and_self, rf_some, rf_none, an2]
        refine sX3_write_127z hM4.ob rfl (r_add1 (by omega) (by show 22 ≤ w - 28; omega) hM4 hnp hL4 (by rw [List.length_append, List.length_append, List.length_append, hlen]; show _ + 1 + 1 + 1 < _; omega) (fun h5 A5 hM5 hf5 hL5 => ?_))
        have hf5 := hf4.trans hf5
        obtain ⟨hR5, y14, -, y1, y2, -, -⟩ := ord m (by omega) A5 hf5
        have i14 := hM5.ar 14 (by omega) (by omega)
        have i2 := hM5.ar 2 (by omega) (by omega)
        have e2 : (2 : Int32) + nI (S_sz S (od (s + m))) = nI (2 + S_sz S (od (s + m))) := by rw [show (2 : Int32) = nI 2 from rfl, nI_add]
        have e3 : nI (2 + S_sz S (od (s + m))) - nI (sam S (lai od s (s + m)) (od (s + m))) = nI (2 + un S (lai od s (s + m)) (od (s + m))) := by rw [pk_sub (by omega), hun, show 2 + S_sz S (od (s + m)) - sam S (lai od s (s + m)) (od (s + m)) = 2 + (S_sz S (od (s + m)) - sam S (lai od s (s + m)) (od (s + m))) by omega]
        have e4 : nI (plc S od s m) + nI (2 + un S (lai od s (s + m)) (od (s + m))) = nI (plc S od s (m + 1)) := by rw [hstep]; exact nI_add _ _
        have go := ih (m + 1) (by omega) h5 A5 (.int (nI (sam S (lai od s (s + m)) (od (s + m))))) v7 v8 hM5 hf5 (by
          show RW A5 p (lP S od s m ++ [od (s + m) / 256, od (s + m) % 256, plc S od s m / 256, plc S od s m % 256])
          have e : lP S od s m ++ [od (s + m) / 256] ++ [od (s + m) % 256] ++ [plc S od s m / 256] ++ [plc S od s m % 256] = lP S od s m ++ [od (s + m) / 256, od (s + m) % 256, plc S od s m / 256, plc S od s m % 256] := by simp [List.append_assoc]
          rw [← e]; exact hL5)
        simp only [sX3_write_130, sX3_write_132, sX3_write_133, sX3_write_134, sX3_write_137, sX3_write_138, sX3_write_141, sX3_write_143, sX3_write_144, sX3_write_145, sX3_write_146, sX3_write_148, sX3_write_149, sX3_write_150, sX3_write_152, sX3_write_155, hM5.ob, i14, i2, Option.some.injEq, Sum.inr.injEq, Sum.inl.injEq, Prod.mk.injEq, true_and, and_true, exists_eq_left', exists_eq_left, exists_eq_right, exists_eq_right', exists_and_left, exists_and_right, List.getElem?_cons_succ, List.getElem?_cons_zero, List.length_cons, List.length_nil, List.set_cons_zero, List.set_cons_succ, Option.toList_some, Option.toList_none, List.nil_append, List.cons_append, mj_up_s, true_or, or_true, Nat.sub_zero, and_assoc, b10, not_true_eq_false, not_false_eq_true, false_implies, true_implies, implies_true, eq_self, and_self, rf_some, rf_none, cm, y14, co, y1, e2, e3, e4, em]
        exact And.intro vm (And.intro vo go)
      rw [sX3_write_40, sX3_write_42, sX3_write_43]
      refine And.intro (fun c => absurd c (nI_ge (by omega) (by omega))) (fun _ => ?_)
      simp only [sX3_write_46, sX3_write_48, sX3_write_49]
      by_cases hm0 : m = 0
      · refine And.intro (fun c => absurd (by rw [hm0]; rfl) c) (fun _ => ?_)
        simp only [sX3_write_52, sX3_write_53]
        refine tail 0 ?_
        have : lai od s (s + m) = 0 := if_pos (by omega)
        rw [this]; rfl
      · have em1 : nI (s + m) - 1 = nI (s + m - 1) := by rw [show (1 : Int32) = nI 1 from rfl, pk_sub (by omega)]
        obtain ⟨r1, r2⟩ := hit (s + m - 1) (by omega) (by omega)
        refine And.intro (fun _ => ?_) (fun c => absurd (fun e => hm0 (by have := (nI_eq (by omega) (by omega)).mp e; omega)) c)
        simp only [sX3_write_56, sX3_write_57, sX3_write_58, sX3_write_61, sX3_write_63, sX3_write_64, sX3_write_65, sX3_write_68, sX3_write_70, sX3_write_71, sX3_write_72, hM1.ob, i14, Option.some.injEq, Sum.inr.injEq, Sum.inl.injEq, Prod.mk.injEq, true_and, and_true, exists_eq_left', exists_eq_left, exists_eq_right, exists_eq_right', exists_and_left, exists_and_right, List.getElem?_cons_succ, List.getElem?_cons_zero, List.length_cons, List.length_nil, List.set_cons_zero, List.set_cons_succ, Option.toList_some, Option.toList_none, List.nil_append, List.cons_append, mj_up_s, true_or, or_true, Nat.sub_zero, and_assoc, b10, not_true_eq_false, not_false_eq_true, false_implies, true_implies, implies_true, eq_self, and_self, rf_some, rf_none, cm, o14, em1, nI_cl (show s + m - 1 < 2147483648 by omega), o14p]
        refine And.intro vm (And.intro (vp_in_nI (show _ < 60 by omega) (by decide)) ?_)
        refine sX3_write_73z hM1.ob rfl (r_alike (by omega) (by show 23 ≤ w - 28; omega) hM1 hR1 hW q1 r1 q2 r2 ?_)
        refine tail _ ?_
        have : lai od s (s + m) = od (s + m - 1) + 1 := if_neg (by omega)
        rw [this]; rfl
  simp only [sX3_write_34, sX3_write_35, sX3_write_37, sX3_write_38, Option.some.injEq, Sum.inr.injEq, Sum.inl.injEq, Prod.mk.injEq, true_and, and_true, exists_eq_left', exists_eq_left, exists_eq_right, exists_eq_right', exists_and_left, exists_and_right, List.getElem?_cons_succ, List.getElem?_cons_zero, List.length_cons, List.length_nil, List.set_cons_zero, List.set_cons_succ, Option.toList_some, Option.toList_none, List.nil_append, List.cons_append, mj_up_s, true_or, or_true, Nat.sub_zero, and_assoc, b10, not_true_eq_false, not_false_eq_true, false_implies, true_implies, implies_true, eq_self, and_self, rf_some, rf_none]
  exact loop1 (t - s) 0 (by omega) h4 A0 _ _ _ hM4 frB.rf k9
end
