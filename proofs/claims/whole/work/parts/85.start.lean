/-! ===== the law's beginning ===== -/
def S0 : St := fun _ _ _ => 0
def AD0 (sc n : Nat) : Ad := fun k i => match k with
  | 0 => n + 1 + i
  | 5 => n
  | 6 => n + 7 + i
  | 7 => sc
  | 8 => n + 24
  | _ => 0
def C0 (sc n len : Nat) (sg : Nat → Int32) : Ct := fun k i => match k with
  | 0 => osCell i
  | 5 => OSc (AD0 sc n) S0 0
  | 6 => if i = 0 then MOc (AD0 sc n) (fun _ => 0) else MAc i (fun _ => 0)
  | 7 => scC len sg
  | _ => ouC (fun _ => 0)
theorem OK0 : OK S0 := by
  refine ⟨⟨Nat.zero_le _, Nat.zero_le _, Nat.zero_le _, fun i hi => absurd hi (Nat.not_lt_zero _), fun i j => by show 0 < 256; omega, fun p hp => absurd hp (Nat.not_lt_zero _)⟩, fun r hr => ?_⟩
  have hr : r ≤ 0 := hr
  obtain rfl : r = 0 := by omega
  rfl
section
variable {f w : Nat} {Z : mj_K} {Q : mj_Q} {h : mj_H} {n rc rs : Nat} {len sc : Nat} {sg : Nat → Int32}
theorem GX0 {h1 h2 : mj_H} (hsn : sc < n) (hsc : h sc = some (scC len sg)) (I1 : INI (mj_up h n (.inr (2, mj_new 2))) h1 n (n + 1) 6 2 osCell [.ref (n + 1 + 0), .int 0, .ref (n + 1 + 1), .int 0, .ref (n + 1 + 2), .ref (n + 1 + 3), .int 0, .ref (n + 1 + 4), .int 0, .ref (n + 1 + 5)])
    (I2 : INI (mj_up h1 (n + 7) (.inr (3, mj_new 3))) h2 (n + 7) (n + 8) 16 3 rfCell [.int 0, .int 0, .ref (n + 8 + 0), .ref (n + 8 + 1), .ref (n + 8 + 2), .ref (n + 8 + 3), .ref (n + 8 + 4), .int 0, .ref (n + 8 + 5), .ref (n + 8 + 6), .ref (n + 8 + 7), .ref (n + 8 + 8), .ref (n + 8 + 9), .ref (n + 8 + 10), .int 0, .int 0, .ref (n + 8 + 11), .ref (n + 8 + 12), .ref (n + 8 + 13), .ref (n + 8 + 14), .ref (n + 8 + 15), .int 0]) :
    GX S0 S0 (n + 25) (mj_up h2 (n + 24) (ouC (fun _ => 0))) (AD0 sc n) len sg (fun _ => 0) (fun _ _ => 0) (fun _ => 0) (C0 sc n len sg) := by
  have vs : ∀ k i, VS S0 k i → (k = 0 ∧ i < 6) ∨ (k = 5 ∧ i = 0) ∨ (k = 6 ∧ i < 17) ∨ (k = 7 ∧ i = 0) ∨ (k = 8 ∧ i = 0) := by
    intro k i hv
    match k, hv with
    | 0, hv => exact Or.inl ⟨rfl, hv⟩
    | 1, hv => exact absurd hv (Nat.not_lt_zero _)
    | 2, hv => exact absurd hv (Nat.not_lt_zero _)
    | 3, hv => exact absurd hv (Nat.not_lt_zero _)
    | 4, hv => exact absurd hv (Nat.not_lt_zero _)
    | 5, hv => exact Or.inr (Or.inl ⟨rfl, hv⟩)
    | 6, hv => exact Or.inr (Or.inr (Or.inl ⟨rfl, hv⟩))
    | 7, hv => exact Or.inr (Or.inr (Or.inr (Or.inl ⟨rfl, hv⟩)))
    | 8, hv => exact Or.inr (Or.inr (Or.inr (Or.inr ⟨rfl, hv⟩)))
    | k + 9, hv => exact hv.elim
  refine ⟨⟨fun k i hv => ?_, fun k i k' i' hv hv' e => ?_, fun k i hv => ?_⟩, ?_, rfl, fun j h1 h2 => ?_, ?_, rfl, rfl⟩
  · rcases vs k i hv with ⟨rfl, hi⟩ | ⟨rfl, rfl⟩ | ⟨rfl, hi⟩ | ⟨rfl, rfl⟩ | ⟨rfl, rfl⟩
    · show mj_up h2 (n + 24) _ (n + 1 + i) = some (osCell i)
      rw [mj_up_n (by omega), I2.2.1 _ (by omega) (by omega), mj_up_n (by omega)]
      exact I1.1 i hi
    · show mj_up h2 (n + 24) _ n = some (OSc (AD0 sc n) S0 0)
      rw [mj_up_n (by omega), I2.2.1 _ (by omega) (by omega), mj_up_n (by omega)]
      exact I1.2.2
    · show mj_up h2 (n + 24) _ (n + 7 + i) = some (if i = 0 then MOc (AD0 sc n) (fun _ => 0) else MAc i (fun _ => 0))
      rw [mj_up_n (by omega)]
      by_cases e : i = 0
      · subst e
        rw [if_pos rfl]
        exact I2.2.2
      · rw [if_neg e]
        have := I2.1 (i - 1) (by omega)
        rw [show n + 8 + (i - 1) = n + 7 + i by omega] at this
        rw [this]
        show some (MAc (i - 1 + 1) (fun _ => 0)) = _
        rw [show i - 1 + 1 = i by omega]
    · show mj_up h2 (n + 24) _ sc = some (scC len sg)
      rw [mj_up_n (by omega), I2.2.1 _ (by omega) (by omega), mj_up_n (by omega), I1.2.1 _ (by omega) (by omega), mj_up_n (by omega)]
      exact hsc
    · show mj_up h2 (n + 24) _ (n + 24) = _
      rw [mj_up_s]; rfl
  · rcases vs k i hv with ⟨rfl, hi⟩ | ⟨rfl, rfl⟩ | ⟨rfl, hi⟩ | ⟨rfl, rfl⟩ | ⟨rfl, rfl⟩ <;> rcases vs k' i' hv' with ⟨rfl, hi'⟩ | ⟨rfl, rfl⟩ | ⟨rfl, hi'⟩ | ⟨rfl, rfl⟩ | ⟨rfl, rfl⟩ <;> simp only [AD0] at e <;> omega
  · rcases vs k i hv with ⟨rfl, hi⟩ | ⟨rfl, rfl⟩ | ⟨rfl, hi⟩ | ⟨rfl, rfl⟩ | ⟨rfl, rfl⟩ <;> simp only [AD0] <;> omega
  · refine ⟨⟨0, rfl⟩, ⟨_, rfl, fun i hi => absurd hi (Nat.not_lt_zero _)⟩, ⟨_, rfl, fun i hi => absurd hi (Nat.not_lt_zero _)⟩, ⟨_, rfl, fun i hi => absurd hi (Nat.not_lt_zero _)⟩, ⟨_, rfl, fun i hi => absurd hi (Nat.not_lt_zero _)⟩, ⟨_, rfl⟩, ⟨_, rfl⟩, fun i hi => absurd hi (Nat.not_lt_zero _), fun i hi => absurd hi (Nat.not_lt_zero _), fun i hi => absurd hi (Nat.not_lt_zero _), fun i hi => absurd hi (Nat.not_lt_zero _)⟩
  · show (if j = 0 then MOc (AD0 sc n) (fun _ => 0) else MAc j (fun _ => 0)) = _
    rw [if_neg (by omega)]
  · exact ⟨rfl, rfl, rfl, fun i hi => absurd hi (Nat.not_lt_zero _), fun i _ => ⟨rfl, rfl⟩, fun i hi => absurd hi (Nat.not_lt_zero _), fun i hi => absurd hi (Nat.not_lt_zero _)⟩
set_option maxRecDepth 100000 in
theorem t_start (hf : 7 ≤ f) (hw : 164 ≤ w) (hsn : sc < n) (hsc : h sc = some (scC len sg)) (hc : 25 + bc 0 S0 ≤ rc) (hs : 18000 + bs 0 S0 ≤ rs) {v1 v2 v3 v4 v5 v6 : Value}
    (hN : ∀ AD X A og C h n rc rs v5 v6, GX S0 S0 n h AD len sg X A og C → bc 0 S0 ≤ rc → bs 0 S0 ≤ rs → Z 23 (LSt AD 0 v5 v6) [] h n rc rs) : mj_W f w 89 (mj_Zl Z) Q 0 [.ref sc, v1, v2, v3, v4, v5, v6] [] h n rc rs := by
  have n2 : mj_N 2 = 10 := by decide
  have n3 : mj_N 3 = 22 := by decide
  rw [sL_law_0, n2]
  refine ⟨by omega, by omega, ?_⟩
  simp only [sL_law_3]
  refine sL_law_4 6 358 mj_up_s rfl (by omega) (by omega) (c_osinit (by omega) (by omega) (by omega) (by omega) mj_up_s (by omega) (fun h1 I1 => ?_))
  simp only [sL_law_7, Option.some.injEq, Sum.inr.injEq, Sum.inl.injEq, Prod.mk.injEq, true_and, and_true, exists_eq_left', exists_eq_left, exists_eq_right, exists_eq_right', exists_and_left, exists_and_right, List.getElem?_cons_succ, List.getElem?_cons_zero, List.length_cons, List.length_nil, List.set_cons_zero, List.set_cons_succ, Option.toList_some, Option.toList_none, List.nil_append, List.cons_append, mj_up_s, true_or, or_true, Nat.sub_zero, and_assoc, b10, not_true_eq_false, not_false_eq_true, false_implies, true_implies, implies_true, eq_self, and_self, rf_some, rf_none]
  rw [sL_law_8, n3]
  refine ⟨by omega, by omega, ?_⟩
  simp only [sL_law_11]
  refine sL_law_12 16 16940 mj_up_s rfl (by omega) (by omega) (r_init (by omega) (by omega) (by omega) (by omega) mj_up_s (by omega) (fun h2 I2 => ?_))
  simp only [sL_law_15, sL_law_16, sL_law_17, Option.some.injEq, Sum.inr.injEq, Sum.inl.injEq, Prod.mk.injEq, true_and, and_true, exists_eq_left', exists_eq_left, exists_eq_right, exists_eq_right', exists_and_left, exists_and_right, List.getElem?_cons_succ, List.getElem?_cons_zero, List.length_cons, List.length_nil, List.set_cons_zero, List.set_cons_succ, Option.toList_some, Option.toList_none, List.nil_append, List.cons_append, mj_up_s, true_or, or_true, Nat.sub_zero, and_assoc, b10, not_true_eq_false, not_false_eq_true, false_implies, true_implies, implies_true, eq_self, and_self, rf_some, rf_none]
  refine ⟨by omega, by omega, ?_⟩
  simp only [sL_law_19, sL_law_20, sL_law_21]
  have G := GX0 (h := h) (h1 := h1) (h2 := h2) hsn hsc I1 I2
  exact mj_cut rfl (hN _ _ _ _ _ _ _ _ _ _ _ G (by omega) (by omega))
end
