/-! ===== Item, over its own two cells ===== -/
abbrev ITc (i kd o s : Nat) (hm : Value) (ix : Nat) (wt : Int32) : mj_C := .inr (0, [.int (nI i), .int (nI kd), .ref o, .int (nI s), hm, .int (nI ix), .int wt])
abbrev BYc (N : Nat) (g : Nat → Int32) : mj_C := .inl (.byte, N, .inl g)
theorem cell_ne {h : mj_H} {a b : Nat} {c d : mj_C} (ha : h a = some c) (hb : h b = some d) (hne : c ≠ d) : a ≠ b := by
  intro e
  rw [e, hb] at ha
  exact hne (Option.some.inj ha).symm
theorem cell_neA {h : mj_H} {a b : Nat} {c : Nat × List Value} {d : FieldType × vp_A} (ha : h a = some (.inr c)) (hb : h b = some (.inl d)) : a ≠ b := cell_ne ha hb (by intro e; cases e)
theorem mj_up_up {h : mj_H} {a : Nat} {c d : mj_C} : mj_up (mj_up h a c) a d = mj_up h a d := by
  funext b; unfold mj_up; split <;> rfl
theorem mj_up_comm {h : mj_H} {a b : Nat} {c d : mj_C} (hab : a ≠ b) : mj_up (mj_up h a c) b d = mj_up (mj_up h b d) a c := by
  funext q; unfold mj_up
  by_cases h1 : q = a
  · have h2 : ¬ q = b := fun e => hab (h1.symm.trans e)
    simp [h1, hab]
  · simp [h1]
theorem mj_up_id {h : mj_H} {a : Nat} {c : mj_C} (ha : h a = some c) : mj_up h a c = h := by
  funext b; unfold mj_up; split
  · rename_i e; rw [e, ha]
  · rfl
/-- how many bytes from the beginning on are alike, of at most m -/
def alikeN (g1 g2 : Nat → Int32) : Nat → Nat → Nat
  | k, 0 => k
  | k, m + 1 => if g1 k = g2 k then alikeN g1 g2 (k + 1) m else k
section
variable {f w : Nat} {Q : mj_Q} {h : mj_H} {n mc ms x o i kd s ix : Nat} {hm : Value} {wt : Int32} {g : Nat → Int32}
set_option maxRecDepth 100000 in
theorem c_iappend (hf : 1 ≤ f) (hw : 21 ≤ w) (hx : h x = some (ITc i kd o s hm ix wt)) (ho : h o = some (BYc 60 g)) {c : Nat} (hs : s < 60) (hQ : Q (some (.int 1)) (mj_up (mj_up h o (BYc 60 (upd g s (bS c)))) x (ITc i kd o (s + 1) hm ix wt)) n) : mj_bk f w 1 [.ref x, .int (bS c)] h n mc ms Q := by
  have hne := cell_neA hx ho
  have e1 : nI s + 1 = nI (s + 1) := nI_1 s
  refine mj_begin (by omega) (by decide) (by show 21 ≤ w; omega) rfl ?_
  show mj_W _ _ 1 mj_noZ Q 0 [.ref x, .int (bS c)] [] h n mc ms
  simp only [sX0_append_0, sX0_append_1, sX0_append_4, sX0_append_6, sX0_append_9, sX0_append_10, sX0_append_11, sX0_append_12, sX0_append_15, sX0_append_16, sX0_append_19, sX0_append_20, sX0_append_21, sX0_append_22, sX0_append_23, sX0_append_26, sX0_append_27, sX0_append_28, sX0_append_31, sX0_append_32, hx, ho, mj_up_n hne, nfi_0_0, ffi_0_0, nfi_0_1, ffi_0_1, nfr_0_2, ffr_0_2, nfu_0_2, ffu_0_2, nfi_0_3, ffi_0_3, nfr_0_4, ffr_0_4, nfu_0_4, ffu_0_4, nfi_0_5, ffi_0_5, nfz_0_6, ffz_0_6, nfo_0_6, ffo_0_6, Option.some.injEq, Sum.inr.injEq, Sum.inl.injEq, Prod.mk.injEq, true_and, and_true, exists_eq_left', exists_eq_left, exists_eq_right, exists_eq_right', exists_and_left, exists_and_right, List.getElem?_cons_succ, List.getElem?_cons_zero, List.length_cons, List.length_nil, List.set_cons_zero, List.set_cons_succ, Option.toList_some, Option.toList_none, List.nil_append, List.cons_append, mj_up_s, true_or, or_true, Nat.sub_zero, and_assoc, b10, not_true_eq_false, not_false_eq_true, false_implies, true_implies, implies_true, eq_self, and_self, rf_some, rf_none, nar_b0, nar_b1, nI_cl (show s < 2147483648 by omega), bS_nar, e1]
  refine And.intro (fun _ => And.intro (vp_in_nI hs (by decide)) (And.intro (by decide) hQ)) (fun c => absurd (show nI s < nI 60 from nI_lt hs (by decide)) c)
set_option maxRecDepth 100000 in
theorem c_iappendF (hf : 1 ≤ f) (hw : 21 ≤ w) (hx : h x = some (ITc i kd o s hm ix wt)) {c : Nat} (hs : s = 60) (hQ : Q (some (.int 0)) h n) : mj_bk f w 1 [.ref x, .int (bS c)] h n mc ms Q := by
  subst hs
  refine mj_begin (by omega) (by decide) (by show 21 ≤ w; omega) rfl ?_
  show mj_W _ _ 1 mj_noZ Q 0 [.ref x, .int (bS c)] [] h n mc ms
  rw [sX0_append_0, sX0_append_1]
  simp only [hx, Option.some.injEq, Sum.inr.injEq, Sum.inl.injEq, Prod.mk.injEq, true_and, and_true, exists_eq_left', exists_eq_left, exists_eq_right, exists_eq_right', exists_and_left, exists_and_right, List.getElem?_cons_succ, List.getElem?_cons_zero, List.length_cons, List.length_nil, List.set_cons_zero, List.set_cons_succ, Option.toList_some, Option.toList_none, List.nil_append, List.cons_append, mj_up_s, true_or, or_true, Nat.sub_zero, and_assoc, b10, not_true_eq_false, not_false_eq_true, false_implies, true_implies, implies_true, eq_self, and_self, rf_some, rf_none]
  rw [sX0_append_4, sX0_append_6]
  refine And.intro (fun c => absurd c (by decide)) (fun _ => ?_)
  simp only [sX0_append_9, sX0_append_10, Option.some.injEq, Sum.inr.injEq, Sum.inl.injEq, Prod.mk.injEq, true_and, and_true, exists_eq_left', exists_eq_left, exists_eq_right, exists_eq_right', exists_and_left, exists_and_right, List.getElem?_cons_succ, List.getElem?_cons_zero, List.length_cons, List.length_nil, List.set_cons_zero, List.set_cons_succ, Option.toList_some, Option.toList_none, List.nil_append, List.cons_append, mj_up_s, true_or, or_true, Nat.sub_zero, and_assoc, b10, not_true_eq_false, not_false_eq_true, false_implies, true_implies, implies_true, eq_self, and_self, rf_some, rf_none, nar_b0]
  exact hQ
set_option maxRecDepth 100000 in
theorem c_moveInto (hf : 1 ≤ f) (hw : 22 ≤ w) (hx : h x = some (ITc i kd o s hm ix wt)) {a ix2 : Nat} (hQ : Q none (mj_up h x (ITc i kd o 0 (.ref a) ix2 wt)) n) : mj_bk f w 4 [.ref x, .ref a, .int (nI ix2)] h n mc ms Q := by
  refine mj_begin (by omega) (by decide) (by show 22 ≤ w; omega) rfl ?_
  show mj_W _ _ 4 mj_noZ Q 0 [.ref x, .ref a, .int (nI ix2)] [] h n mc ms
  simp only [sX0_moveInto_0, sX0_moveInto_1, sX0_moveInto_1n, sX0_moveInto_2, sX0_moveInto_5, sX0_moveInto_6, sX0_moveInto_7, sX0_moveInto_10, sX0_moveInto_11, sX0_moveInto_12, sX0_moveInto_15, hx, nfi_0_0, ffi_0_0, nfi_0_1, ffi_0_1, nfr_0_2, ffr_0_2, nfu_0_2, ffu_0_2, nfi_0_3, ffi_0_3, nfr_0_4, ffr_0_4, nfu_0_4, ffu_0_4, nfi_0_5, ffi_0_5, nfz_0_6, ffz_0_6, nfo_0_6, ffo_0_6, Option.some.injEq, Sum.inr.injEq, Sum.inl.injEq, Prod.mk.injEq, true_and, and_true, exists_eq_left', exists_eq_left, exists_eq_right, exists_eq_right', exists_and_left, exists_and_right, List.getElem?_cons_succ, List.getElem?_cons_zero, List.length_cons, List.length_nil, List.set_cons_zero, List.set_cons_succ, Option.toList_some, Option.toList_none, List.nil_append, List.cons_append, mj_up_s, true_or, or_true, Nat.sub_zero, and_assoc, b10, not_true_eq_false, not_false_eq_true, false_implies, true_implies, implies_true, eq_self, and_self, rf_some, rf_none, mj_up_up]
  exact And.intro (by decide) (And.intro (by decide) (And.intro (by decide) hQ))
theorem alikeN_le (g1 g2 : Nat → Int32) : ∀ m k, k ≤ alikeN g1 g2 k m ∧ alikeN g1 g2 k m ≤ k + m
  | 0, k => ⟨Nat.le_refl _, Nat.le_refl _⟩
  | m + 1, k => by
    unfold alikeN
    split
    · have := alikeN_le g1 g2 m (k + 1); omega
    · omega
set_option maxRecDepth 100000 in
theorem c_alikeN (hf : 1 ≤ f) (hw : 23 ≤ w) (hQ : Q (some (.int 0)) h n) : mj_bk f w 6 [.ref x, .null] h n mc ms Q := by
  refine mj_begin (by omega) (by decide) (by show 23 ≤ w; omega) rfl ?_
  show mj_W _ _ 6 mj_noZ Q 0 [.ref x, .null, .retAddr 0, .retAddr 0] [] h n mc ms
  simp only [sX0_alike_0n, sX0_alike_1n, sX0_alike_4, sX0_alike_5, Option.some.injEq, Sum.inr.injEq, Sum.inl.injEq, Prod.mk.injEq, true_and, and_true, exists_eq_left', exists_eq_left, exists_eq_right, exists_eq_right', exists_and_left, exists_and_right, List.getElem?_cons_succ, List.getElem?_cons_zero, List.length_cons, List.length_nil, List.set_cons_zero, List.set_cons_succ, Option.toList_some, Option.toList_none, List.nil_append, List.cons_append, mj_up_s, true_or, or_true, Nat.sub_zero, and_assoc, b10, not_true_eq_false, not_false_eq_true, false_implies, true_implies, implies_true, eq_self, and_self, rf_some, rf_none]
  exact hQ
variable {x2 o2 i2 kd2 s2 ix2 : Nat} {hm2 : Value} {wt2 : Int32} {g2 : Nat → Int32}
set_option maxRecDepth 100000 in
theorem c_alike (hf : 2 ≤ f) (hw : 43 ≤ w) (hx : h x = some (ITc i kd o s hm ix wt)) (ho : h o = some (BYc 60 g)) (hx2 : h x2 = some (ITc i2 kd2 o2 s2 hm2 ix2 wt2)) (ho2 : h o2 = some (BYc 60 g2)) (hs : s ≤ 60) (hs2 : s2 ≤ 60) (hQ : Q (some (.int (nI (alikeN g g2 0 (min s s2))))) h n) : mj_bk f w 6 [.ref x, .ref x2] h n mc ms Q := by
  refine mj_begin (by omega) (by decide) (by show 23 ≤ w; omega) rfl ?_
  show mj_W _ _ 6 mj_noZ Q 0 [.ref x, .ref x2, .retAddr 0, .retAddr 0] [] h n mc ms
  have loop : ∀ m k, k + m = min s s2 → Q (some (.int (nI (alikeN g g2 k m)))) h n → mj_W (f - 1) (w - (19 + mj_maxL 6)) 6 mj_noZ Q 20 [.ref x, .ref x2, .int (nI (min s s2)), .int (nI k)] [] h n mc ms := by
    intro m
    induction m with
    | zero =>
      intro k hk hQ
      rw [sX0_alike_20]
      simp only [sX0_alike_0, sX0_alike_0n, sX0_alike_1, sX0_alike_1n, sX0_alike_4, sX0_alike_5, sX0_alike_6, sX0_alike_7, sX0_alike_10, sX0_alike_10n, sX0_alike_11, sX0_alike_17, sX0_alike_18, sX0_alike_19, sX0_alike_21, sX0_alike_22, sX0_alike_25, sX0_alike_26, sX0_alike_29, sX0_alike_30, sX0_alike_31, sX0_alike_31n, sX0_alike_32, sX0_alike_35, sX0_alike_36, sX0_alike_37, sX0_alike_40, sX0_alike_41, sX0_alike_42, sX0_alike_45, sX0_alike_48, sX0_alike_49, hx, hx2, ho, ho2, Option.some.injEq, Sum.inr.injEq, Sum.inl.injEq, Prod.mk.injEq, true_and, and_true, exists_eq_left', exists_eq_left, exists_eq_right, exists_eq_right', exists_and_left, exists_and_right, List.getElem?_cons_succ, List.getElem?_cons_zero, List.length_cons, List.length_nil, List.set_cons_zero, List.set_cons_succ, Option.toList_some, Option.toList_none, List.nil_append, List.cons_append, mj_up_s, true_or, or_true, Nat.sub_zero, and_assoc, b10, not_true_eq_false, not_false_eq_true, false_implies, true_implies, implies_true, eq_self, and_self, rf_some, rf_none]
      obtain rfl : k = min s s2 := by omega
      refine And.intro (fun _ => hQ) (fun c => absurd (nI_le (by omega) (by omega)) c)
    | succ m ih =>
      intro k hk hQ
      have e1 : nI k + 1 = nI (k + 1) := nI_1 k
      rw [sX0_alike_20]
      simp only [sX0_alike_0, sX0_alike_0n, sX0_alike_1, sX0_alike_1n, sX0_alike_4, sX0_alike_5, sX0_alike_6, sX0_alike_7, sX0_alike_10, sX0_alike_10n, sX0_alike_11, sX0_alike_17, sX0_alike_18, sX0_alike_19, sX0_alike_21, sX0_alike_22, sX0_alike_25, sX0_alike_26, sX0_alike_29, sX0_alike_30, sX0_alike_31, sX0_alike_31n, sX0_alike_32, sX0_alike_35, sX0_alike_36, sX0_alike_37, sX0_alike_40, sX0_alike_41, sX0_alike_42, sX0_alike_45, sX0_alike_48, sX0_alike_49, hx, hx2, ho, ho2, Option.some.injEq, Sum.inr.injEq, Sum.inl.injEq, Prod.mk.injEq, true_and, and_true, exists_eq_left', exists_eq_left, exists_eq_right, exists_eq_right', exists_and_left, exists_and_right, List.getElem?_cons_succ, List.getElem?_cons_zero, List.length_cons, List.length_nil, List.set_cons_zero, List.set_cons_succ, Option.toList_some, Option.toList_none, List.nil_append, List.cons_append, mj_up_s, true_or, or_true, Nat.sub_zero, and_assoc, b10, not_true_eq_false, not_false_eq_true, false_implies, true_implies, implies_true, eq_self, and_self, rf_some, rf_none, e1, nI_cl (show k < 2147483648 by omega)]
      refine And.intro (fun c => absurd c (nI_ge (by omega) (by omega))) (fun _ => ?_)
      refine And.intro (vp_in_nI (by omega) (by decide)) (And.intro (vp_in_nI (by omega) (by decide)) ?_)
      unfold alikeN at hQ
      by_cases hc : g k = g2 k
      · rw [if_pos hc] at hQ
        exact And.intro (fun _ => ih (k + 1) (by omega) hQ) (fun c => absurd hc c)
      · rw [if_neg hc] at hQ
        exact And.intro (fun c => absurd c hc) (fun _ => hQ)
  simp only [sX0_alike_0, sX0_alike_0n, sX0_alike_1, sX0_alike_1n, sX0_alike_4, sX0_alike_5, sX0_alike_6, sX0_alike_7, sX0_alike_10, sX0_alike_10n, sX0_alike_11, sX0_alike_17, sX0_alike_18, sX0_alike_19, sX0_alike_21, sX0_alike_22, sX0_alike_25, sX0_alike_26, sX0_alike_29, sX0_alike_30, sX0_alike_31, sX0_alike_31n, sX0_alike_32, sX0_alike_35, sX0_alike_36, sX0_alike_37, sX0_alike_40, sX0_alike_41, sX0_alike_42, sX0_alike_45, sX0_alike_48, sX0_alike_49, hx, hx2, ho, ho2, Option.some.injEq, Sum.inr.injEq, Sum.inl.injEq, Prod.mk.injEq, true_and, and_true, exists_eq_left', exists_eq_left, exists_eq_right, exists_eq_right', exists_and_left, exists_and_right, List.getElem?_cons_succ, List.getElem?_cons_zero, List.length_cons, List.length_nil, List.set_cons_zero, List.set_cons_succ, Option.toList_some, Option.toList_none, List.nil_append, List.cons_append, mj_up_s, true_or, or_true, Nat.sub_zero, and_assoc, b10, not_true_eq_false, not_false_eq_true, false_implies, true_implies, implies_true, eq_self, and_self, rf_some, rf_none]
  refine sX0_alike_14 (by omega) (by simp [Value.category, mj_maxL]; omega) ?_
  have e : (if nI s2 < nI s then nI s2 else nI s) = nI (min s s2) := by
    by_cases hc : s2 < s
    · rw [if_pos (nI_lt hc (by omega))]; congr 1; omega
    · rw [if_neg (nI_nlt (by omega) (by omega))]; congr 1; omega
  rw [e]
  simp only [sX0_alike_0, sX0_alike_0n, sX0_alike_1, sX0_alike_1n, sX0_alike_4, sX0_alike_5, sX0_alike_6, sX0_alike_7, sX0_alike_10, sX0_alike_10n, sX0_alike_11, sX0_alike_17, sX0_alike_18, sX0_alike_19, sX0_alike_21, sX0_alike_22, sX0_alike_25, sX0_alike_26, sX0_alike_29, sX0_alike_30, sX0_alike_31, sX0_alike_31n, sX0_alike_32, sX0_alike_35, sX0_alike_36, sX0_alike_37, sX0_alike_40, sX0_alike_41, sX0_alike_42, sX0_alike_45, sX0_alike_48, sX0_alike_49, hx, hx2, ho, ho2, Option.some.injEq, Sum.inr.injEq, Sum.inl.injEq, Prod.mk.injEq, true_and, and_true, exists_eq_left', exists_eq_left, exists_eq_right, exists_eq_right', exists_and_left, exists_and_right, List.getElem?_cons_succ, List.getElem?_cons_zero, List.length_cons, List.length_nil, List.set_cons_zero, List.set_cons_succ, Option.toList_some, Option.toList_none, List.nil_append, List.cons_append, mj_up_s, true_or, or_true, Nat.sub_zero, and_assoc, b10, not_true_eq_false, not_false_eq_true, false_implies, true_implies, implies_true, eq_self, and_self, rf_some, rf_none]
  exact loop (min s s2) 0 (by omega) hQ
set_option maxRecDepth 100000 in
theorem c_unlikeN (hf : 2 ≤ f) (hw : 44 ≤ w) (hx : h x = some (ITc i kd o s hm ix wt)) (hQ : Q (some (.int (nI s))) h n) : mj_bk f w 7 [.ref x, .null] h n mc ms Q := by
  refine mj_begin (by omega) (by decide) (by show 21 ≤ w; omega) rfl ?_
  show mj_W _ _ 7 mj_noZ Q 0 [.ref x, .null] [] h n mc ms
  simp only [sX0_unlike_0, sX0_unlike_1, sX0_unlike_4, sX0_unlike_5, sX0_unlike_5n, sX0_unlike_9, sX0_unlike_10, hx, Option.some.injEq, Sum.inr.injEq, Sum.inl.injEq, Prod.mk.injEq, true_and, and_true, exists_eq_left', exists_eq_left, exists_eq_right, exists_eq_right', exists_and_left, exists_and_right, List.getElem?_cons_succ, List.getElem?_cons_zero, List.length_cons, List.length_nil, List.set_cons_zero, List.set_cons_succ, Option.toList_some, Option.toList_none, List.nil_append, List.cons_append, mj_up_s, true_or, or_true, Nat.sub_zero, and_assoc, b10, not_true_eq_false, not_false_eq_true, false_implies, true_implies, implies_true, eq_self, and_self, rf_some, rf_none]
  refine sX0_unlike_6z hx rfl (c_alikeN (by omega) (by show 23 ≤ w - 21; omega) ?_)
  simp only [sX0_unlike_0, sX0_unlike_1, sX0_unlike_4, sX0_unlike_5, sX0_unlike_5n, sX0_unlike_9, sX0_unlike_10, hx, Option.some.injEq, Sum.inr.injEq, Sum.inl.injEq, Prod.mk.injEq, true_and, and_true, exists_eq_left', exists_eq_left, exists_eq_right, exists_eq_right', exists_and_left, exists_and_right, List.getElem?_cons_succ, List.getElem?_cons_zero, List.length_cons, List.length_nil, List.set_cons_zero, List.set_cons_succ, Option.toList_some, Option.toList_none, List.nil_append, List.cons_append, mj_up_s, true_or, or_true, Nat.sub_zero, and_assoc, b10, not_true_eq_false, not_false_eq_true, false_implies, true_implies, implies_true, eq_self, and_self, rf_some, rf_none]
  have e : nI s - 0 = nI s := by rw [show (0 : Int32) = nI 0 from rfl, pk_sub (Nat.zero_le _)]; rfl
  rw [e]; exact hQ
set_option maxRecDepth 100000 in
theorem c_unlike (hf : 3 ≤ f) (hw : 64 ≤ w) (hx : h x = some (ITc i kd o s hm ix wt)) (ho : h o = some (BYc 60 g)) (hx2 : h x2 = some (ITc i2 kd2 o2 s2 hm2 ix2 wt2)) (ho2 : h o2 = some (BYc 60 g2)) (hs : s ≤ 60) (hs2 : s2 ≤ 60) (hQ : Q (some (.int (nI (s - alikeN g g2 0 (min s s2))))) h n) : mj_bk f w 7 [.ref x, .ref x2] h n mc ms Q := by
  refine mj_begin (by omega) (by decide) (by show 21 ≤ w; omega) rfl ?_
  show mj_W _ _ 7 mj_noZ Q 0 [.ref x, .ref x2] [] h n mc ms
  simp only [sX0_unlike_0, sX0_unlike_1, sX0_unlike_4, sX0_unlike_5, sX0_unlike_5n, sX0_unlike_9, sX0_unlike_10, hx, Option.some.injEq, Sum.inr.injEq, Sum.inl.injEq, Prod.mk.injEq, true_and, and_true, exists_eq_left', exists_eq_left, exists_eq_right, exists_eq_right', exists_and_left, exists_and_right, List.getElem?_cons_succ, List.getElem?_cons_zero, List.length_cons, List.length_nil, List.set_cons_zero, List.set_cons_succ, Option.toList_some, Option.toList_none, List.nil_append, List.cons_append, mj_up_s, true_or, or_true, Nat.sub_zero, and_assoc, b10, not_true_eq_false, not_false_eq_true, false_implies, true_implies, implies_true, eq_self, and_self, rf_some, rf_none]
  refine sX0_unlike_6z hx rfl (c_alike (by omega) (by show 43 ≤ w - 21; omega) hx ho hx2 ho2 hs hs2 ?_)
  simp only [sX0_unlike_0, sX0_unlike_1, sX0_unlike_4, sX0_unlike_5, sX0_unlike_5n, sX0_unlike_9, sX0_unlike_10, hx, Option.some.injEq, Sum.inr.injEq, Sum.inl.injEq, Prod.mk.injEq, true_and, and_true, exists_eq_left', exists_eq_left, exists_eq_right, exists_eq_right', exists_and_left, exists_and_right, List.getElem?_cons_succ, List.getElem?_cons_zero, List.length_cons, List.length_nil, List.set_cons_zero, List.set_cons_succ, Option.toList_some, Option.toList_none, List.nil_append, List.cons_append, mj_up_s, true_or, or_true, Nat.sub_zero, and_assoc, b10, not_true_eq_false, not_false_eq_true, false_implies, true_implies, implies_true, eq_self, and_self, rf_some, rf_none]
  have := alikeN_le g g2 (min s s2) 0
  rw [pk_sub (by omega)]; exact hQ
/-- how many bytes an object has; none: LOST -/
def S_size (S : St) (i : Nat) : Option Nat := if S_pk S i = 0 then some (S_sz S i) else if S_th S (S_pk S i - 1) (S_ix S i) = true ∧ S_num S (S_pk S i - 1) (S_ix S i) 0 = i then S_cl S (S_pk S i - 1) (S_ix S i) else none
set_option maxRecDepth 100000 in
theorem c_lengthO (hf : 1 ≤ f) (hw : 20 ≤ w) (hx : h x = some (ITc i kd o s .null ix wt)) (hQ : Q (some (.int (nI s))) h n) : mj_bk f w 2 [.ref x] h n mc ms Q := by
  refine mj_begin (by omega) (by decide) (by show 20 ≤ w; omega) rfl ?_
  show mj_W _ _ 2 mj_noZ Q 0 [.ref x] [] h n mc ms
  simp only [sX0_length_0, sX0_length_1, hx, Option.some.injEq, Sum.inr.injEq, Sum.inl.injEq, Prod.mk.injEq, true_and, and_true, exists_eq_left', exists_eq_left, exists_eq_right, exists_eq_right', exists_and_left, exists_and_right, List.getElem?_cons_succ, List.getElem?_cons_zero, List.length_cons, List.length_nil, List.set_cons_zero, List.set_cons_succ, Option.toList_some, Option.toList_none, List.nil_append, List.cons_append, mj_up_s, true_or, or_true, Nat.sub_zero, and_assoc, b10, not_true_eq_false, not_false_eq_true, false_implies, true_implies, implies_true, eq_self, and_self, rf_some, rf_none, sX0_length_4n, sX0_length_7, sX0_length_8, sX0_length_11]
  exact hQ
set_option maxRecDepth 100000 in
theorem c_lengthI {a p : Nat} {S : St} (hf : 5 ≤ f) (hw : 113 ≤ w) (hx : h x = some (ITc i kd o s (.ref a) ix wt)) (hP : PK h a p S) (hi : i < 60) (hix : ix ≤ 99) (hQ : Q (some (.int (oI (if S_th S p ix = true ∧ S_num S p ix 0 = i then S_cl S p ix else none)))) h n) : mj_bk f w 2 [.ref x] h n mc ms Q := by
  have hP2 := hP
  obtain ⟨q, g, b, ha, hq, hg, hok⟩ := hP2
  have hn := S_num_lt (S := S) (p := p) (k := ix) (wh := 0) hok.2.2.2
  refine mj_begin (by omega) (by decide) (by show 20 ≤ w; omega) rfl ?_
  show mj_W _ _ 2 mj_noZ Q 0 [.ref x] [] h n mc ms
  simp only [sX0_length_0, sX0_length_1, sX0_length_4, sX0_length_4n, sX0_length_7, sX0_length_8, sX0_length_11, sX0_length_12, sX0_length_13, sX0_length_16, sX0_length_17, sX0_length_20, sX0_length_24, sX0_length_25, sX0_length_28, sX0_length_31, sX0_length_32, sX0_length_35, sX0_length_36, sX0_length_42, sX0_length_45, sX0_length_46, hx, Option.some.injEq, Sum.inr.injEq, Sum.inl.injEq, Prod.mk.injEq, true_and, and_true, exists_eq_left', exists_eq_left, exists_eq_right, exists_eq_right', exists_and_left, exists_and_right, List.getElem?_cons_succ, List.getElem?_cons_zero, List.length_cons, List.length_nil, List.set_cons_zero, List.set_cons_succ, Option.toList_some, Option.toList_none, List.nil_append, List.cons_append, mj_up_s, true_or, or_true, Nat.sub_zero, and_assoc, b10, not_true_eq_false, not_false_eq_true, false_implies, true_implies, implies_true, eq_self, and_self, rf_some, rf_none]
  refine sX0_length_21z ha rfl (c_numberOf (wh := 0) (by omega) (by show 45 ≤ w - 20; omega) hP (by omega) ?_)
  rw [S_thI_n (by omega), nI_cl (by omega)]
  by_cases hc : S_th S p ix = true
  · rw [if_pos hc]
    simp only [sX0_length_0, sX0_length_1, sX0_length_4, sX0_length_4n, sX0_length_7, sX0_length_8, sX0_length_11, sX0_length_12, sX0_length_13, sX0_length_16, sX0_length_17, sX0_length_20, sX0_length_24, sX0_length_25, sX0_length_28, sX0_length_31, sX0_length_32, sX0_length_35, sX0_length_36, sX0_length_42, sX0_length_45, sX0_length_46, hx, Option.some.injEq, Sum.inr.injEq, Sum.inl.injEq, Prod.mk.injEq, true_and, and_true, exists_eq_left', exists_eq_left, exists_eq_right, exists_eq_right', exists_and_left, exists_and_right, List.getElem?_cons_succ, List.getElem?_cons_zero, List.length_cons, List.length_nil, List.set_cons_zero, List.set_cons_succ, Option.toList_some, Option.toList_none, List.nil_append, List.cons_append, mj_up_s, true_or, or_true, Nat.sub_zero, and_assoc, b10, not_true_eq_false, not_false_eq_true, false_implies, true_implies, implies_true, eq_self, and_self, rf_some, rf_none]
    by_cases hc2 : S_num S p ix 0 = i
    · rw [if_pos ⟨hc, hc2⟩] at hQ
      refine And.intro (fun c => absurd (by rw [hc2]) c) (fun _ => ?_)
      refine sX0_length_39z ha rfl (c_contentLength (by omega) (by show 93 ≤ w - 20; omega) hP ?_)
      rw [S_thI_n (by omega), nI_cl (by omega), if_pos hc]
      simp only [sX0_length_0, sX0_length_1, sX0_length_4, sX0_length_4n, sX0_length_7, sX0_length_8, sX0_length_11, sX0_length_12, sX0_length_13, sX0_length_16, sX0_length_17, sX0_length_20, sX0_length_24, sX0_length_25, sX0_length_28, sX0_length_31, sX0_length_32, sX0_length_35, sX0_length_36, sX0_length_42, sX0_length_45, sX0_length_46, hx, Option.some.injEq, Sum.inr.injEq, Sum.inl.injEq, Prod.mk.injEq, true_and, and_true, exists_eq_left', exists_eq_left, exists_eq_right, exists_eq_right', exists_and_left, exists_and_right, List.getElem?_cons_succ, List.getElem?_cons_zero, List.length_cons, List.length_nil, List.set_cons_zero, List.set_cons_succ, Option.toList_some, Option.toList_none, List.nil_append, List.cons_append, mj_up_s, true_or, or_true, Nat.sub_zero, and_assoc, b10, not_true_eq_false, not_false_eq_true, false_implies, true_implies, implies_true, eq_self, and_self, rf_some, rf_none]
      exact hQ
    · rw [if_neg (fun c => hc2 c.2)] at hQ
      refine And.intro (fun _ => hQ) (fun c => absurd (fun e => hc2 ((nI_eq (by omega) (by omega)).mp e)) c)
  · rw [if_neg hc]
    rw [if_neg (fun c => hc c.1)] at hQ
    simp only [sX0_length_0, sX0_length_1, sX0_length_4, sX0_length_4n, sX0_length_7, sX0_length_8, sX0_length_11, sX0_length_12, sX0_length_13, sX0_length_16, sX0_length_17, sX0_length_20, sX0_length_24, sX0_length_25, sX0_length_28, sX0_length_31, sX0_length_32, sX0_length_35, sX0_length_36, sX0_length_42, sX0_length_45, sX0_length_46, hx, Option.some.injEq, Sum.inr.injEq, Sum.inl.injEq, Prod.mk.injEq, true_and, and_true, exists_eq_left', exists_eq_left, exists_eq_right, exists_eq_right', exists_and_left, exists_and_right, List.getElem?_cons_succ, List.getElem?_cons_zero, List.length_cons, List.length_nil, List.set_cons_zero, List.set_cons_succ, Option.toList_some, Option.toList_none, List.nil_append, List.cons_append, mj_up_s, true_or, or_true, Nat.sub_zero, and_assoc, b10, not_true_eq_false, not_false_eq_true, false_implies, true_implies, implies_true, eq_self, and_self, rf_some, rf_none]
    refine And.intro (fun _ => hQ) (fun c => absurd (fun e => ?_) c)
    have := nI_tI (n := i) (by omega)
    rw [← e] at this
    simp only [i32_m1] at this
    omega
end
