/-! ===== Item and Pack: what writes their own two cells ===== -/
abbrev PKc (p c f q l : Nat) (b : Value) : mj_C := .inr (1, [.int (nI p), .int (nI c), .int (nI f), .ref q, .int (nI l), b])
theorem bS_mod : ∀ v, v < 1024 → bS v = bS (v % 256) := by decide +kernel
theorem up_step {h : mj_H} {o x : Nat} {A B A' B' : mj_C} (hne : x ≠ o) : mj_up (mj_up (mj_up (mj_up h o A) x B) o A') x B' = mj_up (mj_up h o A') x B' := by
  rw [mj_up_comm (a := x) (b := o) hne, mj_up_up, mj_up_up]
theorem up_last {h : mj_H} {o x : Nat} {A B B' : mj_C} : mj_up (mj_up (mj_up h o A) x B) x B' = mj_up (mj_up h o A) x B' := mj_up_up
theorem PK_upI {h : mj_H} {a p x : Nat} {S : St} {c : Nat × List Value} {d : mj_C} (hP : PK h a p S) (hx : h x = some (.inr c)) (hc : c.1 ≠ 1) : PK (mj_up h x d) a p S := by
  obtain ⟨q, g, b, ha, hq, hg, hok⟩ := hP
  refine ⟨q, g, b, ?_, ?_, hg, hok⟩
  · rw [mj_up_n (cell_ne ha hx (by intro e; cases e; exact hc rfl))]; exact ha
  · rw [mj_up_n (Ne.symm (cell_neA hx hq))]; exact hq
theorem PK_upB {h : mj_H} {a p o : Nat} {S : St} {g0 : Nat → Int32} {d : mj_C} (hP : PK h a p S) (ho : h o = some (BYc 60 g0)) : PK (mj_up h o d) a p S := by
  obtain ⟨q, g, b, ha, hq, hg, hok⟩ := hP
  refine ⟨q, g, b, ?_, ?_, hg, hok⟩
  · rw [mj_up_n (cell_neA ha ho)]; exact ha
  · rw [mj_up_n (cell_ne hq ho (by intro e; cases e))]; exact hq
section
variable {f w : Nat} {Q : mj_Q} {h : mj_H} {n mc ms x o i kd s ix : Nat} {hm : Value} {wt : Int32} {g : Nat → Int32}
set_option maxRecDepth 100000 in
theorem c_ibyteO (hf : 1 ≤ f) (hw : 21 ≤ w) (hx : h x = some (ITc i kd o s .null ix wt)) (ho : h o = some (BYc 60 g)) {j : Nat} (hj : j < s) (hs : s ≤ 60) (hb : narrow .byte (.int (g j)) = .int (g j)) (hQ : Q (some (.int (g j))) h n) : mj_bk f w 3 [.ref x, .int (nI j)] h n mc ms Q := by
  refine mj_begin (by omega) (by decide) (by show 21 ≤ w; omega) rfl ?_
  show mj_W _ _ 3 mj_noZ Q 0 [.ref x, .int (nI j)] [] h n mc ms
  simp only [sX0_byteAt_0, sX0_byteAt_1, sX0_byteAt_4, sX0_byteAt_4n, sX0_byteAt_7, sX0_byteAt_8, sX0_byteAt_11, sX0_byteAt_12, sX0_byteAt_15, sX0_byteAt_19, sX0_byteAt_20, sX0_byteAt_21, sX0_byteAt_24, sX0_byteAt_25, sX0_byteAt_26, sX0_byteAt_29, sX0_byteAt_32, sX0_byteAt_33, sX0_byteAt_36, sX0_byteAt_37, sX0_byteAt_38, sX0_byteAt_41, sX0_byteAt_42, hx, ho, Option.some.injEq, Sum.inr.injEq, Sum.inl.injEq, Prod.mk.injEq, true_and, and_true, exists_eq_left', exists_eq_left, exists_eq_right, exists_eq_right', exists_and_left, exists_and_right, List.getElem?_cons_succ, List.getElem?_cons_zero, List.length_cons, List.length_nil, List.set_cons_zero, List.set_cons_succ, Option.toList_some, Option.toList_none, List.nil_append, List.cons_append, mj_up_s, true_or, or_true, Nat.sub_zero, and_assoc, b10, not_true_eq_false, not_false_eq_true, false_implies, true_implies, implies_true, eq_self, and_self, rf_some, rf_none, nI_cl (show j < 2147483648 by omega), hb]
  refine And.intro (fun c => absurd c (nI_pos (by omega))) (fun _ => And.intro (fun c => absurd c (nI_ge (by omega) (by omega))) (fun _ => And.intro (vp_in_nI (by omega) (by decide)) hQ))
set_option maxRecDepth 100000 in
theorem c_ibyteI {a p : Nat} {S : St} (hf : 4 ≤ f) (hw : 91 ≤ w) (hx : h x = some (ITc i kd o s (.ref a) ix wt)) (hP : PK h a p S) {j L : Nat} (hL : S_cl S p ix = some L) (hj : j < L) (hQ : Q (some (.int (bS (S_cb S p ix j)))) h n) : mj_bk f w 3 [.ref x, .int (nI j)] h n mc ms Q := by
  have hP2 := hP
  obtain ⟨q, g, b, ha, hq, hg, hok⟩ := hP2
  refine mj_begin (by omega) (by decide) (by show 21 ≤ w; omega) rfl ?_
  show mj_W _ _ 3 mj_noZ Q 0 [.ref x, .int (nI j)] [] h n mc ms
  simp only [sX0_byteAt_0, sX0_byteAt_1, sX0_byteAt_4, sX0_byteAt_4n, sX0_byteAt_7, sX0_byteAt_8, sX0_byteAt_11, sX0_byteAt_12, sX0_byteAt_15, sX0_byteAt_19, sX0_byteAt_20, sX0_byteAt_21, sX0_byteAt_24, sX0_byteAt_25, sX0_byteAt_26, sX0_byteAt_29, sX0_byteAt_32, sX0_byteAt_33, sX0_byteAt_36, sX0_byteAt_37, sX0_byteAt_38, sX0_byteAt_41, sX0_byteAt_42, hx, Option.some.injEq, Sum.inr.injEq, Sum.inl.injEq, Prod.mk.injEq, true_and, and_true, exists_eq_left', exists_eq_left, exists_eq_right, exists_eq_right', exists_and_left, exists_and_right, List.getElem?_cons_succ, List.getElem?_cons_zero, List.length_cons, List.length_nil, List.set_cons_zero, List.set_cons_succ, Option.toList_some, Option.toList_none, List.nil_append, List.cons_append, mj_up_s, true_or, or_true, Nat.sub_zero, and_assoc, b10, not_true_eq_false, not_false_eq_true, false_implies, true_implies, implies_true, eq_self, and_self, rf_some, rf_none]
  refine sX0_byteAt_16z ha rfl (c_contentByte (by omega) (by show 70 ≤ w - 21; omega) hP hL hj ?_)
  simp only [sX0_byteAt_0, sX0_byteAt_1, sX0_byteAt_4, sX0_byteAt_4n, sX0_byteAt_7, sX0_byteAt_8, sX0_byteAt_11, sX0_byteAt_12, sX0_byteAt_15, sX0_byteAt_19, sX0_byteAt_20, sX0_byteAt_21, sX0_byteAt_24, sX0_byteAt_25, sX0_byteAt_26, sX0_byteAt_29, sX0_byteAt_32, sX0_byteAt_33, sX0_byteAt_36, sX0_byteAt_37, sX0_byteAt_38, sX0_byteAt_41, sX0_byteAt_42, hx, Option.some.injEq, Sum.inr.injEq, Sum.inl.injEq, Prod.mk.injEq, true_and, and_true, exists_eq_left', exists_eq_left, exists_eq_right, exists_eq_right', exists_and_left, exists_and_right, List.getElem?_cons_succ, List.getElem?_cons_zero, List.length_cons, List.length_nil, List.set_cons_zero, List.set_cons_succ, Option.toList_some, Option.toList_none, List.nil_append, List.cons_append, mj_up_s, true_or, or_true, Nat.sub_zero, and_assoc, b10, not_true_eq_false, not_false_eq_true, false_implies, true_implies, implies_true, eq_self, and_self, rf_some, rf_none, bS_narrow]
  exact hQ
set_option maxRecDepth 100000 in
theorem c_moveOutL (hf : 1 ≤ f) (hw : 22 ≤ w) (hx : h x = some (ITc i kd o s hm ix wt)) (hQ : Q none (mj_up h x (ITc i kd o s .null ix wt)) n) : mj_bk f w 5 [.ref x, .int (-1)] h n mc ms Q := by
  refine mj_begin (by omega) (by decide) (by show 22 ≤ w; omega) rfl ?_
  show mj_W _ _ 5 mj_noZ Q 0 [.ref x, .int (-1), .retAddr 0] [] h n mc ms
  rw [sX0_moveOut_0, sX0_moveOut_1, sX0_moveOut_2, sX0_moveOut_3, sX0_moveOut_4]
  refine And.intro (fun _ => ?_) (fun c => absurd (by decide) c)
  simp only [sX0_moveOut_29, sX0_moveOut_30, sX0_moveOut_31, sX0_moveOut_34, hx, nfi_0_0, ffi_0_0, nfi_0_1, ffi_0_1, nfr_0_2, ffr_0_2, nfu_0_2, ffu_0_2, nfi_0_3, ffi_0_3, nfr_0_4, ffr_0_4, nfu_0_4, ffu_0_4, nfi_0_5, ffi_0_5, nfz_0_6, ffz_0_6, nfo_0_6, ffo_0_6, Option.some.injEq, Sum.inr.injEq, Sum.inl.injEq, Prod.mk.injEq, true_and, and_true, exists_eq_left', exists_eq_left, exists_eq_right, exists_eq_right', exists_and_left, exists_and_right, List.getElem?_cons_succ, List.getElem?_cons_zero, List.length_cons, List.length_nil, List.set_cons_zero, List.set_cons_succ, Option.toList_some, Option.toList_none, List.nil_append, List.cons_append, mj_up_s, true_or, or_true, Nat.sub_zero, and_assoc, b10, not_true_eq_false, not_false_eq_true, false_implies, true_implies, implies_true, eq_self, and_self, rf_some, rf_none]
  exact And.intro (by decide) hQ
set_option maxRecDepth 100000 in
theorem c_moveOut {a p L : Nat} {S : St} (hf : 5 ≤ f) (hw : 113 ≤ w) (hx : h x = some (ITc i kd o 0 (.ref a) ix wt)) (ho : h o = some (BYc 60 g)) (hP : PK h a p S) (hL : S_cl S p ix = some L) (hL2 : L ≤ 60) (hQ : ∀ g', (∀ j, j < L → g' j = bS (S_cb S p ix j)) → Q none (mj_up (mj_up h o (BYc 60 g')) x (ITc i kd o L .null ix wt)) n) : mj_bk f w 5 [.ref x, .int (nI L)] h n mc ms Q := by
  have hne := cell_neA hx ho
  refine mj_begin (by omega) (by decide) (by show 22 ≤ w; omega) rfl ?_
  show mj_W _ _ 5 mj_noZ Q 0 [.ref x, .int (nI L), .retAddr 0] [] h n mc ms
  have loop : ∀ m k g', k + m = L → (∀ j, j < k → g' j = bS (S_cb S p ix j)) → mj_W (f - 1) (w - (19 + mj_maxL 5)) 5 mj_noZ Q 2 [.ref x, .int (nI L), .int (nI k)] [] (mj_up (mj_up h o (BYc 60 g')) x (ITc i kd o k (.ref a) ix wt)) n mc ms := by
    intro m
    induction m with
    | zero =>
      intro k g' hk hg'
      obtain rfl : k = L := by omega
      rw [sX0_moveOut_2]
      simp only [sX0_moveOut_0, sX0_moveOut_1, sX0_moveOut_3, sX0_moveOut_4, sX0_moveOut_7, sX0_moveOut_8, sX0_moveOut_10, sX0_moveOut_13, sX0_moveOut_14, sX0_moveOut_15, sX0_moveOut_22, sX0_moveOut_23, sX0_moveOut_26, sX0_moveOut_29, sX0_moveOut_30, sX0_moveOut_31, sX0_moveOut_34, nfi_0_0, ffi_0_0, nfi_0_1, ffi_0_1, nfr_0_2, ffr_0_2, nfu_0_2, ffu_0_2, nfi_0_3, ffi_0_3, nfr_0_4, ffr_0_4, nfu_0_4, ffu_0_4, nfi_0_5, ffi_0_5, nfz_0_6, ffz_0_6, nfo_0_6, ffo_0_6, Option.some.injEq, Sum.inr.injEq, Sum.inl.injEq, Prod.mk.injEq, true_and, and_true, exists_eq_left', exists_eq_left, exists_eq_right, exists_eq_right', exists_and_left, exists_and_right, List.getElem?_cons_succ, List.getElem?_cons_zero, List.length_cons, List.length_nil, List.set_cons_zero, List.set_cons_succ, Option.toList_some, Option.toList_none, List.nil_append, List.cons_append, mj_up_s, true_or, or_true, Nat.sub_zero, and_assoc, b10, not_true_eq_false, not_false_eq_true, false_implies, true_implies, implies_true, eq_self, and_self, rf_some, rf_none, mj_up_up]
      refine And.intro (fun _ => And.intro (by decide) (hQ g' hg')) (fun c => absurd (nI_le (Nat.le_refl _) (by omega)) c)
    | succ m ih =>
      intro k g' hk hg'
      have e1 : nI k + 1 = nI (k + 1) := nI_1 k
      rw [sX0_moveOut_2]
      simp only [sX0_moveOut_0, sX0_moveOut_1, sX0_moveOut_3, sX0_moveOut_4, sX0_moveOut_7, sX0_moveOut_8, sX0_moveOut_10, sX0_moveOut_13, sX0_moveOut_14, sX0_moveOut_15, sX0_moveOut_22, sX0_moveOut_23, sX0_moveOut_26, sX0_moveOut_29, sX0_moveOut_30, sX0_moveOut_31, sX0_moveOut_34, Option.some.injEq, Sum.inr.injEq, Sum.inl.injEq, Prod.mk.injEq, true_and, and_true, exists_eq_left', exists_eq_left, exists_eq_right, exists_eq_right', exists_and_left, exists_and_right, List.getElem?_cons_succ, List.getElem?_cons_zero, List.length_cons, List.length_nil, List.set_cons_zero, List.set_cons_succ, Option.toList_some, Option.toList_none, List.nil_append, List.cons_append, mj_up_s, true_or, or_true, Nat.sub_zero, and_assoc, b10, not_true_eq_false, not_false_eq_true, false_implies, true_implies, implies_true, eq_self, and_self, rf_some, rf_none]
      refine And.intro (fun c => absurd c (nI_ge (by omega) (by omega))) (fun _ => And.intro (fun c => absurd c (show ¬ nI 60 ≤ nI k from nI_ge (by omega) (by omega))) (fun _ => ?_))
      have hPk : PK (mj_up (mj_up h o (BYc 60 g')) x (ITc i kd o k (.ref a) ix wt)) a p S := PK_upI (PK_upB hP ho) (c := (0, [.int (nI i), .int (nI kd), .ref o, .int (nI 0), .ref a, .int (nI ix), .int wt])) (by rw [mj_up_n hne]; exact hx) (by show (0 : Nat) ≠ 1; decide)
      refine sX0_moveOut_16z mj_up_s rfl (c_ibyteI (by omega) (by show 91 ≤ w - 22; omega) mj_up_s hPk hL (show k < L by omega) ?_)
      simp only [sX0_moveOut_0, sX0_moveOut_1, sX0_moveOut_3, sX0_moveOut_4, sX0_moveOut_7, sX0_moveOut_8, sX0_moveOut_10, sX0_moveOut_13, sX0_moveOut_14, sX0_moveOut_15, sX0_moveOut_22, sX0_moveOut_23, sX0_moveOut_26, sX0_moveOut_29, sX0_moveOut_30, sX0_moveOut_31, sX0_moveOut_34, Option.some.injEq, Sum.inr.injEq, Sum.inl.injEq, Prod.mk.injEq, true_and, and_true, exists_eq_left', exists_eq_left, exists_eq_right, exists_eq_right', exists_and_left, exists_and_right, List.getElem?_cons_succ, List.getElem?_cons_zero, List.length_cons, List.length_nil, List.set_cons_zero, List.set_cons_succ, Option.toList_some, Option.toList_none, List.nil_append, List.cons_append, mj_up_s, true_or, or_true, Nat.sub_zero, and_assoc, b10, not_true_eq_false, not_false_eq_true, false_implies, true_implies, implies_true, eq_self, and_self, rf_some, rf_none]
      refine sX0_moveOut_19z mj_up_s rfl (c_iappend (by omega) (by show 21 ≤ w - 22; omega) mj_up_s (by rw [mj_up_n (Ne.symm hne), mj_up_s]) (by omega) ?_)
      simp only [sX0_moveOut_0, sX0_moveOut_1, sX0_moveOut_3, sX0_moveOut_4, sX0_moveOut_7, sX0_moveOut_8, sX0_moveOut_10, sX0_moveOut_13, sX0_moveOut_14, sX0_moveOut_15, sX0_moveOut_22, sX0_moveOut_23, sX0_moveOut_26, sX0_moveOut_29, sX0_moveOut_30, sX0_moveOut_31, sX0_moveOut_34, Option.some.injEq, Sum.inr.injEq, Sum.inl.injEq, Prod.mk.injEq, true_and, and_true, exists_eq_left', exists_eq_left, exists_eq_right, exists_eq_right', exists_and_left, exists_and_right, List.getElem?_cons_succ, List.getElem?_cons_zero, List.length_cons, List.length_nil, List.set_cons_zero, List.set_cons_succ, Option.toList_some, Option.toList_none, List.nil_append, List.cons_append, mj_up_s, true_or, or_true, Nat.sub_zero, and_assoc, b10, not_true_eq_false, not_false_eq_true, false_implies, true_implies, implies_true, eq_self, and_self, rf_some, rf_none, e1]
      rw [up_step hne]
      refine ih (k + 1) _ (by omega) (fun j hj => ?_)
      by_cases hjk : j = k
      · subst hjk; exact pk_us
      · rw [pk_un hjk]; exact hg' j (by omega)
  simp only [sX0_moveOut_0, sX0_moveOut_1, sX0_moveOut_3, sX0_moveOut_4, sX0_moveOut_7, sX0_moveOut_8, sX0_moveOut_10, sX0_moveOut_13, sX0_moveOut_14, sX0_moveOut_15, sX0_moveOut_22, sX0_moveOut_23, sX0_moveOut_26, sX0_moveOut_29, sX0_moveOut_30, sX0_moveOut_31, sX0_moveOut_34, Option.some.injEq, Sum.inr.injEq, Sum.inl.injEq, Prod.mk.injEq, true_and, and_true, exists_eq_left', exists_eq_left, exists_eq_right, exists_eq_right', exists_and_left, exists_and_right, List.getElem?_cons_succ, List.getElem?_cons_zero, List.length_cons, List.length_nil, List.set_cons_zero, List.set_cons_succ, Option.toList_some, Option.toList_none, List.nil_append, List.cons_append, mj_up_s, true_or, or_true, Nat.sub_zero, and_assoc, b10, not_true_eq_false, not_false_eq_true, false_implies, true_implies, implies_true, eq_self, and_self, rf_some, rf_none]
  have e0 : h = mj_up (mj_up h o (BYc 60 g)) x (ITc i kd o 0 (.ref a) ix wt) := by
    rw [mj_up_id ho, mj_up_id hx]
  rw [e0]
  exact loop L 0 g (by omega) (fun j hj => by omega)
variable {a p c q l fi : Nat} {b : Value}
set_option maxRecDepth 100000 in
theorem c_pappend {v : Int32} (hf : 1 ≤ f) (hw : 21 ≤ w) (ha : h a = some (PKc p c fi q l b)) (hq : h q = some (BYc 600 g)) (hv : vp_nar .byte v = v) (hl : l < 600) (hQ : Q (some (.int 1)) (mj_up (mj_up h q (BYc 600 (upd g l v))) a (PKc p c fi q (l + 1) b)) n) : mj_bk f w 9 [.ref a, .int v] h n mc ms Q := by
  have hne := cell_neA ha hq
  have e1 : nI l + 1 = nI (l + 1) := nI_1 l
  refine mj_begin (by omega) (by decide) (by show 21 ≤ w; omega) rfl ?_
  show mj_W _ _ 9 mj_noZ Q 0 [.ref a, .int v] [] h n mc ms
  simp only [sX1_append_0, sX1_append_1, sX1_append_4, sX1_append_7, sX1_append_10, sX1_append_11, sX1_append_12, sX1_append_13, sX1_append_16, sX1_append_17, sX1_append_20, sX1_append_21, sX1_append_22, sX1_append_23, sX1_append_24, sX1_append_27, sX1_append_28, sX1_append_29, sX1_append_32, sX1_append_33, ha, hq, mj_up_n hne, nfi_1_0, ffi_1_0, nfi_1_1, ffi_1_1, nfi_1_2, ffi_1_2, nfr_1_3, ffr_1_3, nfu_1_3, ffu_1_3, nfi_1_4, ffi_1_4, nfr_1_5, ffr_1_5, nfu_1_5, ffu_1_5, Option.some.injEq, Sum.inr.injEq, Sum.inl.injEq, Prod.mk.injEq, true_and, and_true, exists_eq_left', exists_eq_left, exists_eq_right, exists_eq_right', exists_and_left, exists_and_right, List.getElem?_cons_succ, List.getElem?_cons_zero, List.length_cons, List.length_nil, List.set_cons_zero, List.set_cons_succ, Option.toList_some, Option.toList_none, List.nil_append, List.cons_append, mj_up_s, true_or, or_true, Nat.sub_zero, and_assoc, b10, not_true_eq_false, not_false_eq_true, false_implies, true_implies, implies_true, eq_self, and_self, rf_some, rf_none, nar_b0, nar_b1, nI_cl (show l < 2147483648 by omega), hv, e1]
  refine And.intro (fun _ => And.intro (vp_in_nI hl (by decide)) (And.intro (by decide) hQ)) (fun c => absurd (show nI l < nI 600 from nI_lt hl (by decide)) c)
set_option maxRecDepth 100000 in
theorem c_pappendF {v : Int32} (hf : 1 ≤ f) (hw : 21 ≤ w) (ha : h a = some (PKc p c fi q 600 b)) (hQ : Q (some (.int 0)) h n) : mj_bk f w 9 [.ref a, .int v] h n mc ms Q := by
  refine mj_begin (by omega) (by decide) (by show 21 ≤ w; omega) rfl ?_
  show mj_W _ _ 9 mj_noZ Q 0 [.ref a, .int v] [] h n mc ms
  rw [sX1_append_0, sX1_append_1]
  simp only [ha, Option.some.injEq, Sum.inr.injEq, Sum.inl.injEq, Prod.mk.injEq, true_and, and_true, exists_eq_left', exists_eq_left, exists_eq_right, exists_eq_right', exists_and_left, exists_and_right, List.getElem?_cons_succ, List.getElem?_cons_zero, List.length_cons, List.length_nil, List.set_cons_zero, List.set_cons_succ, Option.toList_some, Option.toList_none, List.nil_append, List.cons_append, mj_up_s, true_or, or_true, Nat.sub_zero, and_assoc, b10, not_true_eq_false, not_false_eq_true, false_implies, true_implies, implies_true, eq_self, and_self, rf_some, rf_none]
  rw [sX1_append_4, sX1_append_7]
  refine And.intro (fun c => absurd c (by decide)) (fun _ => ?_)
  simp only [sX1_append_10, sX1_append_11, Option.some.injEq, Sum.inr.injEq, Sum.inl.injEq, Prod.mk.injEq, true_and, and_true, exists_eq_left', exists_eq_left, exists_eq_right, exists_eq_right', exists_and_left, exists_and_right, List.getElem?_cons_succ, List.getElem?_cons_zero, List.length_cons, List.length_nil, List.set_cons_zero, List.set_cons_succ, Option.toList_some, Option.toList_none, List.nil_append, List.cons_append, mj_up_s, true_or, or_true, Nat.sub_zero, and_assoc, b10, not_true_eq_false, not_false_eq_true, false_implies, true_implies, implies_true, eq_self, and_self, rf_some, rf_none, nar_b0]
  exact hQ
set_option maxRecDepth 100000 in
theorem c_appendNumber {v : Nat} (hf : 2 ≤ f) (hw : 42 ≤ w) (ha : h a = some (PKc p c fi q l b)) (hq : h q = some (BYc 600 g)) (hv : v < 1024) (hl : l + 2 ≤ 600) (hQ : Q none (mj_up (mj_up h q (BYc 600 (upd (upd g l (bS (v / 256))) (l + 1) (bS (v % 256))))) a (PKc p c fi q (l + 2) b)) n) : mj_bk f w 10 [.ref a, .int (nI v)] h n mc ms Q := by
  have hne := cell_neA ha hq
  refine mj_begin (by omega) (by decide) (by show 21 ≤ w; omega) rfl ?_
  show mj_W _ _ 10 mj_noZ Q 0 [.ref a, .int (nI v)] [] h n mc ms
  simp only [sX1_appendNumber_0, sX1_appendNumber_1, sX1_appendNumber_2, sX1_appendNumber_4, sX1_appendNumber_5, sX1_appendNumber_9, sX1_appendNumber_10, sX1_appendNumber_11, sX1_appendNumber_12, sX1_appendNumber_16, sX1_appendNumber_17, Option.some.injEq, Sum.inr.injEq, Sum.inl.injEq, Prod.mk.injEq, true_and, and_true, exists_eq_left', exists_eq_left, exists_eq_right, exists_eq_right', exists_and_left, exists_and_right, List.getElem?_cons_succ, List.getElem?_cons_zero, List.length_cons, List.length_nil, List.set_cons_zero, List.set_cons_succ, Option.toList_some, Option.toList_none, List.nil_append, List.cons_append, mj_up_s, true_or, or_true, Nat.sub_zero, and_assoc, b10, not_true_eq_false, not_false_eq_true, false_implies, true_implies, implies_true, eq_self, and_self, rf_some, rf_none]
  have e1 : nI v >>> ((8 : Int32) &&& 31) = nI (v / 256) := pk_shrN (by omega) _ 8 (by decide +kernel)
  rw [e1]
  refine sX1_appendNumber_6z ha rfl (c_pappend (by omega) (by show 21 ≤ w - 21; omega) ha hq (bS_nar (v / 256)) (by omega) ?_)
  simp only [sX1_appendNumber_0, sX1_appendNumber_1, sX1_appendNumber_2, sX1_appendNumber_4, sX1_appendNumber_5, sX1_appendNumber_9, sX1_appendNumber_10, sX1_appendNumber_11, sX1_appendNumber_12, sX1_appendNumber_16, sX1_appendNumber_17, Option.some.injEq, Sum.inr.injEq, Sum.inl.injEq, Prod.mk.injEq, true_and, and_true, exists_eq_left', exists_eq_left, exists_eq_right, exists_eq_right', exists_and_left, exists_and_right, List.getElem?_cons_succ, List.getElem?_cons_zero, List.length_cons, List.length_nil, List.set_cons_zero, List.set_cons_succ, Option.toList_some, Option.toList_none, List.nil_append, List.cons_append, mj_up_s, true_or, or_true, Nat.sub_zero, and_assoc, b10, not_true_eq_false, not_false_eq_true, false_implies, true_implies, implies_true, eq_self, and_self, rf_some, rf_none]
  refine sX1_appendNumber_13z mj_up_s rfl (c_pappend (by omega) (by show 21 ≤ w - 21; omega) mj_up_s (by rw [mj_up_n (Ne.symm hne), mj_up_s]) (bS_nar v) (by omega) ?_)
  simp only [sX1_appendNumber_0, sX1_appendNumber_1, sX1_appendNumber_2, sX1_appendNumber_4, sX1_appendNumber_5, sX1_appendNumber_9, sX1_appendNumber_10, sX1_appendNumber_11, sX1_appendNumber_12, sX1_appendNumber_16, sX1_appendNumber_17, Option.some.injEq, Sum.inr.injEq, Sum.inl.injEq, Prod.mk.injEq, true_and, and_true, exists_eq_left', exists_eq_left, exists_eq_right, exists_eq_right', exists_and_left, exists_and_right, List.getElem?_cons_succ, List.getElem?_cons_zero, List.length_cons, List.length_nil, List.set_cons_zero, List.set_cons_succ, Option.toList_some, Option.toList_none, List.nil_append, List.cons_append, mj_up_s, true_or, or_true, Nat.sub_zero, and_assoc, b10, not_true_eq_false, not_false_eq_true, false_implies, true_implies, implies_true, eq_self, and_self, rf_some, rf_none]
  rw [up_step hne]
  have e2 : (nI v).toInt8.toInt32 = bS (v % 256) := bS_mod v hv
  rw [e2]
  exact hQ
set_option maxRecDepth 100000 in
theorem c_aC_tail (f w : Nat) (Q : mj_Q) (h : mj_H) (n mc ms x o i kd s ix : Nat) (hm : Value) (wt : Int32) (g : Nat → Int32) (a p c q l fi : Nat) (b : Value) (al : Nat) (bfv : Value) (g1 : Nat → Int32) (hf : 3 ≤ f) (hw : 67 ≤ w) (ha : h a = some (PKc p c fi q l b)) (hq : h q = some (BYc 600 g)) (hx : h x = some (ITc i kd o s hm ix wt)) (ho : h o = some (BYc 60 g1)) (hs : s ≤ 60) (hb1 : ∀ j, j < s → vp_nar .byte (g1 j) = g1 j) (hal : al ≤ s) (hl : l + 2 + (s - al) ≤ 600)
    (hQ : ∀ g', (∀ j, j < l → g' j = g j) → g' l = bS al → g' (l + 1) = bS (s - al) → (∀ t, t < s - al → g' (l + 2 + t) = g1 (al + t)) → Q none (mj_up (mj_up h q (BYc 600 g')) a (PKc p c fi q (l + 2 + (s - al)) b)) n) : mj_W (f - 1) (w - (19 + mj_maxL 11)) 11 mj_noZ Q 5 [.ref a, .ref x, bfv, .retAddr 0, .retAddr 0] ((some (Value.int (nI al))).toList ++ []) h n mc ms := by
  have hne := cell_neA ha hq
  have hne2 := cell_neA hx hq
  have hne3 : x ≠ a := cell_ne hx ha (by intro e; cases e)
  have hne4 := cell_neA ha ho
  have hne5 : o ≠ q := cell_ne ho hq (by intro e; cases e)
  have hX : ∀ A B, mj_up (mj_up h q A) a B x = some (ITc i kd o s hm ix wt) := fun A B => by rw [mj_up_n hne3, mj_up_n hne2]; exact hx
  have hO : ∀ A B, mj_up (mj_up h q A) a B o = some (BYc 60 g1) := fun A B => by rw [mj_up_n (Ne.symm hne4), mj_up_n hne5]; exact ho
  have hQq : ∀ A B, mj_up (mj_up h q A) a B q = some A := fun A B => by rw [mj_up_n (Ne.symm hne), mj_up_s]
  have loop : ∀ m k g', k + m = s → al ≤ k → (∀ j, j < l → g' j = g j) → g' l = bS al → g' (l + 1) = bS (s - al) → (∀ t, t < k - al → g' (l + 2 + t) = g1 (al + t)) → mj_W (f - 1) (w - (19 + mj_maxL 11)) 11 mj_noZ Q 28 [.ref a, .ref x, bfv, .int (nI al), .int (nI k)] [] (mj_up (mj_up h q (BYc 600 g')) a (PKc p c fi q (l + 2 + (k - al)) b)) n mc ms := by
    intro m
    induction m with
    | zero =>
      intro k g' hk hak h1 h2 h3 h4
      obtain rfl : k = s := by omega
      rw [sX1_appendContent_28]
      simp only [sX1_appendContent_0, sX1_appendContent_0n, sX1_appendContent_1, sX1_appendContent_1n, sX1_appendContent_5, sX1_appendContent_6, sX1_appendContent_7, sX1_appendContent_8, sX1_appendContent_12, sX1_appendContent_13, sX1_appendContent_14, sX1_appendContent_14n, sX1_appendContent_15, sX1_appendContent_18, sX1_appendContent_19, sX1_appendContent_20, sX1_appendContent_24, sX1_appendContent_25, sX1_appendContent_26, sX1_appendContent_30, sX1_appendContent_30n, sX1_appendContent_31, sX1_appendContent_34, sX1_appendContent_37, sX1_appendContent_38, sX1_appendContent_38n, sX1_appendContent_39, sX1_appendContent_42, sX1_appendContent_44, sX1_appendContent_48, sX1_appendContent_49, sX1_appendContent_52, sX1_appendContent_55, hX, Option.some.injEq, Sum.inr.injEq, Sum.inl.injEq, Prod.mk.injEq, true_and, and_true, exists_eq_left', exists_eq_left, exists_eq_right, exists_eq_right', exists_and_left, exists_and_right, List.getElem?_cons_succ, List.getElem?_cons_zero, List.length_cons, List.length_nil, List.set_cons_zero, List.set_cons_succ, Option.toList_some, Option.toList_none, List.nil_append, List.cons_append, mj_up_s, true_or, or_true, Nat.sub_zero, and_assoc, b10, not_true_eq_false, not_false_eq_true, false_implies, true_implies, implies_true, eq_self, and_self, rf_some, rf_none]
      refine And.intro (fun _ => hQ g' h1 h2 h3 h4) (fun c => absurd (nI_le (Nat.le_refl _) (by omega)) c)
    | succ m ih =>
      intro k g' hk hak h1 h2 h3 h4
      have e1 : nI k + 1 = nI (k + 1) := nI_1 k
      rw [sX1_appendContent_28]
      simp only [sX1_appendContent_0, sX1_appendContent_0n, sX1_appendContent_1, sX1_appendContent_1n, sX1_appendContent_5, sX1_appendContent_6, sX1_appendContent_7, sX1_appendContent_8, sX1_appendContent_12, sX1_appendContent_13, sX1_appendContent_14, sX1_appendContent_14n, sX1_appendContent_15, sX1_appendContent_18, sX1_appendContent_19, sX1_appendContent_20, sX1_appendContent_24, sX1_appendContent_25, sX1_appendContent_26, sX1_appendContent_30, sX1_appendContent_30n, sX1_appendContent_31, sX1_appendContent_34, sX1_appendContent_37, sX1_appendContent_38, sX1_appendContent_38n, sX1_appendContent_39, sX1_appendContent_42, sX1_appendContent_44, sX1_appendContent_48, sX1_appendContent_49, sX1_appendContent_52, sX1_appendContent_55, hX, hO, Option.some.injEq, Sum.inr.injEq, Sum.inl.injEq, Prod.mk.injEq, true_and, and_true, exists_eq_left', exists_eq_left, exists_eq_right, exists_eq_right', exists_and_left, exists_and_right, List.getElem?_cons_succ, List.getElem?_cons_zero, List.length_cons, List.length_nil, List.set_cons_zero, List.set_cons_succ, Option.toList_some, Option.toList_none, List.nil_append, List.cons_append, mj_up_s, true_or, or_true, Nat.sub_zero, and_assoc, b10, not_true_eq_false, not_false_eq_true, false_implies, true_implies, implies_true, eq_self, and_self, rf_some, rf_none, nI_cl (show k < 2147483648 by omega)]
      refine And.intro (fun c => absurd c (nI_ge (by omega) (by omega))) (fun _ => And.intro (vp_in_nI (by omega) (by decide)) ?_)
      refine sX1_appendContent_45z mj_up_s rfl (c_pappend (by omega) (by show 21 ≤ w - 24; omega) mj_up_s (hQq _ _) (hb1 k (by omega)) (by omega) ?_)
      simp only [sX1_appendContent_0, sX1_appendContent_0n, sX1_appendContent_1, sX1_appendContent_1n, sX1_appendContent_5, sX1_appendContent_6, sX1_appendContent_7, sX1_appendContent_8, sX1_appendContent_12, sX1_appendContent_13, sX1_appendContent_14, sX1_appendContent_14n, sX1_appendContent_15, sX1_appendContent_18, sX1_appendContent_19, sX1_appendContent_20, sX1_appendContent_24, sX1_appendContent_25, sX1_appendContent_26, sX1_appendContent_30, sX1_appendContent_30n, sX1_appendContent_31, sX1_appendContent_34, sX1_appendContent_37, sX1_appendContent_38, sX1_appendContent_38n, sX1_appendContent_39, sX1_appendContent_42, sX1_appendContent_44, sX1_appendContent_48, sX1_appendContent_49, sX1_appendContent_52, sX1_appendContent_55, Option.some.injEq, Sum.inr.injEq, Sum.inl.injEq, Prod.mk.injEq, true_and, and_true, exists_eq_left', exists_eq_left, exists_eq_right, exists_eq_right', exists_and_left, exists_and_right, List.getElem?_cons_succ, List.getElem?_cons_zero, List.length_cons, List.length_nil, List.set_cons_zero, List.set_cons_succ, Option.toList_some, Option.toList_none, List.nil_append, List.cons_append, mj_up_s, true_or, or_true, Nat.sub_zero, and_assoc, b10, not_true_eq_false, not_false_eq_true, false_implies, true_implies, implies_true, eq_self, and_self, rf_some, rf_none, e1]
      rw [up_step hne]
      have e2 : l + 2 + (k - al) + 1 = l + 2 + (k + 1 - al) := by omega
      rw [e2]
      refine ih (k + 1) _ (by omega) (by omega) (fun j hj => ?_) ?_ ?_ (fun t ht => ?_)
      · rw [pk_un (by omega)]; exact h1 j hj
      · rw [pk_un (by omega)]; exact h2
      · rw [pk_un (by omega)]; exact h3
      · by_cases hte : t = k - al
        · subst hte
          rw [pk_us]; congr 1; omega
        · rw [pk_un (by omega)]; exact h4 t (by omega)
  simp only [sX1_appendContent_0, sX1_appendContent_0n, sX1_appendContent_1, sX1_appendContent_1n, sX1_appendContent_5, sX1_appendContent_6, sX1_appendContent_7, sX1_appendContent_8, sX1_appendContent_12, sX1_appendContent_13, sX1_appendContent_14, sX1_appendContent_14n, sX1_appendContent_15, sX1_appendContent_18, sX1_appendContent_19, sX1_appendContent_20, sX1_appendContent_24, sX1_appendContent_25, sX1_appendContent_26, sX1_appendContent_30, sX1_appendContent_30n, sX1_appendContent_31, sX1_appendContent_34, sX1_appendContent_37, sX1_appendContent_38, sX1_appendContent_38n, sX1_appendContent_39, sX1_appendContent_42, sX1_appendContent_44, sX1_appendContent_48, sX1_appendContent_49, sX1_appendContent_52, sX1_appendContent_55, Option.some.injEq, Sum.inr.injEq, Sum.inl.injEq, Prod.mk.injEq, true_and, and_true, exists_eq_left', exists_eq_left, exists_eq_right, exists_eq_right', exists_and_left, exists_and_right, List.getElem?_cons_succ, List.getElem?_cons_zero, List.length_cons, List.length_nil, List.set_cons_zero, List.set_cons_succ, Option.toList_some, Option.toList_none, List.nil_append, List.cons_append, mj_up_s, true_or, or_true, Nat.sub_zero, and_assoc, b10, not_true_eq_false, not_false_eq_true, false_implies, true_implies, implies_true, eq_self, and_self, rf_some, rf_none]
  refine sX1_appendContent_9z ha rfl (c_pappend (by omega) (by show 21 ≤ w - 24; omega) ha hq (bS_nar al) (by omega) ?_)
  simp only [sX1_appendContent_0, sX1_appendContent_0n, sX1_appendContent_1, sX1_appendContent_1n, sX1_appendContent_5, sX1_appendContent_6, sX1_appendContent_7, sX1_appendContent_8, sX1_appendContent_12, sX1_appendContent_13, sX1_appendContent_14, sX1_appendContent_14n, sX1_appendContent_15, sX1_appendContent_18, sX1_appendContent_19, sX1_appendContent_20, sX1_appendContent_24, sX1_appendContent_25, sX1_appendContent_26, sX1_appendContent_30, sX1_appendContent_30n, sX1_appendContent_31, sX1_appendContent_34, sX1_appendContent_37, sX1_appendContent_38, sX1_appendContent_38n, sX1_appendContent_39, sX1_appendContent_42, sX1_appendContent_44, sX1_appendContent_48, sX1_appendContent_49, sX1_appendContent_52, sX1_appendContent_55, hX, Option.some.injEq, Sum.inr.injEq, Sum.inl.injEq, Prod.mk.injEq, true_and, and_true, exists_eq_left', exists_eq_left, exists_eq_right, exists_eq_right', exists_and_left, exists_and_right, List.getElem?_cons_succ, List.getElem?_cons_zero, List.length_cons, List.length_nil, List.set_cons_zero, List.set_cons_succ, Option.toList_some, Option.toList_none, List.nil_append, List.cons_append, mj_up_s, true_or, or_true, Nat.sub_zero, and_assoc, b10, not_true_eq_false, not_false_eq_true, false_implies, true_implies, implies_true, eq_self, and_self, rf_some, rf_none]
  rw [pk_sub hal]
  refine sX1_appendContent_21z mj_up_s rfl (c_pappend (by omega) (by show 21 ≤ w - 24; omega) mj_up_s (hQq _ _) (bS_nar (s - al)) (by omega) ?_)
  simp only [sX1_appendContent_0, sX1_appendContent_0n, sX1_appendContent_1, sX1_appendContent_1n, sX1_appendContent_5, sX1_appendContent_6, sX1_appendContent_7, sX1_appendContent_8, sX1_appendContent_12, sX1_appendContent_13, sX1_appendContent_14, sX1_appendContent_14n, sX1_appendContent_15, sX1_appendContent_18, sX1_appendContent_19, sX1_appendContent_20, sX1_appendContent_24, sX1_appendContent_25, sX1_appendContent_26, sX1_appendContent_30, sX1_appendContent_30n, sX1_appendContent_31, sX1_appendContent_34, sX1_appendContent_37, sX1_appendContent_38, sX1_appendContent_38n, sX1_appendContent_39, sX1_appendContent_42, sX1_appendContent_44, sX1_appendContent_48, sX1_appendContent_49, sX1_appendContent_52, sX1_appendContent_55, Option.some.injEq, Sum.inr.injEq, Sum.inl.injEq, Prod.mk.injEq, true_and, and_true, exists_eq_left', exists_eq_left, exists_eq_right, exists_eq_right', exists_and_left, exists_and_right, List.getElem?_cons_succ, List.getElem?_cons_zero, List.length_cons, List.length_nil, List.set_cons_zero, List.set_cons_succ, Option.toList_some, Option.toList_none, List.nil_append, List.cons_append, mj_up_s, true_or, or_true, Nat.sub_zero, and_assoc, b10, not_true_eq_false, not_false_eq_true, false_implies, true_implies, implies_true, eq_self, and_self, rf_some, rf_none]
  rw [up_step hne]
  have e3 : l + 1 + 1 = l + 2 + (al - al) := by omega
  rw [e3]
  refine loop (s - al) al _ (by omega) (Nat.le_refl _) (fun j hj => ?_) ?_ ?_ (fun t ht => by omega)
  · rw [pk_un (by omega), pk_un (by omega)]
  · rw [pk_un (by omega)]; exact pk_us
  · exact pk_us
variable {al : Nat} {bfv : Value}
set_option maxRecDepth 100000 in
/-- appendContent, out of what alike answers -/
theorem c_appendContent {g1 : Nat → Int32} (hf : 3 ≤ f) (hw : 67 ≤ w) (ha : h a = some (PKc p c fi q l b)) (hq : h q = some (BYc 600 g)) (hx : h x = some (ITc i kd o s hm ix wt)) (ho : h o = some (BYc 60 g1)) (hs : s ≤ 60) (hb1 : ∀ j, j < s → vp_nar .byte (g1 j) = g1 j) (hal : al ≤ s) (hbv : mj_okb bfv = true) (hbr : bfv.isRef = true)
    (hA : ∀ Q' : mj_Q, Q' (some (.int (nI al))) h n → mj_bk (f - 1) (w - 24) 6 [.ref x, bfv] h n 0 0 Q') (hl : l + 2 + (s - al) ≤ 600)
    (hQ : ∀ g', (∀ j, j < l → g' j = g j) → g' l = bS al → g' (l + 1) = bS (s - al) → (∀ t, t < s - al → g' (l + 2 + t) = g1 (al + t)) → Q none (mj_up (mj_up h q (BYc 600 g')) a (PKc p c fi q (l + 2 + (s - al)) b)) n) : mj_bk f w 11 [.ref a, .ref x, bfv] h n mc ms Q := by
  have hne := cell_neA ha hq
  have hne2 := cell_neA hx hq
  have hne3 : x ≠ a := cell_ne hx ha (by intro e; cases e)
  have hne4 := cell_neA ha ho
  have hne5 : o ≠ q := cell_ne ho hq (by intro e; cases e)
  refine mj_begin (by omega) (by decide) (by show 24 ≤ w; omega) (by simp only [mj_aOk, List.all_cons, hbv]; rfl) ?_
  have e0 : mj_entry 11 [.ref a, .ref x, bfv] = [.ref a, .ref x, bfv, .retAddr 0, .retAddr 0] := rfl
  rw [e0]
  rw [sX1_appendContent_0]
  rcases mj_ref_cases hbr with rfl | ⟨x2, rfl⟩
  · rw [sX1_appendContent_1n]
    refine sX1_appendContent_2z hx rfl (hA _ ?_)
    exact c_aC_tail f w Q h n mc ms x o i kd s ix hm wt g a p c q l fi b al .null g1 hf hw ha hq hx ho hs hb1 hal hl hQ
  · rw [sX1_appendContent_1]
    refine sX1_appendContent_2z hx rfl (hA _ ?_)
    exact c_aC_tail f w Q h n mc ms x o i kd s ix hm wt g a p c q l fi b al (.ref x2) g1 hf hw ha hq hx ho hs hb1 hal hl hQ
end
