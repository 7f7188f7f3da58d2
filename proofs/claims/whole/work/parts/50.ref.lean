/-! ===== the reference: its object and sixteen arrays ===== -/
abbrev MOc (AD : Ad) (X : Nat → Int32) : mj_C := .inr (3, [.int (X 0), .int (X 1), .ref (AD 6 1), .ref (AD 6 2), .ref (AD 6 3), .ref (AD 6 4), .ref (AD 6 5), .int (X 7), .ref (AD 6 6), .ref (AD 6 7), .ref (AD 6 8), .ref (AD 6 9), .ref (AD 6 10), .ref (AD 6 11), .int (X 14), .int (X 15), .ref (AD 6 12), .ref (AD 6 13), .ref (AD 6 14), .ref (AD 6 15), .ref (AD 6 16), .int (X 21)])
def mLen (j : Nat) : Nat := match j with
  | 3 => 3600
  | 6 => 20
  | 7 => 20
  | 8 => 20
  | 9 => 20
  | 10 => 12000
  | 11 => 600
  | 12 => 100
  | 13 => 100
  | _ => 60
def mTy (j : Nat) : FieldType := match j with
  | 16 => .boolean
  | _ => .int
abbrev MAc (j : Nat) (g : Nat → Int32) : mj_C := .inl (mTy j, mLen j, .inl g)
/-- the reference in the heap h; h0 is the heap that it began with: elsewhere nothing has changed -/
def MHF (h0 h : mj_H) (AD : Ad) (X : Nat → Int32) (A : Nat → Nat → Int32) : Prop :=
  h (AD 6 0) = some (MOc AD X) ∧ (∀ j, 1 ≤ j → j < 17 → h (AD 6 j) = some (MAc j (A j))) ∧ (∀ i j, i < 17 → j < 17 → AD 6 i = AD 6 j → i = j) ∧ ∀ a, (∀ j, j < 17 → a ≠ AD 6 j) → h a = h0 a
def Xw (X : Nat → Int32) (t : Nat) (v : Int32) : Nat → Int32 := fun s => if s = t then v else X s
def Aw (A : Nat → Nat → Int32) (j i : Nat) (v : Int32) : Nat → Nat → Int32 := fun k => if k = j then upd (A j) i v else A k
theorem Aw_s {A : Nat → Nat → Int32} {j i : Nat} {v : Int32} : Aw A j i v j = upd (A j) i v := by simp [Aw]
theorem Aw_n {A : Nat → Nat → Int32} {j i k : Nat} {v : Int32} (h : k ≠ j) : Aw A j i v k = A k := by simp [Aw, h]
theorem Xw_s {X : Nat → Int32} {t : Nat} {v : Int32} : Xw X t v t = v := by simp [Xw]
theorem Xw_n {X : Nat → Int32} {t s : Nat} {v : Int32} (h : s ≠ t) : Xw X t v s = X s := by simp [Xw, h]
section
variable {h0 h : mj_H} {AD : Ad} {X : Nat → Int32} {A : Nat → Nat → Int32}
theorem MHF.ob (hM : MHF h0 h AD X A) : h (AD 6 0) = some (MOc AD X) := hM.1
theorem MHF.ar (hM : MHF h0 h AD X A) (j : Nat) (h1 : 1 ≤ j) (h2 : j < 16) : h (AD 6 j) = some (.inl (.int, mLen j, .inl (A j))) := by
  have := hM.2.1 j h1 (by omega)
  have e : mTy j = .int := by
    unfold mTy
    split
    · omega
    · rfl
  rw [this]
  show some (Sum.inl (mTy j, mLen j, Sum.inl (A j))) = _
  rw [e]
theorem MHF.tk (hM : MHF h0 h AD X A) : h (AD 6 16) = some (.inl (.boolean, 60, .inl (A 16))) := hM.2.1 16 (by omega) (by omega)
theorem MHF.putX (hM : MHF h0 h AD X A) (t : Nat) (v : Int32) : MHF h0 (mj_up h (AD 6 0) (MOc AD (Xw X t v))) AD (Xw X t v) A := by
  refine ⟨mj_up_s, fun j h1 h2 => ?_, hM.2.2.1, fun a ha => ?_⟩
  · rw [mj_up_n (fun e => by have := hM.2.2.1 j 0 h2 (by omega) e; omega)]; exact hM.2.1 j h1 h2
  · rw [mj_up_n (ha 0 (by omega))]; exact hM.2.2.2 a ha
theorem MHF.putA (hM : MHF h0 h AD X A) (j i : Nat) (v : Int32) (h1 : 1 ≤ j) (h2 : j < 17) : MHF h0 (mj_up h (AD 6 j) (MAc j (upd (A j) i v))) AD X (Aw A j i v) := by
  refine ⟨?_, fun k k1 k2 => ?_, hM.2.2.1, fun a ha => ?_⟩
  · rw [mj_up_n (fun e => by have := hM.2.2.1 0 j (by omega) h2 e; omega)]; exact hM.1
  · by_cases hk : k = j
    · subst hk; rw [mj_up_s, Aw_s]
    · rw [mj_up_n (fun e => hk (hM.2.2.1 k j k2 h2 e)), Aw_n hk]; exact hM.2.1 k k1 k2
  · rw [mj_up_n (ha j h2)]; exact hM.2.2.2 a ha
end
/-- the reference's numbers are those of the state S -/
def CM (S : St) (X : Nat → Int32) (A : Nat → Nat → Int32) : Prop :=
  X 1 = nI (S_no S) ∧ X 7 = nI (S_np S) ∧ X 15 = nI (S_nt S) ∧
  (∀ i, i < S_no S → A 1 i = nI (S_kd S i) ∧ A 4 i = (if S_pk S i = 0 then -1 else nI (S_pk S i - 1)) ∧ A 5 i = nI (S_ix S i) ∧ (S_pk S i = 0 → A 2 i = nI (S_sz S i) ∧ ∀ j, j < S_sz S i → A 3 (60 * i + j) = nI (S_by S i j))) ∧
  (∀ i, S_no S ≤ i → A 2 i = 0 ∧ A 5 i = 0) ∧
  (∀ p, p < S_np S → A 6 p = nI (S_ct S p) ∧ A 7 p = nI (S_fs S p) ∧ A 8 p = (if S_ex S p = 0 then -1 else nI (S_ex S p - 1)) ∧ A 9 p = nI (S_pz S p) ∧ ∀ j, j < S_pz S p → A 10 (600 * p + j) = nI (S_pb S p j)) ∧
  (∀ i, i < S_nt S → A 12 i = nI (S_tf S i) ∧ A 13 i = nI (S_tp S i))
section
variable {f w : Nat} {Q : mj_Q} {h0 h : mj_H} {n mc ms : Nat} {S : St} {AD : Ad} {X : Nat → Int32} {A : Nat → Nat → Int32}
set_option maxRecDepth 100000 in
theorem r_thrown (hf : 1 ≤ f) (hw : 20 ≤ w) (hM : MHF h0 h AD X A) (hQ : Q (some (.int (X 0))) h n) : mj_bk f w 55 [.ref (AD 6 0)] h n mc ms Q := by
  refine mj_begin (by omega) (by decide) (by show 20 ≤ w; omega) rfl ?_
  show mj_W _ _ 55 mj_noZ Q 0 [.ref (AD 6 0)] [] h n mc ms
  simp only [sX3_thrown_0, sX3_thrown_1, sX3_thrown_4, hM.ob, Option.some.injEq, Sum.inr.injEq, Sum.inl.injEq, Prod.mk.injEq, true_and, and_true, exists_eq_left', exists_eq_left, exists_eq_right, exists_eq_right', exists_and_left, exists_and_right, List.getElem?_cons_succ, List.getElem?_cons_zero, List.length_cons, List.length_nil, List.set_cons_zero, List.set_cons_succ, Option.toList_some, Option.toList_none, List.nil_append, List.cons_append, mj_up_s, true_or, or_true, Nat.sub_zero, and_assoc, b10, not_true_eq_false, not_false_eq_true, false_implies, true_implies, implies_true, eq_self, and_self, rf_some, rf_none]
  exact hQ
set_option maxRecDepth 100000 in
theorem r_isIn (hf : 1 ≤ f) (hw : 22 ≤ w) {v a b : Int32} (hQ : Q (some (.int (if a ≤ v ∧ v ≤ b then 1 else 0))) h n) : mj_bk f w 56 [.int v, .int a, .int b] h n mc ms Q := by
  refine mj_begin (by omega) (by decide) (by show 22 ≤ w; omega) rfl ?_
  show mj_W _ _ 56 mj_noZ Q 0 [.int v, .int a, .int b] [] h n mc ms
  simp only [sX3_isIn_0, sX3_isIn_1, sX3_isIn_2, sX3_isIn_5, sX3_isIn_6, sX3_isIn_7, sX3_isIn_10, sX3_isIn_11, sX3_isIn_14, sX3_isIn_15, Option.some.injEq, Sum.inr.injEq, Sum.inl.injEq, Prod.mk.injEq, true_and, and_true, exists_eq_left', exists_eq_left, exists_eq_right, exists_eq_right', exists_and_left, exists_and_right, List.getElem?_cons_succ, List.getElem?_cons_zero, List.length_cons, List.length_nil, List.set_cons_zero, List.set_cons_succ, Option.toList_some, Option.toList_none, List.nil_append, List.cons_append, mj_up_s, true_or, or_true, Nat.sub_zero, and_assoc, b10, not_true_eq_false, not_false_eq_true, false_implies, true_implies, implies_true, eq_self, and_self, rf_some, rf_none, nar_b0, nar_b1]
  by_cases hc : a ≤ v ∧ v ≤ b
  · rw [if_pos hc] at hQ
    refine And.intro (fun c => ?_) (fun _ => And.intro (fun c => ?_) (fun _ => hQ))
    · exfalso; clear hQ; (simp only [Int32.le_iff_toInt_le, Int32.lt_iff_toInt_lt, i32_eq, i32_0, i32_m1, i32_600, i32_60, i32_20, i32_99, i32_10, i32_1, i32_2] at *; omega)
    · exfalso; clear hQ; (simp only [Int32.le_iff_toInt_le, Int32.lt_iff_toInt_lt, i32_eq, i32_0, i32_m1, i32_600, i32_60, i32_20, i32_99, i32_10, i32_1, i32_2] at *; omega)
  · rw [if_neg hc] at hQ
    refine And.intro (fun _ => hQ) (fun c1 => And.intro (fun _ => hQ) (fun c2 => ?_))
    exfalso; clear hQ; apply hc; constructor <;> (clear hc; (simp only [Int32.le_iff_toInt_le, Int32.lt_iff_toInt_lt, i32_eq, i32_0, i32_m1, i32_600, i32_60, i32_20, i32_99, i32_10, i32_1, i32_2] at *; omega))
theorem isin_cl {o : Int32} {N : Nat} (hN : N < 2147483648) : (0 ≤ o ∧ o ≤ nI N - 1) ↔ (decide (0 ≤ o) && decide (o.toNatClampNeg < N)) = true := by
  have z1 : (nI N - 1).toInt = (N : Int) - 1 := by
    by_cases hN0 : N = 0
    · subst hN0; rfl
    · have e : nI N - 1 = nI (N - 1) := by rw [show (1 : Int32) = nI 1 from rfl, pk_sub (by omega)]
      rw [e, nI_tI (by omega)]; omega
  constructor
  · rintro ⟨h1, h2⟩
    obtain ⟨j, j1, rfl, j3⟩ := i32_of (x := o) (by (simp only [Int32.le_iff_toInt_le, Int32.lt_iff_toInt_lt, i32_eq, i32_0, i32_m1, i32_600, i32_60, i32_20, i32_99, i32_10, i32_1, i32_2] at *; omega))
    exact cl_iff.mpr ⟨j, rfl, j1, by (simp only [Int32.le_iff_toInt_le, Int32.lt_iff_toInt_lt, i32_eq, i32_0, i32_m1, i32_600, i32_60, i32_20, i32_99, i32_10, i32_1, i32_2] at *; omega)⟩
  · intro hh
    obtain ⟨j, rfl, j1, j2⟩ := cl_iff.mp hh
    have z2 := nI_tI j1
    clear hh
    constructor <;> (simp only [Int32.le_iff_toInt_le, Int32.lt_iff_toInt_lt, i32_eq, i32_0, i32_m1, i32_600, i32_60, i32_20, i32_99, i32_10, i32_1, i32_2] at *; omega)
set_option maxRecDepth 100000 in
theorem r_isObject (hf : 2 ≤ f) (hw : 43 ≤ w) (hM : MHF h0 h AD X A) (hR : CM S X A) (hW : WF S) {o : Int32} (hQ : Q (some (.int (if obI S o = true then 1 else 0))) h n) : mj_bk f w 57 [.ref (AD 6 0), .int o] h n mc ms Q := by
  have w1 := hW.1
  refine mj_begin (by omega) (by decide) (by show 21 ≤ w; omega) rfl ?_
  show mj_W _ _ 57 mj_noZ Q 0 [.ref (AD 6 0), .int o] [] h n mc ms
  simp only [sX3_isObject_0, sX3_isObject_1, sX3_isObject_2, sX3_isObject_3, sX3_isObject_6, sX3_isObject_7, sX3_isObject_11, hM.ob, Option.some.injEq, Sum.inr.injEq, Sum.inl.injEq, Prod.mk.injEq, true_and, and_true, exists_eq_left', exists_eq_left, exists_eq_right, exists_eq_right', exists_and_left, exists_and_right, List.getElem?_cons_succ, List.getElem?_cons_zero, List.length_cons, List.length_nil, List.set_cons_zero, List.set_cons_succ, Option.toList_some, Option.toList_none, List.nil_append, List.cons_append, mj_up_s, true_or, or_true, Nat.sub_zero, and_assoc, b10, not_true_eq_false, not_false_eq_true, false_implies, true_implies, implies_true, eq_self, and_self, rf_some, rf_none]
  refine sX3_isObject_8z rfl (r_isIn (by omega) (by show 22 ≤ w - 21; omega) ?_)
  rw [hR.1]
  simp only [isin_cl (show S_no S < 2147483648 by omega)]
  unfold obI at hQ
  split at hQ <;> rename_i hc
  · rw [if_pos hc]; simp only [sX3_isObject_0, sX3_isObject_1, sX3_isObject_2, sX3_isObject_3, sX3_isObject_6, sX3_isObject_7, sX3_isObject_11, Option.some.injEq, Sum.inr.injEq, Sum.inl.injEq, Prod.mk.injEq, true_and, and_true, exists_eq_left', exists_eq_left, exists_eq_right, exists_eq_right', exists_and_left, exists_and_right, List.getElem?_cons_succ, List.getElem?_cons_zero, List.length_cons, List.length_nil, List.set_cons_zero, List.set_cons_succ, Option.toList_some, Option.toList_none, List.nil_append, List.cons_append, mj_up_s, true_or, or_true, Nat.sub_zero, and_assoc, b10, not_true_eq_false, not_false_eq_true, false_implies, true_implies, implies_true, eq_self, and_self, rf_some, rf_none, nar_b1]; exact hQ
  · rw [if_neg hc]; simp only [sX3_isObject_0, sX3_isObject_1, sX3_isObject_2, sX3_isObject_3, sX3_isObject_6, sX3_isObject_7, sX3_isObject_11, Option.some.injEq, Sum.inr.injEq, Sum.inl.injEq, Prod.mk.injEq, true_and, and_true, exists_eq_left', exists_eq_left, exists_eq_right, exists_eq_right', exists_and_left, exists_and_right, List.getElem?_cons_succ, List.getElem?_cons_zero, List.length_cons, List.length_nil, List.set_cons_zero, List.set_cons_succ, Option.toList_some, Option.toList_none, List.nil_append, List.cons_append, mj_up_s, true_or, or_true, Nat.sub_zero, and_assoc, b10, not_true_eq_false, not_false_eq_true, false_implies, true_implies, implies_true, eq_self, and_self, rf_some, rf_none, nar_b0]; exact hQ
set_option maxRecDepth 100000 in
theorem r_isPack (hf : 2 ≤ f) (hw : 43 ≤ w) (hM : MHF h0 h AD X A) (hR : CM S X A) (hW : WF S) {o : Int32} (hQ : Q (some (.int (if pkI S o = true then 1 else 0))) h n) : mj_bk f w 58 [.ref (AD 6 0), .int o] h n mc ms Q := by
  have w1 := hW.2.1
  refine mj_begin (by omega) (by decide) (by show 21 ≤ w; omega) rfl ?_
  show mj_W _ _ 58 mj_noZ Q 0 [.ref (AD 6 0), .int o] [] h n mc ms
  simp only [sX3_isPack_0, sX3_isPack_1, sX3_isPack_2, sX3_isPack_3, sX3_isPack_6, sX3_isPack_7, sX3_isPack_11, hM.ob, Option.some.injEq, Sum.inr.injEq, Sum.inl.injEq, Prod.mk.injEq, true_and, and_true, exists_eq_left', exists_eq_left, exists_eq_right, exists_eq_right', exists_and_left, exists_and_right, List.getElem?_cons_succ, List.getElem?_cons_zero, List.length_cons, List.length_nil, List.set_cons_zero, List.set_cons_succ, Option.toList_some, Option.toList_none, List.nil_append, List.cons_append, mj_up_s, true_or, or_true, Nat.sub_zero, and_assoc, b10, not_true_eq_false, not_false_eq_true, false_implies, true_implies, implies_true, eq_self, and_self, rf_some, rf_none]
  refine sX3_isPack_8z rfl (r_isIn (by omega) (by show 22 ≤ w - 21; omega) ?_)
  rw [hR.2.1]
  simp only [isin_cl (show S_np S < 2147483648 by omega)]
  unfold pkI at hQ
  split at hQ <;> rename_i hc
  · rw [if_pos hc]; simp only [sX3_isPack_0, sX3_isPack_1, sX3_isPack_2, sX3_isPack_3, sX3_isPack_6, sX3_isPack_7, sX3_isPack_11, Option.some.injEq, Sum.inr.injEq, Sum.inl.injEq, Prod.mk.injEq, true_and, and_true, exists_eq_left', exists_eq_left, exists_eq_right, exists_eq_right', exists_and_left, exists_and_right, List.getElem?_cons_succ, List.getElem?_cons_zero, List.length_cons, List.length_nil, List.set_cons_zero, List.set_cons_succ, Option.toList_some, Option.toList_none, List.nil_append, List.cons_append, mj_up_s, true_or, or_true, Nat.sub_zero, and_assoc, b10, not_true_eq_false, not_false_eq_true, false_implies, true_implies, implies_true, eq_self, and_self, rf_some, rf_none, nar_b1]; exact hQ
  · rw [if_neg hc]; simp only [sX3_isPack_0, sX3_isPack_1, sX3_isPack_2, sX3_isPack_3, sX3_isPack_6, sX3_isPack_7, sX3_isPack_11, Option.some.injEq, Sum.inr.injEq, Sum.inl.injEq, Prod.mk.injEq, true_and, and_true, exists_eq_left', exists_eq_left, exists_eq_right, exists_eq_right', exists_and_left, exists_and_right, List.getElem?_cons_succ, List.getElem?_cons_zero, List.length_cons, List.length_nil, List.set_cons_zero, List.set_cons_succ, Option.toList_some, Option.toList_none, List.nil_append, List.cons_append, mj_up_s, true_or, or_true, Nat.sub_zero, and_assoc, b10, not_true_eq_false, not_false_eq_true, false_implies, true_implies, implies_true, eq_self, and_self, rf_some, rf_none, nar_b0]; exact hQ
set_option maxRecDepth 100000 in
theorem r_isThere (hf : 2 ≤ f) (hw : 44 ≤ w) (hM : MHF h0 h AD X A) (hR : CM S X A) (hW : WF S) {p : Nat} (hp : p < S_np S) {k : Int32} (hQ : Q (some (.int (if S_thI S p k = true then 1 else 0))) h n) : mj_bk f w 59 [.ref (AD 6 0), .int (nI p), .int k] h n mc ms Q := by
  have w1 := hW.2.1
  obtain ⟨a6, a7, a8, a9, -⟩ := hR.2.2.2.2.2.1 p hp
  obtain ⟨p1, p2, p3, p4⟩ := (hW.2.2.2.2.2 p hp).1
  have h6 := hM.ar 6 (by omega) (by omega)
  have h7 := hM.ar 7 (by omega) (by omega)
  have h9 := hM.ar 9 (by omega) (by omega)
  have cp := nI_cl (show p < 2147483648 by omega)
  refine mj_begin (by omega) (by decide) (by show 22 ≤ w; omega) rfl ?_
  show mj_W _ _ 59 mj_noZ Q 0 [.ref (AD 6 0), .int (nI p), .int k] [] h n mc ms
  simp only [sX3_isThere_0, sX3_isThere_1, sX3_isThere_2, sX3_isThere_3, sX3_isThere_6, sX3_isThere_7, sX3_isThere_8, sX3_isThere_9, sX3_isThere_13, sX3_isThere_16, sX3_isThere_17, sX3_isThere_18, sX3_isThere_19, sX3_isThere_20, sX3_isThere_21, sX3_isThere_22, sX3_isThere_25, sX3_isThere_26, sX3_isThere_27, sX3_isThere_30, sX3_isThere_31, sX3_isThere_32, sX3_isThere_33, sX3_isThere_34, sX3_isThere_35, sX3_isThere_36, sX3_isThere_39, sX3_isThere_40, sX3_isThere_41, sX3_isThere_44, sX3_isThere_45, sX3_isThere_48, sX3_isThere_49, hM.ob, h6, Option.some.injEq, Sum.inr.injEq, Sum.inl.injEq, Prod.mk.injEq, true_and, and_true, exists_eq_left', exists_eq_left, exists_eq_right, exists_eq_right', exists_and_left, exists_and_right, List.getElem?_cons_succ, List.getElem?_cons_zero, List.length_cons, List.length_nil, List.set_cons_zero, List.set_cons_succ, Option.toList_some, Option.toList_none, List.nil_append, List.cons_append, mj_up_s, true_or, or_true, Nat.sub_zero, and_assoc, b10, not_true_eq_false, not_false_eq_true, false_implies, true_implies, implies_true, eq_self, and_self, rf_some, rf_none, cp, a6]
  refine And.intro (vp_in_nI (show p < 20 by omega) (by decide)) ?_
  refine sX3_isThere_10z rfl (r_isIn (by omega) (by show 22 ≤ w - 22; omega) ?_)
  simp only [isin_cl (show S_ct S p < 2147483648 by omega)]
  by_cases hc : (decide (0 ≤ k) && decide (k.toNatClampNeg < S_ct S p)) = true
  · rw [if_pos hc]
    obtain ⟨j, rfl, j1, j2⟩ := cl_iff.mp hc
    rw [S_thI_n j1] at hQ
    have e : (4 : Int32) * nI j + 4 = nI (4 * j + 4) := by rw [show (4 : Int32) = nI 4 from rfl, pk_mul, nI_add]
    simp only [sX3_isThere_0, sX3_isThere_1, sX3_isThere_2, sX3_isThere_3, sX3_isThere_6, sX3_isThere_7, sX3_isThere_8, sX3_isThere_9, sX3_isThere_13, sX3_isThere_16, sX3_isThere_17, sX3_isThere_18, sX3_isThere_19, sX3_isThere_20, sX3_isThere_21, sX3_isThere_22, sX3_isThere_25, sX3_isThere_26, sX3_isThere_27, sX3_isThere_30, sX3_isThere_31, sX3_isThere_32, sX3_isThere_33, sX3_isThere_34, sX3_isThere_35, sX3_isThere_36, sX3_isThere_39, sX3_isThere_40, sX3_isThere_41, sX3_isThere_44, sX3_isThere_45, sX3_isThere_48, sX3_isThere_49, hM.ob, h7, h9, Option.some.injEq, Sum.inr.injEq, Sum.inl.injEq, Prod.mk.injEq, true_and, and_true, exists_eq_left', exists_eq_left, exists_eq_right, exists_eq_right', exists_and_left, exists_and_right, List.getElem?_cons_succ, List.getElem?_cons_zero, List.length_cons, List.length_nil, List.set_cons_zero, List.set_cons_succ, Option.toList_some, Option.toList_none, List.nil_append, List.cons_append, mj_up_s, true_or, or_true, Nat.sub_zero, and_assoc, b10, not_true_eq_false, not_false_eq_true, false_implies, true_implies, implies_true, eq_self, and_self, rf_some, rf_none, cp, a7, a9, e, nar_b0, nar_b1]
    refine And.intro (vp_in_nI (show p < 20 by omega) (by decide)) ?_
    by_cases ht : S_th S p j = true
    · rw [if_pos ht] at hQ
      obtain ⟨t1, t2, t3⟩ := S_th_iff.mp ht
      exact And.intro (fun c => absurd c (nI_nlt t2 (by omega))) (fun _ => And.intro (vp_in_nI (show p < 20 by omega) (by decide)) (And.intro (fun c => absurd c (nI_nlt t3 (by omega))) (fun _ => hQ)))
    · rw [if_neg ht] at hQ
      refine And.intro (fun _ => hQ) (fun c1 => And.intro (vp_in_nI (show p < 20 by omega) (by decide)) (And.intro (fun _ => hQ) (fun c2 => ?_)))
      exfalso
      apply ht
      refine S_th_iff.mpr ⟨j2, ?_, ?_⟩
      · rcases Nat.lt_or_ge (S_pz S p) (4 * j + 4) with hlt | hge
        · exact absurd (nI_lt hlt (by omega)) c1
        · exact hge
      · rcases Nat.lt_or_ge (S_fs S p) (4 * j + 4) with hlt | hge
        · exact absurd (nI_lt hlt (by omega)) c2
        · exact hge
  · rw [if_neg hc]
    have ht : ¬ S_thI S p k = true := by
      intro ht
      obtain ⟨j, rfl, j1, j2⟩ := S_thI_iff.mp ht
      exact hc (cl_iff.mpr ⟨j, rfl, j1, (S_th_iff.mp j2).1⟩)
    rw [if_neg ht] at hQ
    simp only [sX3_isThere_0, sX3_isThere_1, sX3_isThere_2, sX3_isThere_3, sX3_isThere_6, sX3_isThere_7, sX3_isThere_8, sX3_isThere_9, sX3_isThere_13, sX3_isThere_16, sX3_isThere_17, sX3_isThere_18, sX3_isThere_19, sX3_isThere_20, sX3_isThere_21, sX3_isThere_22, sX3_isThere_25, sX3_isThere_26, sX3_isThere_27, sX3_isThere_30, sX3_isThere_31, sX3_isThere_32, sX3_isThere_33, sX3_isThere_34, sX3_isThere_35, sX3_isThere_36, sX3_isThere_39, sX3_isThere_40, sX3_isThere_41, sX3_isThere_44, sX3_isThere_45, sX3_isThere_48, sX3_isThere_49, Option.some.injEq, Sum.inr.injEq, Sum.inl.injEq, Prod.mk.injEq, true_and, and_true, exists_eq_left', exists_eq_left, exists_eq_right, exists_eq_right', exists_and_left, exists_and_right, List.getElem?_cons_succ, List.getElem?_cons_zero, List.length_cons, List.length_nil, List.set_cons_zero, List.set_cons_succ, Option.toList_some, Option.toList_none, List.nil_append, List.cons_append, mj_up_s, true_or, or_true, Nat.sub_zero, and_assoc, b10, not_true_eq_false, not_false_eq_true, false_implies, true_implies, implies_true, eq_self, and_self, rf_some, rf_none, nar_b0]
    exact hQ
set_option maxRecDepth 100000 in
theorem r_two (hf : 1 ≤ f) (hw : 22 ≤ w) (hM : MHF h0 h AD X A) (hR : CM S X A) (hW : WF S) {p k wh : Nat} (hp : p < S_np S) (hwh : wh ≤ 1) (ht : S_th S p k = true) (hQ : Q (some (.int (nI (S_num S p k wh)))) h n) : mj_bk f w 60 [.ref (AD 6 0), .int (nI p), .int (nI (4 * k + 2 * wh))] h n mc ms Q := by
  have w1 := hW.2.1
  obtain ⟨a6, a7, a8, a9, a10⟩ := hR.2.2.2.2.2.1 p hp
  obtain ⟨p1, p2, p3, p4⟩ := (hW.2.2.2.2.2 p hp).1
  obtain ⟨t1, t2, t3⟩ := S_th_iff.mp ht
  have h10 := hM.ar 10 (by omega) (by omega)
  have e1 : (600 : Int32) * nI p + nI (4 * k + 2 * wh) = nI (600 * p + (4 * k + 2 * wh)) := by rw [show (600 : Int32) = nI 600 from rfl, pk_mul, nI_add]
  have e2 : nI (600 * p + (4 * k + 2 * wh)) + 1 = nI (600 * p + (4 * k + 2 * wh + 1)) := nI_1 _
  refine mj_begin (by omega) (by decide) (by show 22 ≤ w; omega) rfl ?_
  show mj_W _ _ 60 mj_noZ Q 0 [.ref (AD 6 0), .int (nI p), .int (nI (4 * k + 2 * wh))] [] h n mc ms
  simp only [sX3_two_0, sX3_two_3, sX3_two_4, sX3_two_7, sX3_two_10, sX3_two_11, sX3_two_12, sX3_two_13, sX3_two_14, sX3_two_15, sX3_two_16, sX3_two_17, sX3_two_20, sX3_two_23, sX3_two_24, sX3_two_25, sX3_two_26, sX3_two_27, sX3_two_28, sX3_two_29, sX3_two_30, sX3_two_31, hM.ob, h10, Option.some.injEq, Sum.inr.injEq, Sum.inl.injEq, Prod.mk.injEq, true_and, and_true, exists_eq_left', exists_eq_left, exists_eq_right, exists_eq_right', exists_and_left, exists_and_right, List.getElem?_cons_succ, List.getElem?_cons_zero, List.length_cons, List.length_nil, List.set_cons_zero, List.set_cons_succ, Option.toList_some, Option.toList_none, List.nil_append, List.cons_append, mj_up_s, true_or, or_true, Nat.sub_zero, and_assoc, b10, not_true_eq_false, not_false_eq_true, false_implies, true_implies, implies_true, eq_self, and_self, rf_some, rf_none, e1, e2, nI_cl (show 600 * p + (4 * k + 2 * wh) < 2147483648 by omega), nI_cl (show 600 * p + (4 * k + 2 * wh + 1) < 2147483648 by omega), a10 (4 * k + 2 * wh) (by omega), a10 (4 * k + 2 * wh + 1) (by omega)]
  have e3 : (256 : Int32) * nI (S_pb S p (4 * k + 2 * wh)) + nI (S_pb S p (4 * k + 2 * wh + 1)) = nI (S_num S p k wh) := by
    rw [show (256 : Int32) = nI 256 from rfl, pk_mul, nI_add]; rfl
  rw [e3]
  exact And.intro (vp_in_nI (show _ < 12000 by omega) (by decide)) (And.intro (vp_in_nI (show _ < 12000 by omega) (by decide)) hQ)
end
