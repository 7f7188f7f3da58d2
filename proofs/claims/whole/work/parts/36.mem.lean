/-! ===== one map of addresses: class 0 to 5, reference 6, script 7, out 8 ===== -/
abbrev Ad : Type := Nat → Nat → Nat
abbrev Ct : Type := Nat → Nat → mj_C
def MEM (h : mj_H) (n : Nat) (AD : Ad) (V : Nat → Nat → Prop) (C : Ct) : Prop :=
  (∀ k i, V k i → h (AD k i) = some (C k i)) ∧ (∀ k i k' i', V k i → V k' i' → AD k i = AD k' i' → k = k' ∧ i = i') ∧ ∀ k i, V k i → AD k i < n
def Cu (C : Ct) (k i : Nat) (c : mj_C) : Ct := fun a b => if a = k ∧ b = i then c else C a b
def Au (AD : Ad) (k i v : Nat) : Ad := fun a b => if a = k ∧ b = i then v else AD a b
theorem Cu_s {C : Ct} {k i : Nat} {c : mj_C} : Cu C k i c k i = c := by simp [Cu]
theorem Cu_k {C : Ct} {k i a b : Nat} {c : mj_C} (hn : a ≠ k) : Cu C k i c a b = C a b := by simp [Cu, hn]
theorem Cu_i {C : Ct} {k i a b : Nat} {c : mj_C} (hn : b ≠ i) : Cu C k i c a b = C a b := by simp [Cu, hn]
theorem Au_s {AD : Ad} {k i v : Nat} : Au AD k i v k i = v := by simp [Au]
theorem Au_k {AD : Ad} {k i a b v : Nat} (hn : a ≠ k) : Au AD k i v a b = AD a b := by simp [Au, hn]
theorem Au_i {AD : Ad} {k i a b v : Nat} (hn : b ≠ i) : Au AD k i v a b = AD a b := by simp [Au, hn]
theorem MEM.put {h : mj_H} {n : Nat} {AD : Ad} {V : Nat → Nat → Prop} {C : Ct} {k i : Nat} {c : mj_C} (hM : MEM h n AD V C) (hv : V k i) : MEM (mj_up h (AD k i) c) n AD V (Cu C k i c) := by
  refine ⟨fun a b hab => ?_, hM.2.1, hM.2.2⟩
  by_cases e : a = k ∧ b = i
  · obtain ⟨rfl, rfl⟩ := e
    rw [mj_up_s, Cu_s]
  · rw [mj_up_n (fun q => e (hM.2.1 _ _ _ _ hab hv q)), hM.1 a b hab]
    simp [Cu, e]
theorem MEM.add {h : mj_H} {n : Nat} {AD : Ad} {V V' : Nat → Nat → Prop} {C : Ct} {k i : Nat} {c : mj_C} (hM : MEM h n AD V C) (hnv : ¬ V k i) (hV : ∀ a b, V' a b → V a b ∨ (a = k ∧ b = i)) : MEM (mj_up h n c) (n + 1) (Au AD k i n) V' (Cu C k i c) := by
  have ne : ∀ a b, V a b → ¬ (a = k ∧ b = i) := fun a b hab e => hnv (e.1 ▸ e.2 ▸ hab)
  have au : ∀ a b, V a b → Au AD k i n a b = AD a b := fun a b hab => by simp [Au, ne a b hab]
  refine ⟨fun a b hab => ?_, fun a b a' b' hab hab' e => ?_, fun a b hab => ?_⟩
  · rcases hV a b hab with hv | ⟨rfl, rfl⟩
    · have hlt := hM.2.2 a b hv
      rw [au a b hv, mj_up_n (by omega), hM.1 a b hv]
      simp [Cu, ne a b hv]
    · rw [Au_s, mj_up_s, Cu_s]
  · rcases hV a b hab with hv | ⟨rfl, rfl⟩ <;> rcases hV a' b' hab' with hv' | ⟨rfl, rfl⟩
    · rw [au _ _ hv, au _ _ hv'] at e; exact hM.2.1 _ _ _ _ hv hv' e
    · rw [au _ _ hv, Au_s] at e; have := hM.2.2 _ _ hv; omega
    · rw [au _ _ hv', Au_s] at e; have := hM.2.2 _ _ hv'; omega
    · exact ⟨rfl, rfl⟩
  · rcases hV a b hab with hv | ⟨rfl, rfl⟩
    · rw [au _ _ hv]; have := hM.2.2 _ _ hv; omega
    · rw [Au_s]; omega
/-- which cells there are -/
def VS (S : St) : Nat → Nat → Prop := fun k i => match k with
  | 0 => i < 6
  | 1 => i < S_no S
  | 2 => i < S_no S
  | 3 => i < S_np S
  | 4 => i < S_np S
  | 5 => i = 0
  | 6 => i < 17
  | 7 => i = 0
  | 8 => i = 0
  | _ => False
def hmv (AD : Ad) (p : Nat) : Value := match p with
  | 0 => .null
  | p + 1 => .ref (AD 3 p)
abbrev OSc (AD : Ad) (S : St) (plc : Int32) : mj_C := .inr (2, [.ref (AD 0 0), .int (nI (S_no S)), .ref (AD 0 1), .int (nI (S_np S)), .ref (AD 0 2), .ref (AD 0 3), .int (nI (S_nt S)), .ref (AD 0 4), .int plc, .ref (AD 0 5)])
/-- the class's cells hold the state S -/
def CC (S : St) (AD : Ad) (C : Ct) : Prop :=
  (∃ plc, C 5 0 = OSc AD S plc) ∧
  (∃ g, C 0 0 = .inl (.object (mj_R 0), 60, .inr (.inr (.inr (.inr g)))) ∧ ∀ i, i < S_no S → g i = some (AD 1 i)) ∧
  (∃ g, C 0 1 = .inl (.object (mj_R 1), 20, .inr (.inr (.inr (.inr g)))) ∧ ∀ p, p < S_np S → g p = some (AD 3 p)) ∧
  (∃ g, C 0 2 = .inl (.int, 99, .inl g) ∧ ∀ i, i < S_nt S → g i = nI (S_tf S i)) ∧
  (∃ g, C 0 3 = .inl (.int, 99, .inl g) ∧ ∀ i, i < S_nt S → g i = nI (S_tp S i)) ∧
  (∃ g, C 0 4 = .inl (.int, 60, .inl g)) ∧ (∃ g, C 0 5 = .inl (.int, 20, .inl g)) ∧
  (∀ i, i < S_no S → ∃ wt, C 1 i = ITc i (S_kd S i) (AD 2 i) (S_sz S i) (hmv AD (S_pk S i)) (S_ix S i) wt) ∧
  (∀ i, i < S_no S → ∃ g, C 2 i = BYc 60 g ∧ ∀ j, j < S_sz S i → g j = bS (S_by S i j)) ∧
  (∀ p, p < S_np S → C 3 p = PKc p (S_ct S p) (S_fs S p) (AD 4 p) (S_pz S p) (hmv AD (S_ex S p))) ∧
  (∀ p, p < S_np S → ∃ g, C 4 p = BYc 600 g ∧ ∀ j, j < S_pz S p → g j = bS (S_pb S p j))
/-- the numbers in their bounds -/
def WF (S : St) : Prop :=
  S_no S ≤ 60 ∧ S_np S ≤ 20 ∧ S_nt S ≤ 99 ∧
  (∀ i, i < S_no S → S_kd S i ≤ 1 ∧ S_sz S i ≤ 60 ∧ S_pk S i ≤ S_np S ∧ S_ix S i ≤ 99 ∧ (S_pk S i ≠ 0 → S_sz S i = 0 ∧ S_kd S i = 0)) ∧
  (∀ i j, S_by S i j < 256) ∧
  (∀ p, p < S_np S → S_pok S p ∧ S_ex S p ≤ S_np S)
def obI (S : St) (o : Int32) : Bool := decide (0 ≤ o) && decide (o.toNatClampNeg < S_no S)
def pkI (S : St) (o : Int32) : Bool := decide (0 ≤ o) && decide (o.toNatClampNeg < S_np S)
theorem cl_iff {o : Int32} {N : Nat} : (decide (0 ≤ o) && decide (o.toNatClampNeg < N)) = true ↔ ∃ j : Nat, o = nI j ∧ j < 2147483648 ∧ j < N := by
  constructor
  · intro h
    simp only [Bool.and_eq_true, decide_eq_true_eq] at h
    obtain ⟨j, j1, rfl, -⟩ := i32_of (x := o) (by have := h.1; simpa only [Int32.le_iff_toInt_le, i32_0] using this)
    rw [nI_cl j1] at h
    exact ⟨j, rfl, j1, h.2⟩
  · rintro ⟨j, rfl, h1, h2⟩
    simp only [Bool.and_eq_true, decide_eq_true_eq, nI_cl h1]
    exact ⟨nI_pos' h1, h2⟩
theorem cl_no {o : Int32} {N : Nat} (hN : N < 2147483648) (h : ¬ (decide (0 ≤ o) && decide (o.toNatClampNeg < N)) = true) : o < 0 ∨ nI N ≤ o := by
  rcases pk_ix o hN with h1 | h1 | ⟨j, h1, rfl⟩
  · exact Or.inl h1
  · exact Or.inr h1
  · exact absurd (cl_iff.mpr ⟨j, rfl, by omega, h1⟩) h
section
variable {f w : Nat} {Q : mj_Q} {h : mj_H} {n mc ms : Nat} {S : St} {AD : Ad} {C : Ct}
theorem CC.os (hM : MEM h n AD (VS S) C) (hC : CC S AD C) : ∃ plc, h (AD 5 0) = some (OSc AD S plc) := by
  obtain ⟨plc, e⟩ := hC.1
  exact ⟨plc, by rw [hM.1 5 0 rfl, e]⟩
theorem CC.it (hM : MEM h n AD (VS S) C) (hC : CC S AD C) {i : Nat} (hi : i < S_no S) : ∃ wt, h (AD 1 i) = some (ITc i (S_kd S i) (AD 2 i) (S_sz S i) (hmv AD (S_pk S i)) (S_ix S i) wt) := by
  obtain ⟨wt, e⟩ := hC.2.2.2.2.2.2.2.1 i hi
  exact ⟨wt, by rw [hM.1 1 i hi, e]⟩
theorem CC.ow (hM : MEM h n AD (VS S) C) (hC : CC S AD C) {i : Nat} (hi : i < S_no S) : ∃ g, h (AD 2 i) = some (BYc 60 g) ∧ ∀ j, j < S_sz S i → g j = bS (S_by S i j) := by
  obtain ⟨g, e, e2⟩ := hC.2.2.2.2.2.2.2.2.1 i hi
  exact ⟨g, by rw [hM.1 2 i hi, e], e2⟩
theorem CC.pkc (hM : MEM h n AD (VS S) C) (hC : CC S AD C) {p : Nat} (hp : p < S_np S) : h (AD 3 p) = some (PKc p (S_ct S p) (S_fs S p) (AD 4 p) (S_pz S p) (hmv AD (S_ex S p))) := by
  rw [hM.1 3 p hp, hC.2.2.2.2.2.2.2.2.2.1 p hp]
theorem CC.pb (hM : MEM h n AD (VS S) C) (hC : CC S AD C) {p : Nat} (hp : p < S_np S) : ∃ g, h (AD 4 p) = some (BYc 600 g) ∧ ∀ j, j < S_pz S p → g j = bS (S_pb S p j) := by
  obtain ⟨g, e, e2⟩ := hC.2.2.2.2.2.2.2.2.2.2 p hp
  exact ⟨g, by rw [hM.1 4 p hp, e], e2⟩
theorem CC.pk (hM : MEM h n AD (VS S) C) (hC : CC S AD C) (hW : WF S) {p : Nat} (hp : p < S_np S) : PK h (AD 3 p) p S := by
  obtain ⟨g, e, e2⟩ := hC.pb hM hp
  exact ⟨AD 4 p, g, _, hC.pkc hM hp, e, e2, (hW.2.2.2.2.2 p hp).1⟩
set_option maxRecDepth 100000 in
theorem m_itemOf (hf : 1 ≤ f) (hw : 21 ≤ w) (hM : MEM h n AD (VS S) C) (hC : CC S AD C) (hW : WF S) {o : Int32} (hQ : Q (some (if obI S o = true then .ref (AD 1 o.toNatClampNeg) else .null)) h n) : mj_bk f w 38 [.ref (AD 5 0), .int o] h n mc ms Q := by
  obtain ⟨plc, hO⟩ := hC.os hM
  obtain ⟨g, e1, e2⟩ := hC.2.1
  have hA := hM.1 0 0 (show 0 < 6 by omega)
  rw [e1] at hA
  have w1 := hW.1
  refine mj_begin hf (by decide) hw rfl ?_
  show mj_W _ _ 38 mj_noZ Q 0 [.ref (AD 5 0), .int o] [] h n mc ms
  by_cases hc : obI S o = true
  · rw [if_pos hc] at hQ
    obtain ⟨j, rfl, j1, j2⟩ := cl_iff.mp hc
    rw [nI_cl j1] at hQ
    simp only [sX2_itemOf_0, sX2_itemOf_1, sX2_itemOf_4, sX2_itemOf_5, sX2_itemOf_6, sX2_itemOf_9, sX2_itemOf_12, sX2_itemOf_13, sX2_itemOf_15, sX2_itemOf_18, sX2_itemOf_19, sX2_itemOf_22, sX2_itemOf_23, hO, hA, Option.some.injEq, Sum.inr.injEq, Sum.inl.injEq, Prod.mk.injEq, true_and, and_true, exists_eq_left', exists_eq_left, exists_eq_right, exists_eq_right', exists_and_left, exists_and_right, List.getElem?_cons_succ, List.getElem?_cons_zero, List.length_cons, List.length_nil, List.set_cons_zero, List.set_cons_succ, Option.toList_some, Option.toList_none, List.nil_append, List.cons_append, mj_up_s, true_or, or_true, Nat.sub_zero, and_assoc, b10, not_true_eq_false, not_false_eq_true, false_implies, true_implies, implies_true, eq_self, and_self, rf_some, rf_none]
    refine And.intro (fun c => absurd c (nI_pos (by omega))) (fun _ => And.intro (fun c => absurd c (nI_ge (by omega) (by omega))) (fun _ => And.intro (fun c => absurd c (show ¬ nI 60 ≤ nI j from nI_ge (by omega) (by omega))) (fun _ => ?_)))
    refine ⟨0, rfl, by omega, vp_in_nI (by omega) (by decide), ?_⟩
    rw [nI_cl j1, e2 j j2]
    simp only [sX2_itemOf_24, sX2_itemOf_28, Option.some.injEq, Sum.inr.injEq, Sum.inl.injEq, Prod.mk.injEq, true_and, and_true, exists_eq_left', exists_eq_left, exists_eq_right, exists_eq_right', exists_and_left, exists_and_right, List.getElem?_cons_succ, List.getElem?_cons_zero, List.length_cons, List.length_nil, List.set_cons_zero, List.set_cons_succ, Option.toList_some, Option.toList_none, List.nil_append, List.cons_append, mj_up_s, true_or, or_true, Nat.sub_zero, and_assoc, b10, not_true_eq_false, not_false_eq_true, false_implies, true_implies, implies_true, eq_self, and_self, rf_some, rf_none]
    exact hQ
  · rw [if_neg hc] at hQ
    have hr := cl_no (N := S_no S) (by omega) hc
    simp only [sX2_itemOf_0, sX2_itemOf_1, sX2_itemOf_4, sX2_itemOf_5, sX2_itemOf_6, sX2_itemOf_9, sX2_itemOf_27, sX2_itemOf_28n, hO, Option.some.injEq, Sum.inr.injEq, Sum.inl.injEq, Prod.mk.injEq, true_and, and_true, exists_eq_left', exists_eq_left, exists_eq_right, exists_eq_right', exists_and_left, exists_and_right, List.getElem?_cons_succ, List.getElem?_cons_zero, List.length_cons, List.length_nil, List.set_cons_zero, List.set_cons_succ, Option.toList_some, Option.toList_none, List.nil_append, List.cons_append, mj_up_s, true_or, or_true, Nat.sub_zero, and_assoc, b10, not_true_eq_false, not_false_eq_true, false_implies, true_implies, implies_true, eq_self, and_self, rf_some, rf_none]
    refine And.intro (fun _ => hQ) (fun c1 => And.intro (fun _ => hQ) (fun c2 => ?_))
    rcases hr with hr | hr
    · exact absurd hr c1
    · exact absurd hr c2
set_option maxRecDepth 100000 in
theorem m_packOf (hf : 1 ≤ f) (hw : 21 ≤ w) (hM : MEM h n AD (VS S) C) (hC : CC S AD C) (hW : WF S) {o : Int32} (hQ : Q (some (if pkI S o = true then .ref (AD 3 o.toNatClampNeg) else .null)) h n) : mj_bk f w 39 [.ref (AD 5 0), .int o] h n mc ms Q := by
  obtain ⟨plc, hO⟩ := hC.os hM
  obtain ⟨g, e1, e2⟩ := hC.2.2.1
  have hA := hM.1 0 1 (show 1 < 6 by omega)
  rw [e1] at hA
  have w1 := hW.2.1
  refine mj_begin hf (by decide) hw rfl ?_
  show mj_W _ _ 39 mj_noZ Q 0 [.ref (AD 5 0), .int o] [] h n mc ms
  by_cases hc : pkI S o = true
  · rw [if_pos hc] at hQ
    obtain ⟨j, rfl, j1, j2⟩ := cl_iff.mp hc
    rw [nI_cl j1] at hQ
    simp only [sX2_packOf_0, sX2_packOf_1, sX2_packOf_4, sX2_packOf_5, sX2_packOf_6, sX2_packOf_9, sX2_packOf_12, sX2_packOf_13, sX2_packOf_15, sX2_packOf_18, sX2_packOf_19, sX2_packOf_22, sX2_packOf_23, hO, hA, Option.some.injEq, Sum.inr.injEq, Sum.inl.injEq, Prod.mk.injEq, true_and, and_true, exists_eq_left', exists_eq_left, exists_eq_right, exists_eq_right', exists_and_left, exists_and_right, List.getElem?_cons_succ, List.getElem?_cons_zero, List.length_cons, List.length_nil, List.set_cons_zero, List.set_cons_succ, Option.toList_some, Option.toList_none, List.nil_append, List.cons_append, mj_up_s, true_or, or_true, Nat.sub_zero, and_assoc, b10, not_true_eq_false, not_false_eq_true, false_implies, true_implies, implies_true, eq_self, and_self, rf_some, rf_none]
    refine And.intro (fun c => absurd c (nI_pos (by omega))) (fun _ => And.intro (fun c => absurd c (nI_ge (by omega) (by omega))) (fun _ => And.intro (fun c => absurd c (show ¬ nI 20 ≤ nI j from nI_ge (by omega) (by omega))) (fun _ => ?_)))
    refine ⟨1, rfl, by omega, vp_in_nI (by omega) (by decide), ?_⟩
    rw [nI_cl j1, e2 j j2]
    simp only [sX2_packOf_24, sX2_packOf_28, Option.some.injEq, Sum.inr.injEq, Sum.inl.injEq, Prod.mk.injEq, true_and, and_true, exists_eq_left', exists_eq_left, exists_eq_right, exists_eq_right', exists_and_left, exists_and_right, List.getElem?_cons_succ, List.getElem?_cons_zero, List.length_cons, List.length_nil, List.set_cons_zero, List.set_cons_succ, Option.toList_some, Option.toList_none, List.nil_append, List.cons_append, mj_up_s, true_or, or_true, Nat.sub_zero, and_assoc, b10, not_true_eq_false, not_false_eq_true, false_implies, true_implies, implies_true, eq_self, and_self, rf_some, rf_none]
    exact hQ
  · rw [if_neg hc] at hQ
    have hr := cl_no (N := S_np S) (by omega) hc
    simp only [sX2_packOf_0, sX2_packOf_1, sX2_packOf_4, sX2_packOf_5, sX2_packOf_6, sX2_packOf_9, sX2_packOf_27, sX2_packOf_28n, hO, Option.some.injEq, Sum.inr.injEq, Sum.inl.injEq, Prod.mk.injEq, true_and, and_true, exists_eq_left', exists_eq_left, exists_eq_right, exists_eq_right', exists_and_left, exists_and_right, List.getElem?_cons_succ, List.getElem?_cons_zero, List.length_cons, List.length_nil, List.set_cons_zero, List.set_cons_succ, Option.toList_some, Option.toList_none, List.nil_append, List.cons_append, mj_up_s, true_or, or_true, Nat.sub_zero, and_assoc, b10, not_true_eq_false, not_false_eq_true, false_implies, true_implies, implies_true, eq_self, and_self, rf_some, rf_none]
    refine And.intro (fun _ => hQ) (fun c1 => And.intro (fun _ => hQ) (fun c2 => ?_))
    rcases hr with hr | hr
    · exact absurd hr c1
    · exact absurd hr c2
end
