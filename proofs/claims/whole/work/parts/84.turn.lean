/-! ===== a turn of the law's loop ===== -/
theorem and31 (x : Int32) : ∃ j : Nat, j < 32 ∧ x &&& 31 = nI j := by
  refine ⟨(x.toBitVec &&& 31#32).toNat, ?_, ?_⟩
  · rw [BitVec.toNat_and]
    exact Nat.lt_of_le_of_lt Nat.and_le_right (by decide)
  · apply Int32.toBitVec_inj.mp
    rw [Int32.toBitVec_and]
    show x.toBitVec &&& 31#32 = (Int32.ofNat _).toBitVec
    rw [Int32.toBitVec_ofNat', BitVec.ofNat_toNat, BitVec.setWidth_eq]
theorem lg_same (x : Int64) : lg_cmp x x = 0 := by
  unfold lg_cmp
  simp
section
variable {f w : Nat} {Z : mj_K} {Q : mj_Q} {h : mj_H} {n rc rs : Nat} {S : St} {AD : Ad} {len k : Nat} {sg : Nat → Int32} {X : Nat → Int32} {A : Nat → Nat → Int32} {og : Nat → Int64} {C : Ct} {v5 v6 : Value}
theorem sL_law_23 {v0 v1 v2 v3 v5 v6 : Value} {x : Int32} {st : List Value} (hk : mj_W f w 89 (mj_Zl Z) Q 25 [v0, v1, v2, v3, .int x, v5, v6] (.int x :: st) h n rc rs) : mj_W f w 89 (mj_Zl Z) Q 23 [v0, v1, v2, v3, .int x, v5, v6] st h n rc rs := by
  rw [mj_go (show decode (mj_code 89) 23 = .ok (.iload 4, 2) by decide +kernel) rfl]
  exact Or.inr ⟨x, rfl, hk⟩
set_option maxRecDepth 100000 in
theorem t_at2 (hf : 7 ≤ f) (hw : 164 ≤ w) (hG : GX S S n h AD len sg X A og C) (hO : OK S) (hk : k + 4 ≤ len) (hlen : len ≤ 2048) (hc : bc (k + 4) S ≤ rc) (hs : bs (k + 4) S ≤ rs) (hN : NX f w Z Q len sg k) {kk : Int32} (hkk : op_at S (sg (k + 1)) (sg (k + 2)) = none ∧ kk = 1 ∨ ∃ c, op_at S (sg (k + 1)) (sg (k + 2)) = some c ∧ kk = 0 ∧ og 0 = (bS c).toInt64) : mj_W f w 89 (mj_Zl Z) Q 276 (LSt AD k v5 v6) [.int kk] h n rc rs := by
  have hsc := hG.sc
  have e1 : nI k + 1 = nI (k + 1) := by rw [show (1 : Int32) = nI 1 from rfl, nI_add]
  have c1 := nI_cl (show k + 1 < 2147483648 by omega)
  have v1_ : vp_in (nI (k + 1)) len := vp_in_nI (by omega) (by omega)
  have e2 : nI k + 2 = nI (k + 2) := by rw [show (2 : Int32) = nI 2 from rfl, nI_add]
  have c2 := nI_cl (show k + 2 < 2147483648 by omega)
  have v2_ : vp_in (nI (k + 2)) len := vp_in_nI (by omega) (by omega)
  simp only [sL_law_276, sL_law_278, sL_law_279, sL_law_280, sL_law_282, sL_law_283, sL_law_284, sL_law_285, sL_law_286, sL_law_288, sL_law_289, sL_law_290, hsc, Option.some.injEq, Sum.inr.injEq, Sum.inl.injEq, Prod.mk.injEq, true_and, and_true, exists_eq_left', exists_eq_left, exists_eq_right, exists_eq_right', exists_and_left, exists_and_right, List.getElem?_cons_succ, List.getElem?_cons_zero, List.length_cons, List.length_nil, List.set_cons_zero, List.set_cons_succ, Option.toList_some, Option.toList_none, List.nil_append, List.cons_append, mj_up_s, true_or, or_true, Nat.sub_zero, and_assoc, b10, not_true_eq_false, not_false_eq_true, false_implies, true_implies, implies_true, eq_self, and_self, rf_some, rf_none, e1, c1, e2, c2]
  refine And.intro v1_ (And.intro v2_ ?_)
  refine sL_law_291z hG.rf rfl (r_at (by omega) (by omega) hG.mhf hG.cm hO.1 (fun h2 hK2 => ?_))
  obtain ⟨X2, A2, C2, hG2, hx2⟩ := hG.ref hK2
  have hou := hG2.ou
  simp only [sL_law_294, sL_law_296, Option.some.injEq, Sum.inr.injEq, Sum.inl.injEq, Prod.mk.injEq, true_and, and_true, exists_eq_left', exists_eq_left, exists_eq_right, exists_eq_right', exists_and_left, exists_and_right, List.getElem?_cons_succ, List.getElem?_cons_zero, List.length_cons, List.length_nil, List.set_cons_zero, List.set_cons_succ, Option.toList_some, Option.toList_none, List.nil_append, List.cons_append, mj_up_s, true_or, or_true, Nat.sub_zero, and_assoc, b10, not_true_eq_false, not_false_eq_true, false_implies, true_implies, implies_true, eq_self, and_self, rf_some, rf_none]
  refine sL_law_297z hG2.rf rfl (r_thrown (by omega) (by omega) hG2.mhf ?_)
  rw [hx2]
  have nx := hN _ _ _ _ _ _ _ _ _ _ (.int kk) (.int (bS ((op_at S (sg (k + 1)) (sg (k + 2))).getD 0))) hG2 hO hc hs
  rcases hkk with ⟨eo, rfl⟩ | ⟨c, eo, rfl, hog⟩
  · rw [eo, if_pos rfl]
    rw [eo] at nx
    simp only [sL_law_300, sL_law_302, sL_law_307, sL_law_309, sL_law_324, Option.some.injEq, Sum.inr.injEq, Sum.inl.injEq, Prod.mk.injEq, true_and, and_true, exists_eq_left', exists_eq_left, exists_eq_right, exists_eq_right', exists_and_left, exists_and_right, List.getElem?_cons_succ, List.getElem?_cons_zero, List.length_cons, List.length_nil, List.set_cons_zero, List.set_cons_succ, Option.toList_some, Option.toList_none, List.nil_append, List.cons_append, mj_up_s, true_or, or_true, Nat.sub_zero, and_assoc, b10, not_true_eq_false, not_false_eq_true, false_implies, true_implies, implies_true, eq_self, and_self, rf_some, rf_none]
    exact nx
  · rw [eo, if_neg (by simp)]
    rw [eo] at nx
    simp only [sL_law_300, sL_law_302, sL_law_307, sL_law_309, sL_law_312, sL_law_313, sL_law_314, sL_law_315, sL_law_317, sL_law_318, sL_law_319, sL_law_324, hou, Option.some.injEq, Sum.inr.injEq, Sum.inl.injEq, Prod.mk.injEq, true_and, and_true, exists_eq_left', exists_eq_left, exists_eq_right, exists_eq_right', exists_and_left, exists_and_right, List.getElem?_cons_succ, List.getElem?_cons_zero, List.length_cons, List.length_nil, List.set_cons_zero, List.set_cons_succ, Option.toList_some, Option.toList_none, List.nil_append, List.cons_append, mj_up_s, true_or, or_true, Nat.sub_zero, and_assoc, b10, not_true_eq_false, not_false_eq_true, false_implies, true_implies, implies_true, eq_self, and_self, rf_some, rf_none]
    refine And.intro (vp_in_nI (n := 0) (by omega) (by decide)) ?_
    rw [show (0 : Int32).toNatClampNeg = 0 from rfl, hog]
    simp only [Option.getD_some, lg_same, Option.some.injEq, Sum.inr.injEq, Sum.inl.injEq, Prod.mk.injEq, true_and, and_true, exists_eq_left', exists_eq_left, exists_eq_right, exists_eq_right', exists_and_left, exists_and_right, List.getElem?_cons_succ, List.getElem?_cons_zero, List.length_cons, List.length_nil, List.set_cons_zero, List.set_cons_succ, Option.toList_some, Option.toList_none, List.nil_append, List.cons_append, mj_up_s, true_or, or_true, Nat.sub_zero, and_assoc, b10, not_true_eq_false, not_false_eq_true, false_implies, true_implies, implies_true, eq_self, and_self, rf_some, rf_none]
    exact nx
set_option maxRecDepth 100000 in
theorem t_octet2 (hf : 7 ≤ f) (hw : 164 ≤ w) (hG : GX S S n h AD len sg X A og C) (hO : OK S) (hk : k + 4 ≤ len) (hlen : len ≤ 2048) (hc : bc (k + 4) S ≤ rc) (hs : bs (k + 4) S ≤ rs) (hN : NX f w Z Q len sg k) {kk : Int32} (hkk : op_oct S (sg (k + 1)) (sg (k + 2)) = none ∧ kk = 1 ∨ ∃ c, op_oct S (sg (k + 1)) (sg (k + 2)) = some c ∧ kk = 0 ∧ og 0 = (bS c).toInt64) : mj_W f w 89 (mj_Zl Z) Q 445 (LSt AD k v5 v6) [.int kk] h n rc rs := by
  have hsc := hG.sc
  have e1 : nI k + 1 = nI (k + 1) := by rw [show (1 : Int32) = nI 1 from rfl, nI_add]
  have c1 := nI_cl (show k + 1 < 2147483648 by omega)
  have v1_ : vp_in (nI (k + 1)) len := vp_in_nI (by omega) (by omega)
  have e2 : nI k + 2 = nI (k + 2) := by rw [show (2 : Int32) = nI 2 from rfl, nI_add]
  have c2 := nI_cl (show k + 2 < 2147483648 by omega)
  have v2_ : vp_in (nI (k + 2)) len := vp_in_nI (by omega) (by omega)
  simp only [sL_law_445, sL_law_447, sL_law_448, sL_law_449, sL_law_451, sL_law_452, sL_law_453, sL_law_454, sL_law_455, sL_law_457, sL_law_458, sL_law_459, hsc, Option.some.injEq, Sum.inr.injEq, Sum.inl.injEq, Prod.mk.injEq, true_and, and_true, exists_eq_left', exists_eq_left, exists_eq_right, exists_eq_right', exists_and_left, exists_and_right, List.getElem?_cons_succ, List.getElem?_cons_zero, List.length_cons, List.length_nil, List.set_cons_zero, List.set_cons_succ, Option.toList_some, Option.toList_none, List.nil_append, List.cons_append, mj_up_s, true_or, or_true, Nat.sub_zero, and_assoc, b10, not_true_eq_false, not_false_eq_true, false_implies, true_implies, implies_true, eq_self, and_self, rf_some, rf_none, e1, c1, e2, c2]
  refine And.intro v1_ (And.intro v2_ ?_)
  refine sL_law_460z hG.rf rfl (r_octet (by omega) (by omega) hG.mhf hG.cm hO.1 (fun h2 hK2 => ?_))
  obtain ⟨X2, A2, C2, hG2, hx2⟩ := hG.ref hK2
  have hou := hG2.ou
  simp only [sL_law_463, sL_law_465, Option.some.injEq, Sum.inr.injEq, Sum.inl.injEq, Prod.mk.injEq, true_and, and_true, exists_eq_left', exists_eq_left, exists_eq_right, exists_eq_right', exists_and_left, exists_and_right, List.getElem?_cons_succ, List.getElem?_cons_zero, List.length_cons, List.length_nil, List.set_cons_zero, List.set_cons_succ, Option.toList_some, Option.toList_none, List.nil_append, List.cons_append, mj_up_s, true_or, or_true, Nat.sub_zero, and_assoc, b10, not_true_eq_false, not_false_eq_true, false_implies, true_implies, implies_true, eq_self, and_self, rf_some, rf_none]
  refine sL_law_466z hG2.rf rfl (r_thrown (by omega) (by omega) hG2.mhf ?_)
  rw [hx2]
  have nx := hN _ _ _ _ _ _ _ _ _ _ (.int kk) (.int (bS ((op_oct S (sg (k + 1)) (sg (k + 2))).getD 0))) hG2 hO hc hs
  rcases hkk with ⟨eo, rfl⟩ | ⟨c, eo, rfl, hog⟩
  · rw [eo, if_pos rfl]
    rw [eo] at nx
    simp only [sL_law_469, sL_law_471, sL_law_476, sL_law_478, sL_law_493, Option.some.injEq, Sum.inr.injEq, Sum.inl.injEq, Prod.mk.injEq, true_and, and_true, exists_eq_left', exists_eq_left, exists_eq_right, exists_eq_right', exists_and_left, exists_and_right, List.getElem?_cons_succ, List.getElem?_cons_zero, List.length_cons, List.length_nil, List.set_cons_zero, List.set_cons_succ, Option.toList_some, Option.toList_none, List.nil_append, List.cons_append, mj_up_s, true_or, or_true, Nat.sub_zero, and_assoc, b10, not_true_eq_false, not_false_eq_true, false_implies, true_implies, implies_true, eq_self, and_self, rf_some, rf_none]
    exact nx
  · rw [eo, if_neg (by simp)]
    rw [eo] at nx
    simp only [sL_law_469, sL_law_471, sL_law_476, sL_law_478, sL_law_481, sL_law_482, sL_law_483, sL_law_484, sL_law_486, sL_law_487, sL_law_488, sL_law_493, hou, Option.some.injEq, Sum.inr.injEq, Sum.inl.injEq, Prod.mk.injEq, true_and, and_true, exists_eq_left', exists_eq_left, exists_eq_right, exists_eq_right', exists_and_left, exists_and_right, List.getElem?_cons_succ, List.getElem?_cons_zero, List.length_cons, List.length_nil, List.set_cons_zero, List.set_cons_succ, Option.toList_some, Option.toList_none, List.nil_append, List.cons_append, mj_up_s, true_or, or_true, Nat.sub_zero, and_assoc, b10, not_true_eq_false, not_false_eq_true, false_implies, true_implies, implies_true, eq_self, and_self, rf_some, rf_none]
    refine And.intro (vp_in_nI (n := 0) (by omega) (by decide)) ?_
    rw [show (0 : Int32).toNatClampNeg = 0 from rfl, hog]
    simp only [Option.getD_some, lg_same, Option.some.injEq, Sum.inr.injEq, Sum.inl.injEq, Prod.mk.injEq, true_and, and_true, exists_eq_left', exists_eq_left, exists_eq_right, exists_eq_right', exists_and_left, exists_and_right, List.getElem?_cons_succ, List.getElem?_cons_zero, List.length_cons, List.length_nil, List.set_cons_zero, List.set_cons_succ, Option.toList_some, Option.toList_none, List.nil_append, List.cons_append, mj_up_s, true_or, or_true, Nat.sub_zero, and_assoc, b10, not_true_eq_false, not_false_eq_true, false_implies, true_implies, implies_true, eq_self, and_self, rf_some, rf_none]
    exact nx
theorem sw39 {v0 v1 v2 v3 v4 v5 v6 : Value} {st : List Value} {j : Nat} (hj : j < 32) (h0 : 17 ≤ j → mj_W f w 89 (mj_Zl Z) Q 755 [v0, v1, v2, v3, v4, v5, v6] st h n rc rs)
    (h1 : ∀ off : Int, (#[81, 106, 145, 170, 195, 220, 288, 313, 350, 389, 457, 494, 543, 568, 605, 654, 691] : Array Int)[j]? = some off → mj_W f w 89 (mj_Zl Z) Q (mj_tg 39 off) [v0, v1, v2, v3, v4, v5, v6] st h n rc rs) : mj_W f w 89 (mj_Zl Z) Q 39 [v0, v1, v2, v3, v4, v5, v6] (.int (nI j) :: st) h n rc rs := by
  have tj := nI_tI (n := j) (by omega)
  rw [z_tsw (show decode (mj_code 89) 39 = .ok (.tableswitch 716 0 16 #[81, 106, 145, 170, 195, 220, 288, 313, 350, 389, 457, 494, 543, 568, 605, 654, 691], 81) by decide +kernel) rfl rfl, tj]
  refine ⟨by decide, fun c => h0 (by omega), fun c => ?_⟩
  have hj17 : j < 17 := by omega
  have e : ((j : Int) - 0).toNat = j := by omega
  rw [e]
  obtain ⟨off, ho⟩ : ∃ off, (#[81, 106, 145, 170, 195, 220, 288, 313, 350, 389, 457, 494, 543, 568, 605, 654, 691] : Array Int)[j]? = some off := ⟨_, Array.getElem?_eq_getElem (by show j < 17; omega)⟩
  refine ⟨off, ho, ?_, h1 off ho⟩
  have : ∀ j, j < 17 → ∀ off, (#[81, 106, 145, 170, 195, 220, 288, 313, 350, 389, 457, 494, 543, 568, 605, 654, 691] : Array Int)[j]? = some off → 0 ≤ (39 : Int) + off := by
    intro j hj off ho
    have hq : ∀ j : Fin 17, ∃ o : Int, (#[81, 106, 145, 170, 195, 220, 288, 313, 350, 389, 457, 494, 543, 568, 605, 654, 691] : Array Int)[j.val]? = some o ∧ 0 ≤ (39 : Int) + o := by decide
    obtain ⟨o, e1, e2⟩ := hq ⟨j, hj⟩
    have e1 : (#[81, 106, 145, 170, 195, 220, 288, 313, 350, 389, 457, 494, 543, 568, 605, 654, 691] : Array Int)[j]? = some o := e1
    rw [ho] at e1
    cases e1; exact e2
  exact this j hj17 off ho
set_option maxRecDepth 100000 in
/-- a turn: as far as its end, or the call of at or octet -/
theorem t_turn (hf : 7 ≤ f) (hw : 164 ≤ w) (hG : GX S S n h AD len sg X A og C) (hO : OK S) (hk : k + 4 ≤ len) (hlen : len ≤ 2048) (hc : bc k S ≤ rc) (hs : bs k S ≤ rs) (hN : NX f w Z Q len sg k)
    (hA : Z 273 (LSt AD k v5 v6) [.ref (AD 8 0), .int (sg (k + 2)), .int (sg (k + 1)), .ref (AD 5 0)] h n rc rs) (hB : Z 442 (LSt AD k v5 v6) [.ref (AD 8 0), .int (sg (k + 2)), .int (sg (k + 1)), .ref (AD 5 0)] h n rc rs) : mj_W f w 89 (mj_Zl Z) Q 23 (LSt AD k v5 v6) [] h n rc rs := by
  have hsc := hG.sc
  have e4 : nI len - 4 = nI (len - 4) := by rw [show (4 : Int32) = nI 4 from rfl, pk_sub (by omega)]
  refine sL_law_23 ?_
  have eL : Int32.ofNat len = nI len := rfl
  simp only [sL_law_25, sL_law_26, sL_law_27, sL_law_28, sL_law_29, hsc, Option.some.injEq, Sum.inr.injEq, Sum.inl.injEq, Prod.mk.injEq, true_and, and_true, exists_eq_left', exists_eq_left, exists_eq_right, exists_eq_right', exists_and_left, exists_and_right, List.getElem?_cons_succ, List.getElem?_cons_zero, List.length_cons, List.length_nil, List.set_cons_zero, List.set_cons_succ, Option.toList_some, Option.toList_none, List.nil_append, List.cons_append, mj_up_s, true_or, or_true, Nat.sub_zero, and_assoc, b10, not_true_eq_false, not_false_eq_true, false_implies, true_implies, implies_true, eq_self, and_self, rf_some, rf_none, eL, e4]
  refine And.intro (fun c => absurd c (by have a1 := nI_tI (n := len - 4) (by omega); have a2 := nI_tI (n := k) (by omega); intro z; rw [Int32.lt_iff_toInt_lt, a1, a2] at z; omega)) (fun _ => ?_)
  simp only [sL_law_32, sL_law_33, sL_law_35, sL_law_36, sL_law_38, hsc, Option.some.injEq, Sum.inr.injEq, Sum.inl.injEq, Prod.mk.injEq, true_and, and_true, exists_eq_left', exists_eq_left, exists_eq_right, exists_eq_right', exists_and_left, exists_and_right, List.getElem?_cons_succ, List.getElem?_cons_zero, List.length_cons, List.length_nil, List.set_cons_zero, List.set_cons_succ, Option.toList_some, Option.toList_none, List.nil_append, List.cons_append, mj_up_s, true_or, or_true, Nat.sub_zero, and_assoc, b10, not_true_eq_false, not_false_eq_true, false_implies, true_implies, implies_true, eq_self, and_self, rf_some, rf_none, nI_cl (show k < 2147483648 by omega)]
  refine And.intro (vp_in_nI (by omega) (by omega)) ?_
  obtain ⟨j, hj, ej⟩ := and31 (sg k)
  rw [ej]
  have e1 : nI k + 1 = nI (k + 1) := by rw [show (1 : Int32) = nI 1 from rfl, nI_add]
  have c1 := nI_cl (show k + 1 < 2147483648 by omega)
  have v1_ : vp_in (nI (k + 1)) len := vp_in_nI (by omega) (by omega)
  have e2 : nI k + 2 = nI (k + 2) := by rw [show (2 : Int32) = nI 2 from rfl, nI_add]
  have c2 := nI_cl (show k + 2 < 2147483648 by omega)
  have v2_ : vp_in (nI (k + 2)) len := vp_in_nI (by omega) (by omega)
  have hc4 : bc (k + 4) S ≤ rc := by unfold bc at hc ⊢; omega
  have hs4 : bs (k + 4) S ≤ rs := by unfold bs at hs ⊢; omega
  refine sw39 hj (fun _ => hN _ _ _ _ _ _ _ _ _ _ _ _ hG hO hc4 hs4) (fun off ho => ?_)
  by_cases j0 : j = 0
  · subst j0
    obtain rfl : (81 : Int) = off := Option.some.inj ho
    exact t_object hf hw hG hO hk hlen hc hs hN
  by_cases j1 : j = 1
  · subst j1
    obtain rfl : (106 : Int) = off := Option.some.inj ho
    exact t_put hf hw hG hO hk hlen hc hs hN
  by_cases j2 : j = 2
  · subst j2
    obtain rfl : (145 : Int) = off := Option.some.inj ho
    exact t_change hf hw hG hO hk hlen hc hs hN
  by_cases j3 : j = 3
  · subst j3
    obtain rfl : (170 : Int) = off := Option.some.inj ho
    exact t_pack hf hw hG hO hk hlen hc hs hN
  by_cases j4 : j = 4
  · subst j4
    obtain rfl : (195 : Int) = off := Option.some.inj ho
    exact t_size hf hw hG hO hk hlen hc hs hN
  by_cases j5 : j = 5
  · subst j5
    obtain rfl : (220 : Int) = off := Option.some.inj ho
    show mj_W f w 89 (mj_Zl Z) Q 259 _ _ _ _ _ _
    simp only [sL_law_259, sL_law_260, sL_law_261, sL_law_263, sL_law_264, sL_law_265, sL_law_266, sL_law_267, sL_law_269, sL_law_270, sL_law_271, sL_law_272, hsc, Option.some.injEq, Sum.inr.injEq, Sum.inl.injEq, Prod.mk.injEq, true_and, and_true, exists_eq_left', exists_eq_left, exists_eq_right, exists_eq_right', exists_and_left, exists_and_right, List.getElem?_cons_succ, List.getElem?_cons_zero, List.length_cons, List.length_nil, List.set_cons_zero, List.set_cons_succ, Option.toList_some, Option.toList_none, List.nil_append, List.cons_append, mj_up_s, true_or, or_true, Nat.sub_zero, and_assoc, b10, not_true_eq_false, not_false_eq_true, false_implies, true_implies, implies_true, eq_self, and_self, rf_some, rf_none, e1, c1, e2, c2]
    exact And.intro v1_ (And.intro v2_ (mj_cut rfl hA))
  by_cases j6 : j = 6
  · subst j6
    obtain rfl : (288 : Int) = off := Option.some.inj ho
    exact t_in hf hw hG hO hk hlen hc hs hN
  by_cases j7 : j = 7
  · subst j7
    obtain rfl : (313 : Int) = off := Option.some.inj ho
    exact t_raw hf hw hG hO hk hlen hc hs hN
  by_cases j8 : j = 8
  · subst j8
    obtain rfl : (350 : Int) = off := Option.some.inj ho
    exact t_add hf hw hG hO hk hlen hc hs hN
  by_cases j9 : j = 9
  · subst j9
    obtain rfl : (389 : Int) = off := Option.some.inj ho
    show mj_W f w 89 (mj_Zl Z) Q 428 _ _ _ _ _ _
    simp only [sL_law_428, sL_law_429, sL_law_430, sL_law_432, sL_law_433, sL_law_434, sL_law_435, sL_law_436, sL_law_438, sL_law_439, sL_law_440, sL_law_441, hsc, Option.some.injEq, Sum.inr.injEq, Sum.inl.injEq, Prod.mk.injEq, true_and, and_true, exists_eq_left', exists_eq_left, exists_eq_right, exists_eq_right', exists_and_left, exists_and_right, List.getElem?_cons_succ, List.getElem?_cons_zero, List.length_cons, List.length_nil, List.set_cons_zero, List.set_cons_succ, Option.toList_some, Option.toList_none, List.nil_append, List.cons_append, mj_up_s, true_or, or_true, Nat.sub_zero, and_assoc, b10, not_true_eq_false, not_false_eq_true, false_implies, true_implies, implies_true, eq_self, and_self, rf_some, rf_none, e1, c1, e2, c2]
    exact And.intro v1_ (And.intro v2_ (mj_cut rfl hB))
  by_cases j10 : j = 10
  · subst j10
    obtain rfl : (457 : Int) = off := Option.some.inj ho
    exact t_extend hf hw hG hO hk hlen hc hs hN
  by_cases j11 : j = 11
  · subst j11
    obtain rfl : (494 : Int) = off := Option.some.inj ho
    exact t_row hf hw hG hO hk hlen hc hs hN
  by_cases j12 : j = 12
  · subst j12
    obtain rfl : (543 : Int) = off := Option.some.inj ho
    exact t_read hf hw hG hO hk hlen hc hs hN
  by_cases j13 : j = 13
  · subst j13
    obtain rfl : (568 : Int) = off := Option.some.inj ho
    exact t_told hf hw hG hO hk hlen hc hs hN
  by_cases j14 : j = 14
  · subst j14
    obtain rfl : (605 : Int) = off := Option.some.inj ho
    exact t_pair hf hw hG hO hk hlen hc hs hN
  by_cases j15 : j = 15
  · subst j15
    obtain rfl : (654 : Int) = off := Option.some.inj ho
    exact t_find hf hw hG hO hk hlen hc hs hN
  by_cases j16 : j = 16
  · subst j16
    obtain rfl : (691 : Int) = off := Option.some.inj ho
    exact t_count hf hw hG hO hk hlen hc hs hN
  have : (#[81, 106, 145, 170, 195, 220, 288, 313, 350, 389, 457, 494, 543, 568, 605, 654, 691] : Array Int)[j]? = none := Array.getElem?_eq_none (by show 17 ≤ j; omega)
  rw [this] at ho; cases ho
/-- the last turn -/
theorem t_last (hG : GX S S n h AD len sg X A og C) (hk : len < k + 4) (hk2 : k ≤ 2048) (hlen : len ≤ 2048) (hQ : Q (some (.int 1)) h n) : mj_W f w 89 (mj_Zl Z) Q 23 (LSt AD k v5 v6) [] h n rc rs := by
  have hsc := hG.sc
  refine sL_law_23 ?_
  have eL : Int32.ofNat len = nI len := rfl
  simp only [sL_law_25, sL_law_26, sL_law_27, sL_law_28, sL_law_29, hsc, Option.some.injEq, Sum.inr.injEq, Sum.inl.injEq, Prod.mk.injEq, true_and, and_true, exists_eq_left', exists_eq_left, exists_eq_right, exists_eq_right', exists_and_left, exists_and_right, List.getElem?_cons_succ, List.getElem?_cons_zero, List.length_cons, List.length_nil, List.set_cons_zero, List.set_cons_succ, Option.toList_some, Option.toList_none, List.nil_append, List.cons_append, mj_up_s, true_or, or_true, Nat.sub_zero, and_assoc, b10, not_true_eq_false, not_false_eq_true, false_implies, true_implies, implies_true, eq_self, and_self, rf_some, rf_none, eL]
  have a1 := pk_sub_toInt (a := len) (b := 4) (by omega) (by decide)
  have a2 := nI_tI (n := k) (by omega)
  have hlt : nI len - 4 < nI k := by rw [Int32.lt_iff_toInt_lt, a2]; show (nI len - nI 4).toInt < _; rw [a1]; omega
  refine And.intro (fun _ => ?_) (fun c => absurd hlt c)
  simp only [sL_law_761, sL_law_762]
  exact And.intro rfl hQ
/-- behind a turn -/
theorem t_nx {len : Nat} (h23 : ∀ S AD X A og C h n rc rs v5 v6, GX S S n h AD len sg X A og C → OK S → bc (k + 4) S ≤ rc → bs (k + 4) S ≤ rs → Z 23 (LSt AD (k + 4) v5 v6) [] h n rc rs) : NX f w Z Q len sg k := by
  intro S AD X A og C h n rc rs v5 v6 hG hO hc hs
  have e : nI k + 4 = nI (k + 4) := by rw [show (4 : Int32) = nI 4 from rfl, nI_add]
  simp only [sL_law_755, sL_law_758, e]
  exact mj_cut rfl (h23 _ _ _ _ _ _ _ _ _ _ _ _ hG hO hc hs)
end
