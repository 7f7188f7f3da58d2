/-! ===== the reference: contents ===== -/
/-- only the content's array and size may have changed -/
def sameC (X X' : Nat → Int32) (A A' : Nat → Nat → Int32) : Prop := (∀ t, t ≠ 14 → X' t = X t) ∧ ∀ j, j ≠ 11 → A' j = A j
theorem sameC.rf {X : Nat → Int32} {A : Nat → Nat → Int32} : sameC X X A A := ⟨fun _ _ => rfl, fun _ _ => rfl⟩
theorem sameC.trans {X X1 X2 : Nat → Int32} {A A1 A2 : Nat → Nat → Int32} (h1 : sameC X X1 A A1) (h2 : sameC X1 X2 A1 A2) : sameC X X2 A A2 := ⟨fun t ht => (h2.1 t ht).trans (h1.1 t ht), fun j hj => (h2.2 j hj).trans (h1.2 j hj)⟩
theorem sameC.x {X : Nat → Int32} {A : Nat → Nat → Int32} {v : Int32} : sameC X (Xw X 14 v) A A := ⟨fun _ h => Xw_n h, fun _ _ => rfl⟩
theorem sameC.a {X : Nat → Int32} {A : Nat → Nat → Int32} {i : Nat} {v : Int32} : sameC X X A (Aw A 11 i v) := ⟨fun _ _ => rfl, fun _ h => Aw_n h⟩
theorem CM.congr {S : St} {X X' : Nat → Int32} {A A' : Nat → Nat → Int32} (hR : CM S X A) (h1 : X' 1 = X 1) (h7 : X' 7 = X 7) (h15 : X' 15 = X 15) (hA : ∀ j, j ≤ 13 → j ≠ 11 → A' j = A j) : CM S X' A' := by
  unfold CM at hR ⊢
  rw [h1, h7, h15, hA 1 (by omega) (by omega), hA 2 (by omega) (by omega), hA 3 (by omega) (by omega), hA 4 (by omega) (by omega), hA 5 (by omega) (by omega), hA 6 (by omega) (by omega), hA 7 (by omega) (by omega), hA 8 (by omega) (by omega), hA 9 (by omega) (by omega), hA 10 (by omega) (by omega), hA 12 (by omega) (by omega), hA 13 (by omega) (by omega)]
  exact hR
theorem CM.same {S : St} {X X' : Nat → Int32} {A A' : Nat → Nat → Int32} (hR : CM S X A) (h : sameC X X' A A') : CM S X' A' := hR.congr (h.1 1 (by omega)) (h.1 7 (by omega)) (h.1 15 (by omega)) (fun j _ hj => h.2 j hj)
/-- the content lies there -/
def CTN (X : Nat → Int32) (A : Nat → Nat → Int32) (o : Option Nat) (b : Nat → Nat) : Prop := X 14 = oI o ∧ ∀ L, o = some L → ∀ j, j < L → A 11 j = nI (b j)
section
variable {f w : Nat} {Q : mj_Q} {h0 h : mj_H} {n mc ms : Nat} {S : St} {AD : Ad} {X : Nat → Int32} {A : Nat → Nat → Int32}
set_option maxRecDepth 100000 in
set_option maxHeartbeats 1000000 in
theorem r_unpack (hf : 3 ≤ f) (hw : 71 ≤ w) (hM : MHF h0 h AD X A) (hR : CM S X A) (hW : WF S) {p k : Nat} (hp : p < S_np S) (hk : k < 1000) {prev : Option Nat} (hprev : X 14 = oI prev) (hp5 : prev.getD 0 ≤ 510)
    (hQ : ∀ h' X' A', MHF h0 h' AD X' A' → sameC X X' A A' → X' 14 = oI (S_lb S p k (prev.getD 0)) → (∀ L, S_lb S p k (prev.getD 0) = some L → ∀ j, j < L → A' 11 j = if j < S_s S p k then A 11 j else nI (S_pb S p (S_at S p k + 2 + (j - S_s S p k)))) → Q none h' n) : mj_bk f w 61 [.ref (AD 6 0), .int (nI p), .int (nI k)] h n mc ms Q := by
  have w1 := hW.2.1
  obtain ⟨a6, a7, a8, a9, a10⟩ := hR.2.2.2.2.2.1 p hp
  obtain ⟨p1, p2, p3, p4⟩ := (hW.2.2.2.2.2 p hp).1
  have cp := nI_cl (show p < 2147483648 by omega)
  have vp : vp_in (nI p) 20 := vp_in_nI (by omega) (by decide)
  refine mj_begin (by omega) (by decide) (by show 27 ≤ w; omega) rfl ?_
  show mj_W _ _ 61 mj_noZ Q 0 [.ref (AD 6 0), .int (nI p), .int (nI k), .retAddr 0, .retAddr 0, .retAddr 0, .retAddr 0, .retAddr 0] [] h n mc ms
  -- behind the first three rows
  have tail : mj_W (f - 1) (w - (19 + mj_maxL 61)) 61 mj_noZ Q 15 [.ref (AD 6 0), .int (nI p), .int (nI k), .retAddr 0, .retAddr 0, .retAddr 0, .retAddr 0, .retAddr 0] [.int (nI (prev.getD 0))] h n mc ms := by
    simp only [sX3_unpack_0, sX3_unpack_1, sX3_unpack_4, sX3_unpack_7, sX3_unpack_8, sX3_unpack_11, sX3_unpack_12, sX3_unpack_15, sX3_unpack_16, sX3_unpack_17, sX3_unpack_18, sX3_unpack_21, sX3_unpack_22, sX3_unpack_23, sX3_unpack_27, sX3_unpack_30, sX3_unpack_31, sX3_unpack_32, sX3_unpack_35, sX3_unpack_36, sX3_unpack_37, sX3_unpack_38, sX3_unpack_39, sX3_unpack_40, sX3_unpack_41, sX3_unpack_42, sX3_unpack_43, sX3_unpack_47, sX3_unpack_48, sX3_unpack_50, sX3_unpack_52, sX3_unpack_53, sX3_unpack_54, sX3_unpack_55, sX3_unpack_58, sX3_unpack_59, sX3_unpack_60, sX3_unpack_63, sX3_unpack_64, sX3_unpack_65, sX3_unpack_68, sX3_unpack_71, sX3_unpack_72, sX3_unpack_73, sX3_unpack_75, sX3_unpack_76, sX3_unpack_77, sX3_unpack_79, sX3_unpack_80, sX3_unpack_83, sX3_unpack_86, sX3_unpack_87, sX3_unpack_88, sX3_unpack_90, sX3_unpack_91, sX3_unpack_92, sX3_unpack_93, sX3_unpack_94, sX3_unpack_96, sX3_unpack_98, sX3_unpack_99, sX3_unpack_100, sX3_unpack_102, sX3_unpack_103, sX3_unpack_104, sX3_unpack_107, sX3_unpack_108, sX3_unpack_109, sX3_unpack_112, sX3_unpack_114, sX3_unpack_115, sX3_unpack_118, sX3_unpack_119, sX3_unpack_120, sX3_unpack_124, sX3_unpack_126, sX3_unpack_129, sX3_unpack_130, sX3_unpack_133, sX3_unpack_135, sX3_unpack_137, sX3_unpack_138, sX3_unpack_139, sX3_unpack_142, sX3_unpack_145, sX3_unpack_146, sX3_unpack_147, sX3_unpack_149, sX3_unpack_150, sX3_unpack_151, sX3_unpack_152, sX3_unpack_154, sX3_unpack_155, sX3_unpack_156, sX3_unpack_157, sX3_unpack_160, sX3_unpack_163, sX3_unpack_164, sX3_unpack_166, sX3_unpack_168, sX3_unpack_169, sX3_unpack_172, hM.ob, nfi_3_0, ffi_3_0, nfi_3_1, ffi_3_1, nfr_3_2, ffr_3_2, nfu_3_2, ffu_3_2, nfr_3_3, ffr_3_3, nfu_3_3, ffu_3_3, nfr_3_4, ffr_3_4, nfu_3_4, ffu_3_4, nfr_3_5, ffr_3_5, nfu_3_5, ffu_3_5, nfr_3_6, ffr_3_6, nfu_3_6, ffu_3_6, nfi_3_7, ffi_3_7, nfr_3_8, ffr_3_8, nfu_3_8, ffu_3_8, nfr_3_9, ffr_3_9, nfu_3_9, ffu_3_9, nfr_3_10, ffr_3_10, nfu_3_10, ffu_3_10, nfr_3_11, ffr_3_11, nfu_3_11, ffu_3_11, nfr_3_12, ffr_3_12, nfu_3_12, ffu_3_12, nfr_3_13, ffr_3_13, nfu_3_13, ffu_3_13, nfi_3_14, ffi_3_14, nfi_3_15, ffi_3_15, nfr_3_16, ffr_3_16, nfu_3_16, ffu_3_16, nfr_3_17, ffr_3_17, nfu_3_17, ffu_3_17, nfr_3_18, ffr_3_18, nfu_3_18, ffu_3_18, nfr_3_19, ffr_3_19, nfu_3_19, ffu_3_19, nfr_3_20, ffr_3_20, nfu_3_20, ffu_3_20, nfi_3_21, ffi_3_21, Option.some.injEq, Sum.inr.injEq, Sum.inl.injEq, Prod.mk.injEq, true_and, and_true, exists_eq_left', exists_eq_left, exists_eq_right, exists_eq_right', exists_and_left, exists_and_right, List.getElem?_cons_succ, List.getElem?_cons_zero, List.length_cons, List.length_nil, List.set_cons_zero, List.set_cons_succ, Option.toList_some, Option.toList_none, List.nil_append, List.cons_append, mj_up_s, true_or, or_true, Nat.sub_zero, and_assoc, b10, not_true_eq_false, not_false_eq_true, false_implies, true_implies, implies_true, eq_self, and_self, rf_some, rf_none]
    refine And.intro (by decide) ?_
    generalize hH : mj_up h (AD 6 0) _ = h1
    have hM1 : MHF h0 h1 AD (Xw X 14 (-1)) A := hH ▸ hM.putX 14 (-1)
    have hR1 : CM S (Xw X 14 (-1)) A := hR.same sameC.x
    have h7 := hM1.ar 7 (by omega) (by omega)
    have h9 := hM1.ar 9 (by omega) (by omega)
    have h10 := hM1.ar 10 (by omega) (by omega)
    clear hH
    have none_ : S_lb S p k (prev.getD 0) = none → Q none h1 n := fun e => by
      refine hQ h1 _ A hM1 sameC.x (by rw [Xw_s, e]; rfl) (fun L hL => ?_)
      rw [e] at hL; cases hL
    refine sX3_unpack_24z hM1.ob rfl (r_isThere (by omega) (by show 44 ≤ w - 27; omega) hM1 hR1 hW hp ?_)
    rw [S_thI_n (show k < 2147483648 by omega)]
    by_cases ht : S_th S p k = true
    · rw [if_pos ht]
      have hnum := S_num_lt (S := S) (p := p) (k := k) (wh := 1) p4
      have e1 : (4 : Int32) * nI k + 2 = nI (4 * k + 2 * 1) := by rw [show (4 : Int32) = nI 4 from rfl, show (2 : Int32) = nI 2 from rfl, pk_mul, nI_add]
      simp only [sX3_unpack_0, sX3_unpack_1, sX3_unpack_4, sX3_unpack_7, sX3_unpack_8, sX3_unpack_11, sX3_unpack_12, sX3_unpack_15, sX3_unpack_16, sX3_unpack_17, sX3_unpack_18, sX3_unpack_21, sX3_unpack_22, sX3_unpack_23, sX3_unpack_27, sX3_unpack_30, sX3_unpack_31, sX3_unpack_32, sX3_unpack_35, sX3_unpack_36, sX3_unpack_37, sX3_unpack_38, sX3_unpack_39, sX3_unpack_40, sX3_unpack_41, sX3_unpack_42, sX3_unpack_43, sX3_unpack_47, sX3_unpack_48, sX3_unpack_50, sX3_unpack_52, sX3_unpack_53, sX3_unpack_54, sX3_unpack_55, sX3_unpack_58, sX3_unpack_59, sX3_unpack_60, sX3_unpack_63, sX3_unpack_64, sX3_unpack_65, sX3_unpack_68, sX3_unpack_71, sX3_unpack_72, sX3_unpack_73, sX3_unpack_75, sX3_unpack_76, sX3_unpack_77, sX3_unpack_79, sX3_unpack_80, sX3_unpack_83, sX3_unpack_86, sX3_unpack_87, sX3_unpack_88, sX3_unpack_90, sX3_unpack_91, sX3_unpack_92, sX3_unpack_93, sX3_unpack_94, sX3_unpack_96, sX3_unpack_98, sX3_unpack_99, sX3_unpack_100, sX3_unpack_102, sX3_unpack_103, sX3_unpack_104, sX3_unpack_107, sX3_unpack_108, sX3_unpack_109, sX3_unpack_112, sX3_unpack_114, sX3_unpack_115, sX3_unpack_118, sX3_unpack_119, sX3_unpack_120, sX3_unpack_124, sX3_unpack_126, sX3_unpack_129, sX3_unpack_130, sX3_unpack_133, sX3_unpack_135, sX3_unpack_137, sX3_unpack_138, sX3_unpack_139, sX3_unpack_142, sX3_unpack_145, sX3_unpack_146, sX3_unpack_147, sX3_unpack_149, sX3_unpack_150, sX3_unpack_151, sX3_unpack_152, sX3_unpack_154, sX3_unpack_155, sX3_unpack_156, sX3_unpack_157, sX3_unpack_160, sX3_unpack_163, sX3_unpack_164, sX3_unpack_166, sX3_unpack_168, sX3_unpack_169, sX3_unpack_172, hM1.ob, h7, Option.some.injEq, Sum.inr.injEq, Sum.inl.injEq, Prod.mk.injEq, true_and, and_true, exists_eq_left', exists_eq_left, exists_eq_right, exists_eq_right', exists_and_left, exists_and_right, List.getElem?_cons_succ, List.getElem?_cons_zero, List.length_cons, List.length_nil, List.set_cons_zero, List.set_cons_succ, Option.toList_some, Option.toList_none, List.nil_append, List.cons_append, mj_up_s, true_or, or_true, Nat.sub_zero, and_assoc, b10, not_true_eq_false, not_false_eq_true, false_implies, true_implies, implies_true, eq_self, and_self, rf_some, rf_none, cp, a7, e1]
      refine And.intro vp ?_
      refine sX3_unpack_44z hM1.ob rfl (r_two (wh := 1) (by omega) (by show 22 ≤ w - 27; omega) hM1 hR1 hW hp (by omega) ht ?_)
      have e2 : nI (S_fs S p) + nI (S_num S p k 1) = nI (S_at S p k) := nI_add _ _
      have hat : S_at S p k < 70000 := by unfold S_at; omega
      have e3 : nI (S_at S p k) + 2 = nI (S_at S p k + 2) := by rw [show (2 : Int32) = nI 2 from rfl, nI_add]
      simp only [sX3_unpack_0, sX3_unpack_1, sX3_unpack_4, sX3_unpack_7, sX3_unpack_8, sX3_unpack_11, sX3_unpack_12, sX3_unpack_15, sX3_unpack_16, sX3_unpack_17, sX3_unpack_18, sX3_unpack_21, sX3_unpack_22, sX3_unpack_23, sX3_unpack_27, sX3_unpack_30, sX3_unpack_31, sX3_unpack_32, sX3_unpack_35, sX3_unpack_36, sX3_unpack_37, sX3_unpack_38, sX3_unpack_39, sX3_unpack_40, sX3_unpack_41, sX3_unpack_42, sX3_unpack_43, sX3_unpack_47, sX3_unpack_48, sX3_unpack_50, sX3_unpack_52, sX3_unpack_53, sX3_unpack_54, sX3_unpack_55, sX3_unpack_58, sX3_unpack_59, sX3_unpack_60, sX3_unpack_63, sX3_unpack_65, sX3_unpack_68, sX3_unpack_71, sX3_unpack_72, sX3_unpack_73, sX3_unpack_75, sX3_unpack_76, sX3_unpack_77, sX3_unpack_79, sX3_unpack_80, sX3_unpack_83, sX3_unpack_86, sX3_unpack_87, sX3_unpack_88, sX3_unpack_90, sX3_unpack_91, sX3_unpack_92, sX3_unpack_93, sX3_unpack_94, sX3_unpack_96, sX3_unpack_98, sX3_unpack_99, sX3_unpack_100, sX3_unpack_102, sX3_unpack_103, sX3_unpack_104, sX3_unpack_107, sX3_unpack_108, sX3_unpack_109, sX3_unpack_112, sX3_unpack_114, sX3_unpack_115, sX3_unpack_118, sX3_unpack_119, sX3_unpack_120, sX3_unpack_124, sX3_unpack_126, sX3_unpack_129, sX3_unpack_130, sX3_unpack_133, sX3_unpack_135, sX3_unpack_137, sX3_unpack_138, sX3_unpack_139, sX3_unpack_142, sX3_unpack_145, sX3_unpack_146, sX3_unpack_147, sX3_unpack_149, sX3_unpack_150, sX3_unpack_151, sX3_unpack_152, sX3_unpack_154, sX3_unpack_155, sX3_unpack_156, sX3_unpack_157, sX3_unpack_160, sX3_unpack_163, sX3_unpack_164, sX3_unpack_166, sX3_unpack_168, sX3_unpack_169, sX3_unpack_172, hM1.ob, h9, Option.some.injEq, Sum.inr.injEq, Sum.inl.injEq, Prod.mk.injEq, true_and, and_true, exists_eq_left', exists_eq_left, exists_eq_right, exists_eq_right', exists_and_left, exists_and_right, List.getElem?_cons_succ, List.getElem?_cons_zero, List.length_cons, List.length_nil, List.set_cons_zero, List.set_cons_succ, Option.toList_some, Option.toList_none, List.nil_append, List.cons_append, mj_up_s, true_or, or_true, Nat.sub_zero, and_assoc, b10, not_true_eq_false, not_false_eq_true, false_implies, true_implies, implies_true, eq_self, and_self, rf_some, rf_none, cp, a9, e2, e3]
      refine And.intro vp ?_
      by_cases h1c : S_at S p k + 2 ≤ S_pz S p
      · refine And.intro (fun _ => ?_) (fun c => absurd (nI_le h1c (by omega)) c)
        have e4 : (600 : Int32) * nI p + nI (S_at S p k) = nI (600 * p + S_at S p k) := by rw [show (600 : Int32) = nI 600 from rfl, pk_mul, nI_add]
        have e5 : nI (600 * p + S_at S p k) + 1 = nI (600 * p + (S_at S p k + 1)) := nI_1 _
        have b1 : S_s S p k < 256 := p4 _
        have b2 : S_m S p k < 256 := p4 _
        have g1 : A 10 (600 * p + S_at S p k) = nI (S_s S p k) := a10 _ (by omega)
        have g2 : A 10 (600 * p + (S_at S p k + 1)) = nI (S_m S p k) := a10 _ (by omega)
        have e6 : nI (S_at S p k + 2) + nI (S_m S p k) = nI (S_at S p k + 2 + S_m S p k) := nI_add _ _
        rw [sX3_unpack_64]
        simp only [sX3_unpack_0, sX3_unpack_1, sX3_unpack_4, sX3_unpack_7, sX3_unpack_8, sX3_unpack_11, sX3_unpack_12, sX3_unpack_15, sX3_unpack_16, sX3_unpack_17, sX3_unpack_18, sX3_unpack_21, sX3_unpack_22, sX3_unpack_23, sX3_unpack_27, sX3_unpack_30, sX3_unpack_31, sX3_unpack_32, sX3_unpack_35, sX3_unpack_36, sX3_unpack_37, sX3_unpack_38, sX3_unpack_39, sX3_unpack_40, sX3_unpack_41, sX3_unpack_42, sX3_unpack_43, sX3_unpack_47, sX3_unpack_48, sX3_unpack_50, sX3_unpack_52, sX3_unpack_53, sX3_unpack_54, sX3_unpack_55, sX3_unpack_58, sX3_unpack_59, sX3_unpack_60, sX3_unpack_63, sX3_unpack_64, sX3_unpack_65, sX3_unpack_68, sX3_unpack_71, sX3_unpack_72, sX3_unpack_73, sX3_unpack_75, sX3_unpack_76, sX3_unpack_77, sX3_unpack_79, sX3_unpack_80, sX3_unpack_83, sX3_unpack_86, sX3_unpack_87, sX3_unpack_88, sX3_unpack_90, sX3_unpack_91, sX3_unpack_92, sX3_unpack_93, sX3_unpack_94, sX3_unpack_96, sX3_unpack_98, sX3_unpack_99, sX3_unpack_100, sX3_unpack_102, sX3_unpack_103, sX3_unpack_104, sX3_unpack_107, sX3_unpack_108, sX3_unpack_109, sX3_unpack_112, sX3_unpack_114, sX3_unpack_115, sX3_unpack_118, sX3_unpack_119, sX3_unpack_120, sX3_unpack_124, sX3_unpack_126, sX3_unpack_129, sX3_unpack_130, sX3_unpack_133, sX3_unpack_135, sX3_unpack_137, sX3_unpack_138, sX3_unpack_139, sX3_unpack_142, sX3_unpack_145, sX3_unpack_146, sX3_unpack_147, sX3_unpack_149, sX3_unpack_150, sX3_unpack_151, sX3_unpack_152, sX3_unpack_154, sX3_unpack_155, sX3_unpack_156, sX3_unpack_157, sX3_unpack_160, sX3_unpack_163, sX3_unpack_164, sX3_unpack_166, sX3_unpack_168, sX3_unpack_169, sX3_unpack_172, hM1.ob, h9, h10, Option.some.injEq, Sum.inr.injEq, Sum.inl.injEq, Prod.mk.injEq, true_and, and_true, exists_eq_left', exists_eq_left, exists_eq_right, exists_eq_right', exists_and_left, exists_and_right, List.getElem?_cons_succ, List.getElem?_cons_zero, List.length_cons, List.length_nil, List.set_cons_zero, List.set_cons_succ, Option.toList_some, Option.toList_none, List.nil_append, List.cons_append, mj_up_s, true_or, or_true, Nat.sub_zero, and_assoc, b10, not_true_eq_false, not_false_eq_true, false_implies, true_implies, implies_true, eq_self, and_self, rf_some, rf_none, cp, a9, e3, e4, e5, e6, nI_cl (show 600 * p + S_at S p k < 2147483648 by omega), nI_cl (show 600 * p + (S_at S p k + 1) < 2147483648 by omega), g1, g2]
        refine And.intro (vp_in_nI (show _ < 12000 by omega) (by decide)) (And.intro (vp_in_nI (show _ < 12000 by omega) (by decide)) (And.intro vp ?_))
        by_cases hc2 : S_at S p k + 2 + S_m S p k ≤ S_pz S p
        · refine And.intro (fun c => absurd c (nI_nlt hc2 (by omega))) (fun _ => ?_)
          by_cases hc3 : S_s S p k ≤ prev.getD 0
          · have elb : S_lb S p k (prev.getD 0) = some (S_s S p k + S_m S p k) := if_pos ⟨ht, h1c, hc3, hc2⟩
            refine And.intro (fun _ => ?_) (fun c => absurd (nI_le hc3 (by omega)) c)
            have loop : ∀ m t h2 A2, t + m = S_m S p k → MHF h0 h2 AD (Xw X 14 (-1)) A2 → sameC X (Xw X 14 (-1)) A A2 → (∀ j, j < S_s S p k → A2 11 j = A 11 j) → (∀ j, j < t → A2 11 (S_s S p k + j) = nI (S_pb S p (S_at S p k + 2 + j))) → mj_W (f - 1) (w - (19 + mj_maxL 61)) 61 mj_noZ Q 122 [.ref (AD 6 0), .int (nI p), .int (nI k), .int (nI (prev.getD 0)), .int (nI (S_at S p k)), .int (nI (S_s S p k)), .int (nI (S_m S p k)), .int (nI t)] [] h2 n mc ms := by
              intro m
              induction m with
              | zero =>
                intro t h2 A2 ht2 hM2 hs2 hb1 hb2
                obtain rfl : t = S_m S p k := by omega
                rw [sX3_unpack_122]
                simp only [sX3_unpack_0, sX3_unpack_1, sX3_unpack_4, sX3_unpack_7, sX3_unpack_8, sX3_unpack_11, sX3_unpack_12, sX3_unpack_15, sX3_unpack_16, sX3_unpack_17, sX3_unpack_18, sX3_unpack_21, sX3_unpack_22, sX3_unpack_23, sX3_unpack_27, sX3_unpack_30, sX3_unpack_31, sX3_unpack_32, sX3_unpack_35, sX3_unpack_36, sX3_unpack_37, sX3_unpack_38, sX3_unpack_39, sX3_unpack_40, sX3_unpack_41, sX3_unpack_42, sX3_unpack_43, sX3_unpack_47, sX3_unpack_48, sX3_unpack_50, sX3_unpack_52, sX3_unpack_53, sX3_unpack_54, sX3_unpack_55, sX3_unpack_58, sX3_unpack_59, sX3_unpack_60, sX3_unpack_63, sX3_unpack_64, sX3_unpack_65, sX3_unpack_68, sX3_unpack_71, sX3_unpack_72, sX3_unpack_73, sX3_unpack_75, sX3_unpack_76, sX3_unpack_77, sX3_unpack_79, sX3_unpack_80, sX3_unpack_83, sX3_unpack_86, sX3_unpack_87, sX3_unpack_88, sX3_unpack_90, sX3_unpack_91, sX3_unpack_92, sX3_unpack_93, sX3_unpack_94, sX3_unpack_96, sX3_unpack_98, sX3_unpack_99, sX3_unpack_100, sX3_unpack_102, sX3_unpack_103, sX3_unpack_104, sX3_unpack_107, sX3_unpack_108, sX3_unpack_109, sX3_unpack_112, sX3_unpack_114, sX3_unpack_115, sX3_unpack_118, sX3_unpack_119, sX3_unpack_120, sX3_unpack_124, sX3_unpack_126, sX3_unpack_129, sX3_unpack_130, sX3_unpack_133, sX3_unpack_135, sX3_unpack_137, sX3_unpack_138, sX3_unpack_139, sX3_unpack_142, sX3_unpack_145, sX3_unpack_146, sX3_unpack_147, sX3_unpack_149, sX3_unpack_150, sX3_unpack_151, sX3_unpack_152, sX3_unpack_154, sX3_unpack_155, sX3_unpack_156, sX3_unpack_157, sX3_unpack_160, sX3_unpack_163, sX3_unpack_164, sX3_unpack_166, sX3_unpack_168, sX3_unpack_169, sX3_unpack_172, hM2.ob, nfi_3_0, ffi_3_0, nfi_3_1, ffi_3_1, nfr_3_2, ffr_3_2, nfu_3_2, ffu_3_2, nfr_3_3, ffr_3_3, nfu_3_3, ffu_3_3, nfr_3_4, ffr_3_4, nfu_3_4, ffu_3_4, nfr_3_5, ffr_3_5, nfu_3_5, ffu_3_5, nfr_3_6, ffr_3_6, nfu_3_6, ffu_3_6, nfi_3_7, ffi_3_7, nfr_3_8, ffr_3_8, nfu_3_8, ffu_3_8, nfr_3_9, ffr_3_9, nfu_3_9, ffu_3_9, nfr_3_10, ffr_3_10, nfu_3_10, ffu_3_10, nfr_3_11, ffr_3_11, nfu_3_11, ffu_3_11, nfr_3_12, ffr_3_12, nfu_3_12, ffu_3_12, nfr_3_13, ffr_3_13, nfu_3_13, ffu_3_13, nfi_3_14, ffi_3_14, nfi_3_15, ffi_3_15, nfr_3_16, ffr_3_16, nfu_3_16, ffu_3_16, nfr_3_17, ffr_3_17, nfu_3_17, ffu_3_17, nfr_3_18, ffr_3_18, nfu_3_18, ffu_3_18, nfr_3_19, ffr_3_19, nfu_3_19, ffu_3_19, nfr_3_20, ffr_3_20, nfu_3_20, ffu_3_20, nfi_3_21, ffi_3_21, Option.some.injEq, Sum.inr.injEq, Sum.inl.injEq, Prod.mk.injEq, true_and, and_true, exists_eq_left', exists_eq_left, exists_eq_right, exists_eq_right', exists_and_left, exists_and_right, List.getElem?_cons_succ, List.getElem?_cons_zero, List.length_cons, List.length_nil, List.set_cons_zero, List.set_cons_succ, Option.toList_some, Option.toList_none, List.nil_append, List.cons_append, mj_up_s, true_or, or_true, Nat.sub_zero, and_assoc, b10, not_true_eq_false, not_false_eq_true, false_implies, true_implies, implies_true, eq_self, and_self, rf_some, rf_none, nI_add]
                refine And.intro (fun _ => And.intro (by decide) ?_) (fun c => absurd (nI_le (Nat.le_refl _) (by omega)) c)
                generalize hH : mj_up h2 (AD 6 0) _ = h3
                have hM3 : MHF h0 h3 AD (Xw (Xw X 14 (-1)) 14 (nI (S_s S p k + S_m S p k))) A2 := hH ▸ hM2.putX 14 (nI (S_s S p k + S_m S p k))
                refine hQ h3 _ A2 hM3 (hs2.trans sameC.x) (by rw [Xw_s, elb]; rfl) (fun L hL j hj => ?_)
                rw [elb] at hL; cases hL
                split
                · rename_i hjs; exact hb1 j hjs
                · rename_i hjs
                  have := hb2 (j - S_s S p k) (by omega)
                  rw [show S_s S p k + (j - S_s S p k) = j by omega] at this
                  exact this
              | succ m ih =>
                intro t h2 A2 ht2 hM2 hs2 hb1 hb2
                have i11 := hM2.ar 11 (by omega) (by omega)
                have i10 := hM2.ar 10 (by omega) (by omega)
                rw [hs2.2 10 (by omega)] at i10
                have e7 : nI (600 * p + S_at S p k) + 2 + nI t = nI (600 * p + (S_at S p k + 2 + t)) := by rw [show (2 : Int32) = nI 2 from rfl, nI_add, nI_add]; congr 1; omega
                have e8 : nI (S_s S p k) + nI t = nI (S_s S p k + t) := nI_add _ _
                have e9 : nI t + 1 = nI (t + 1) := nI_1 t
                have g3 : A 10 (600 * p + (S_at S p k + 2 + t)) = nI (S_pb S p (S_at S p k + 2 + t)) := a10 _ (by omega)
                rw [sX3_unpack_122]
                simp only [sX3_unpack_0, sX3_unpack_1, sX3_unpack_4, sX3_unpack_7, sX3_unpack_8, sX3_unpack_11, sX3_unpack_12, sX3_unpack_15, sX3_unpack_16, sX3_unpack_17, sX3_unpack_18, sX3_unpack_21, sX3_unpack_22, sX3_unpack_23, sX3_unpack_27, sX3_unpack_30, sX3_unpack_31, sX3_unpack_32, sX3_unpack_35, sX3_unpack_36, sX3_unpack_37, sX3_unpack_38, sX3_unpack_39, sX3_unpack_40, sX3_unpack_41, sX3_unpack_42, sX3_unpack_43, sX3_unpack_47, sX3_unpack_48, sX3_unpack_50, sX3_unpack_52, sX3_unpack_53, sX3_unpack_54, sX3_unpack_55, sX3_unpack_58, sX3_unpack_59, sX3_unpack_60, sX3_unpack_63, sX3_unpack_64, sX3_unpack_65, sX3_unpack_68, sX3_unpack_71, sX3_unpack_72, sX3_unpack_73, sX3_unpack_75, sX3_unpack_76, sX3_unpack_77, sX3_unpack_79, sX3_unpack_80, sX3_unpack_83, sX3_unpack_86, sX3_unpack_87, sX3_unpack_88, sX3_unpack_90, sX3_unpack_91, sX3_unpack_92, sX3_unpack_93, sX3_unpack_94, sX3_unpack_96, sX3_unpack_98, sX3_unpack_99, sX3_unpack_100, sX3_unpack_102, sX3_unpack_103, sX3_unpack_104, sX3_unpack_107, sX3_unpack_108, sX3_unpack_109, sX3_unpack_112, sX3_unpack_114, sX3_unpack_115, sX3_unpack_118, sX3_unpack_119, sX3_unpack_120, sX3_unpack_124, sX3_unpack_126, sX3_unpack_129, sX3_unpack_130, sX3_unpack_133, sX3_unpack_135, sX3_unpack_137, sX3_unpack_138, sX3_unpack_139, sX3_unpack_142, sX3_unpack_145, sX3_unpack_146, sX3_unpack_147, sX3_unpack_149, sX3_unpack_150, sX3_unpack_151, sX3_unpack_152, sX3_unpack_154, sX3_unpack_155, sX3_unpack_156, sX3_unpack_157, sX3_unpack_160, sX3_unpack_163, sX3_unpack_164, sX3_unpack_166, sX3_unpack_168, sX3_unpack_169, sX3_unpack_172, hM2.ob, i10, i11, Option.some.injEq, Sum.inr.injEq, Sum.inl.injEq, Prod.mk.injEq, true_and, and_true, exists_eq_left', exists_eq_left, exists_eq_right, exists_eq_right', exists_and_left, exists_and_right, List.getElem?_cons_succ, List.getElem?_cons_zero, List.length_cons, List.length_nil, List.set_cons_zero, List.set_cons_succ, Option.toList_some, Option.toList_none, List.nil_append, List.cons_append, mj_up_s, true_or, or_true, Nat.sub_zero, and_assoc, b10, not_true_eq_false, not_false_eq_true, false_implies, true_implies, implies_true, eq_self, and_self, rf_some, rf_none, e4, e7, e8, nI_cl (show 600 * p + (S_at S p k + 2 + t) < 2147483648 by omega), nI_cl (show S_s S p k + t < 2147483648 by omega), g3]
                refine And.intro (fun c => absurd c (nI_ge (by omega) (by omega))) (fun _ => And.intro (vp_in_nI (show _ < 12000 by omega) (by decide)) (And.intro (vp_in_nI (show _ < 600 by omega) (by decide)) ?_))
                generalize hH : mj_up h2 (AD 6 11) _ = h3
                have hM3 : MHF h0 h3 AD (Xw X 14 (-1)) (Aw A2 11 (S_s S p k + t) (nI (S_pb S p (S_at S p k + 2 + t)))) := hH ▸ hM2.putA 11 (S_s S p k + t) (nI (S_pb S p (S_at S p k + 2 + t))) (by omega) (by omega)
                simp only [sX3_unpack_0, sX3_unpack_1, sX3_unpack_4, sX3_unpack_7, sX3_unpack_8, sX3_unpack_11, sX3_unpack_12, sX3_unpack_15, sX3_unpack_16, sX3_unpack_17, sX3_unpack_18, sX3_unpack_21, sX3_unpack_22, sX3_unpack_23, sX3_unpack_27, sX3_unpack_30, sX3_unpack_31, sX3_unpack_32, sX3_unpack_35, sX3_unpack_36, sX3_unpack_37, sX3_unpack_38, sX3_unpack_39, sX3_unpack_40, sX3_unpack_41, sX3_unpack_42, sX3_unpack_43, sX3_unpack_47, sX3_unpack_48, sX3_unpack_50, sX3_unpack_52, sX3_unpack_53, sX3_unpack_54, sX3_unpack_55, sX3_unpack_58, sX3_unpack_59, sX3_unpack_60, sX3_unpack_63, sX3_unpack_64, sX3_unpack_65, sX3_unpack_68, sX3_unpack_71, sX3_unpack_72, sX3_unpack_73, sX3_unpack_75, sX3_unpack_76, sX3_unpack_77, sX3_unpack_79, sX3_unpack_80, sX3_unpack_83, sX3_unpack_86, sX3_unpack_87, sX3_unpack_88, sX3_unpack_90, sX3_unpack_91, sX3_unpack_92, sX3_unpack_93, sX3_unpack_94, sX3_unpack_96, sX3_unpack_98, sX3_unpack_99, sX3_unpack_100, sX3_unpack_102, sX3_unpack_103, sX3_unpack_104, sX3_unpack_107, sX3_unpack_108, sX3_unpack_109, sX3_unpack_112, sX3_unpack_114, sX3_unpack_115, sX3_unpack_118, sX3_unpack_119, sX3_unpack_120, sX3_unpack_124, sX3_unpack_126, sX3_unpack_129, sX3_unpack_130, sX3_unpack_133, sX3_unpack_135, sX3_unpack_137, sX3_unpack_138, sX3_unpack_139, sX3_unpack_142, sX3_unpack_145, sX3_unpack_146, sX3_unpack_147, sX3_unpack_149, sX3_unpack_150, sX3_unpack_151, sX3_unpack_152, sX3_unpack_154, sX3_unpack_155, sX3_unpack_156, sX3_unpack_157, sX3_unpack_160, sX3_unpack_163, sX3_unpack_164, sX3_unpack_166, sX3_unpack_168, sX3_unpack_169, sX3_unpack_172, Option.some.injEq, Sum.inr.injEq, Sum.inl.injEq, Prod.mk.injEq, true_and, and_true, exists_eq_left', exists_eq_left, exists_eq_right, exists_eq_right', exists_and_left, exists_and_right, List.getElem?_cons_succ, List.getElem?_cons_zero, List.length_cons, List.length_nil, List.set_cons_zero, List.set_cons_succ, Option.toList_some, Option.toList_none, List.nil_append, List.cons_append, mj_up_s, true_or, or_true, Nat.sub_zero, and_assoc, b10, not_true_eq_false, not_false_eq_true, false_implies, true_implies, implies_true, eq_self, and_self, rf_some, rf_none, e9]
                refine ih (t + 1) h3 _ (by omega) hM3 (hs2.trans sameC.a) (fun j hj => ?_) (fun j hj => ?_)
                · rw [Aw_s, pk_un (by omega)]; exact hb1 j hj
                · rw [Aw_s]
                  by_cases hjt : j = t
                  · subst hjt; rw [pk_us]
                  · rw [pk_un (by omega)]; exact hb2 j (by omega)
            exact loop (S_m S p k) 0 h1 A (by omega) hM1 sameC.x (fun j _ => rfl) (fun j hj => by omega)
          · have elb : S_lb S p k (prev.getD 0) = none := if_neg (fun c => hc3 c.2.2.1)
            exact And.intro (fun c => absurd c (nI_ge (by omega) (by omega))) (fun _ => none_ elb)
        · have elb : S_lb S p k (prev.getD 0) = none := if_neg (fun c => hc2 c.2.2.2)
          refine And.intro (fun _ => none_ elb) (fun c => absurd (nI_lt (by omega) (by omega)) c)
      · have elb : S_lb S p k (prev.getD 0) = none := if_neg (fun c => h1c c.2.1)
        exact And.intro (fun c => absurd c (nI_ge (by omega) (by omega))) (fun _ => none_ elb)
    · rw [if_neg ht]
      have elb : S_lb S p k (prev.getD 0) = none := if_neg (fun c => ht c.1)
      simp only [sX3_unpack_0, sX3_unpack_1, sX3_unpack_4, sX3_unpack_7, sX3_unpack_8, sX3_unpack_11, sX3_unpack_12, sX3_unpack_15, sX3_unpack_16, sX3_unpack_17, sX3_unpack_18, sX3_unpack_21, sX3_unpack_22, sX3_unpack_23, sX3_unpack_27, sX3_unpack_30, sX3_unpack_31, sX3_unpack_32, sX3_unpack_35, sX3_unpack_36, sX3_unpack_37, sX3_unpack_38, sX3_unpack_39, sX3_unpack_40, sX3_unpack_41, sX3_unpack_42, sX3_unpack_43, sX3_unpack_47, sX3_unpack_48, sX3_unpack_50, sX3_unpack_52, sX3_unpack_53, sX3_unpack_54, sX3_unpack_55, sX3_unpack_58, sX3_unpack_59, sX3_unpack_60, sX3_unpack_63, sX3_unpack_64, sX3_unpack_65, sX3_unpack_68, sX3_unpack_71, sX3_unpack_72, sX3_unpack_73, sX3_unpack_75, sX3_unpack_76, sX3_unpack_77, sX3_unpack_79, sX3_unpack_80, sX3_unpack_83, sX3_unpack_86, sX3_unpack_87, sX3_unpack_88, sX3_unpack_90, sX3_unpack_91, sX3_unpack_92, sX3_unpack_93, sX3_unpack_94, sX3_unpack_96, sX3_unpack_98, sX3_unpack_99, sX3_unpack_100, sX3_unpack_102, sX3_unpack_103, sX3_unpack_104, sX3_unpack_107, sX3_unpack_108, sX3_unpack_109, sX3_unpack_112, sX3_unpack_114, sX3_unpack_115, sX3_unpack_118, sX3_unpack_119, sX3_unpack_120, sX3_unpack_124, sX3_unpack_126, sX3_unpack_129, sX3_unpack_130, sX3_unpack_133, sX3_unpack_135, sX3_unpack_137, sX3_unpack_138, sX3_unpack_139, sX3_unpack_142, sX3_unpack_145, sX3_unpack_146, sX3_unpack_147, sX3_unpack_149, sX3_unpack_150, sX3_unpack_151, sX3_unpack_152, sX3_unpack_154, sX3_unpack_155, sX3_unpack_156, sX3_unpack_157, sX3_unpack_160, sX3_unpack_163, sX3_unpack_164, sX3_unpack_166, sX3_unpack_168, sX3_unpack_169, sX3_unpack_172, Option.some.injEq, Sum.inr.injEq, Sum.inl.injEq, Prod.mk.injEq, true_and, and_true, exists_eq_left', exists_eq_left, exists_eq_right, exists_eq_right', exists_and_left, exists_and_right, List.getElem?_cons_succ, List.getElem?_cons_zero, List.length_cons, List.length_nil, List.set_cons_zero, List.set_cons_succ, Option.toList_some, Option.toList_none, List.nil_append, List.cons_append, mj_up_s, true_or, or_true, Nat.sub_zero, and_assoc, b10, not_true_eq_false, not_false_eq_true, false_implies, true_implies, implies_true, eq_self, and_self, rf_some, rf_none]
      exact none_ elb
  rw [sX3_unpack_0, sX3_unpack_1]
  simp only [hM.ob, Option.some.injEq, Sum.inr.injEq, Sum.inl.injEq, Prod.mk.injEq, true_and, and_true, exists_eq_left', exists_eq_left, exists_eq_right, exists_eq_right', exists_and_left, exists_and_right, List.getElem?_cons_succ, List.getElem?_cons_zero, List.length_cons, List.length_nil, List.set_cons_zero, List.set_cons_succ, Option.toList_some, Option.toList_none, List.nil_append, List.cons_append, mj_up_s, true_or, or_true, Nat.sub_zero, and_assoc, b10, not_true_eq_false, not_false_eq_true, false_implies, true_implies, implies_true, eq_self, and_self, rf_some, rf_none, sX3_unpack_4]
  rw [hprev]
  cases prev with
  | none =>
    refine And.intro (fun c => absurd c (by decide)) (fun _ => ?_)
    simp only [sX3_unpack_7, sX3_unpack_8]
    exact tail
  | some x =>
    refine And.intro (fun _ => ?_) (fun c => absurd (nI_pos' (by simp at hp5; omega)) c)
    rw [sX3_unpack_11, sX3_unpack_12]
    simp only [hM.ob, Option.some.injEq, Sum.inr.injEq, Sum.inl.injEq, Prod.mk.injEq, true_and, and_true, exists_eq_left', exists_eq_left, exists_eq_right, exists_eq_right', exists_and_left, exists_and_right, List.getElem?_cons_succ, List.getElem?_cons_zero, List.length_cons, List.length_nil, List.set_cons_zero, List.set_cons_succ, Option.toList_some, Option.toList_none, List.nil_append, List.cons_append, mj_up_s, true_or, or_true, Nat.sub_zero, and_assoc, b10, not_true_eq_false, not_false_eq_true, false_implies, true_implies, implies_true, eq_self, and_self, rf_some, rf_none]
    rw [hprev]
    exact tail
set_option maxRecDepth 100000 in
theorem r_unpackTo (hf : 4 ≤ f) (hw : 94 ≤ w) (hM : MHF h0 h AD X A) (hR : CM S X A) (hW : WF S) {p k : Nat} (hp : p < S_np S) (hk : k < 99)
    (hQ : ∀ h' X' A', MHF h0 h' AD X' A' → sameC X X' A A' → CTN X' A' (S_cl S p k) (S_cb S p k) → Q none h' n) : mj_bk f w 62 [.ref (AD 6 0), .int (nI p), .int (nI k)] h n mc ms Q := by
  obtain ⟨p1, p2, p3, p4⟩ := (hW.2.2.2.2.2 p hp).1
  refine mj_begin (by omega) (by decide) (by show 23 ≤ w; omega) rfl ?_
  show mj_W _ _ 62 mj_noZ Q 0 [.ref (AD 6 0), .int (nI p), .int (nI k), .retAddr 0] [] h n mc ms
  have loop : ∀ m i h2 X2 A2, i + m = k + 1 → MHF h0 h2 AD X2 A2 → sameC X X2 A A2 → (i = 0 ∧ X2 14 = -1 ∨ ∃ t, i = t + 1 ∧ CTN X2 A2 (S_cl S p t) (S_cb S p t)) → mj_W (f - 1) (w - (19 + mj_maxL 62)) 62 mj_noZ Q 7 [.ref (AD 6 0), .int (nI p), .int (nI k), .int (nI i)] [] h2 n mc ms := by
    intro m
    induction m with
    | zero =>
      intro i h2 X2 A2 hi hM2 hs2 hb
      rw [sX3_unpackTo_7]
      simp only [sX3_unpackTo_0, sX3_unpackTo_1, sX3_unpackTo_2, sX3_unpackTo_5, sX3_unpackTo_6, sX3_unpackTo_8, sX3_unpackTo_9, sX3_unpackTo_12, sX3_unpackTo_13, sX3_unpackTo_15, sX3_unpackTo_18, sX3_unpackTo_19, sX3_unpackTo_20, sX3_unpackTo_24, sX3_unpackTo_27, sX3_unpackTo_30, Option.some.injEq, Sum.inr.injEq, Sum.inl.injEq, Prod.mk.injEq, true_and, and_true, exists_eq_left', exists_eq_left, exists_eq_right, exists_eq_right', exists_and_left, exists_and_right, List.getElem?_cons_succ, List.getElem?_cons_zero, List.length_cons, List.length_nil, List.set_cons_zero, List.set_cons_succ, Option.toList_some, Option.toList_none, List.nil_append, List.cons_append, mj_up_s, true_or, or_true, Nat.sub_zero, and_assoc, b10, not_true_eq_false, not_false_eq_true, false_implies, true_implies, implies_true, eq_self, and_self, rf_some, rf_none]
      refine And.intro (fun _ => ?_) (fun c => absurd (nI_lt (by omega) (by omega)) c)
      rcases hb with ⟨h0', -⟩ | ⟨t, h1, hb⟩
      · omega
      · obtain rfl : t = k := by omega
        exact hQ h2 X2 A2 hM2 hs2 hb
    | succ m ih =>
      intro i h2 X2 A2 hi hM2 hs2 hb
      have e1 : nI i + 1 = nI (i + 1) := nI_1 i
      rw [sX3_unpackTo_7]
      simp only [sX3_unpackTo_0, sX3_unpackTo_1, sX3_unpackTo_2, sX3_unpackTo_5, sX3_unpackTo_6, sX3_unpackTo_8, sX3_unpackTo_9, sX3_unpackTo_12, sX3_unpackTo_13, sX3_unpackTo_15, sX3_unpackTo_18, sX3_unpackTo_19, sX3_unpackTo_20, sX3_unpackTo_24, sX3_unpackTo_27, sX3_unpackTo_30, Option.some.injEq, Sum.inr.injEq, Sum.inl.injEq, Prod.mk.injEq, true_and, and_true, exists_eq_left', exists_eq_left, exists_eq_right, exists_eq_right', exists_and_left, exists_and_right, List.getElem?_cons_succ, List.getElem?_cons_zero, List.length_cons, List.length_nil, List.set_cons_zero, List.set_cons_succ, Option.toList_some, Option.toList_none, List.nil_append, List.cons_append, mj_up_s, true_or, or_true, Nat.sub_zero, and_assoc, b10, not_true_eq_false, not_false_eq_true, false_implies, true_implies, implies_true, eq_self, and_self, rf_some, rf_none]
      refine And.intro (fun c => absurd c (nI_nlt (by omega) (by omega))) (fun _ => And.intro (fun c => absurd c (show ¬ nI 99 ≤ nI i from nI_ge (by omega) (by omega))) (fun _ => ?_))
      rcases hb with ⟨h0', hx⟩ | ⟨t, h1, hx, hb⟩
      · subst h0'
        refine sX3_unpackTo_21z hM2.ob rfl (r_unpack (prev := none) (by omega) (by show 71 ≤ w - 23; omega) hM2 (hR.same hs2) hW hp (by omega) hx (by simp) (fun h3 X3 A3 hM3 hs3 hx3 hb3 => ?_))
        simp only [sX3_unpackTo_0, sX3_unpackTo_1, sX3_unpackTo_2, sX3_unpackTo_5, sX3_unpackTo_6, sX3_unpackTo_8, sX3_unpackTo_9, sX3_unpackTo_12, sX3_unpackTo_13, sX3_unpackTo_15, sX3_unpackTo_18, sX3_unpackTo_19, sX3_unpackTo_20, sX3_unpackTo_24, sX3_unpackTo_27, sX3_unpackTo_30, Option.some.injEq, Sum.inr.injEq, Sum.inl.injEq, Prod.mk.injEq, true_and, and_true, exists_eq_left', exists_eq_left, exists_eq_right, exists_eq_right', exists_and_left, exists_and_right, List.getElem?_cons_succ, List.getElem?_cons_zero, List.length_cons, List.length_nil, List.set_cons_zero, List.set_cons_succ, Option.toList_some, Option.toList_none, List.nil_append, List.cons_append, mj_up_s, true_or, or_true, Nat.sub_zero, and_assoc, b10, not_true_eq_false, not_false_eq_true, false_implies, true_implies, implies_true, eq_self, and_self, rf_some, rf_none, e1]
        refine ih 1 h3 X3 A3 (by omega) hM3 (hs2.trans hs3) (Or.inr ⟨0, rfl, hx3, fun L hL j hj => ?_⟩)
        have hL2 : S_lb S p 0 ((none : Option Nat).getD 0) = some L := hL
        rw [hb3 L hL2 j hj]
        obtain ⟨had, -, -, -, a3, -, -, a6, -⟩ := S_cl_some hL
        have := a6 rfl
        rw [if_neg (by omega)]
        rfl
      · subst h1
        have hb5 : (S_cl S p t).getD 0 ≤ 510 := by
          cases hx : S_cl S p t with
          | none => simp
          | some x => have := S_cl_lt p4 hx; simpa using this
        refine sX3_unpackTo_21z hM2.ob rfl (r_unpack (prev := S_cl S p t) (by omega) (by show 71 ≤ w - 23; omega) hM2 (hR.same hs2) hW hp (by omega) hx hb5 (fun h3 X3 A3 hM3 hs3 hx3 hb3 => ?_))
        simp only [sX3_unpackTo_0, sX3_unpackTo_1, sX3_unpackTo_2, sX3_unpackTo_5, sX3_unpackTo_6, sX3_unpackTo_8, sX3_unpackTo_9, sX3_unpackTo_12, sX3_unpackTo_13, sX3_unpackTo_15, sX3_unpackTo_18, sX3_unpackTo_19, sX3_unpackTo_20, sX3_unpackTo_24, sX3_unpackTo_27, sX3_unpackTo_30, Option.some.injEq, Sum.inr.injEq, Sum.inl.injEq, Prod.mk.injEq, true_and, and_true, exists_eq_left', exists_eq_left, exists_eq_right, exists_eq_right', exists_and_left, exists_and_right, List.getElem?_cons_succ, List.getElem?_cons_zero, List.length_cons, List.length_nil, List.set_cons_zero, List.set_cons_succ, Option.toList_some, Option.toList_none, List.nil_append, List.cons_append, mj_up_s, true_or, or_true, Nat.sub_zero, and_assoc, b10, not_true_eq_false, not_false_eq_true, false_implies, true_implies, implies_true, eq_self, and_self, rf_some, rf_none, e1]
        refine ih (t + 2) h3 X3 A3 (by omega) hM3 (hs2.trans hs3) (Or.inr ⟨t + 1, rfl, hx3, fun L hL j hj => ?_⟩)
        rw [hb3 L hL j hj]
        obtain ⟨had, -, -, -, a3, -, -, -, a6⟩ := S_cl_some hL
        have a7 := a6 t rfl
        unfold S_cb
        split
        · rename_i hjs
          cases hcl : S_cl S p t with
          | none => rw [hcl] at a7; simp at a7; omega
          | some L' =>
            rw [hcl] at a7
            exact hb L' hcl j (by simp at a7; omega)
        · rfl
  simp only [sX3_unpackTo_0, sX3_unpackTo_1, sX3_unpackTo_2, sX3_unpackTo_5, sX3_unpackTo_6, sX3_unpackTo_8, sX3_unpackTo_9, sX3_unpackTo_12, sX3_unpackTo_13, sX3_unpackTo_15, sX3_unpackTo_18, sX3_unpackTo_19, sX3_unpackTo_20, sX3_unpackTo_24, sX3_unpackTo_27, sX3_unpackTo_30, hM.ob, nfi_3_0, ffi_3_0, nfi_3_1, ffi_3_1, nfr_3_2, ffr_3_2, nfu_3_2, ffu_3_2, nfr_3_3, ffr_3_3, nfu_3_3, ffu_3_3, nfr_3_4, ffr_3_4, nfu_3_4, ffu_3_4, nfr_3_5, ffr_3_5, nfu_3_5, ffu_3_5, nfr_3_6, ffr_3_6, nfu_3_6, ffu_3_6, nfi_3_7, ffi_3_7, nfr_3_8, ffr_3_8, nfu_3_8, ffu_3_8, nfr_3_9, ffr_3_9, nfu_3_9, ffu_3_9, nfr_3_10, ffr_3_10, nfu_3_10, ffu_3_10, nfr_3_11, ffr_3_11, nfu_3_11, ffu_3_11, nfr_3_12, ffr_3_12, nfu_3_12, ffu_3_12, nfr_3_13, ffr_3_13, nfu_3_13, ffu_3_13, nfi_3_14, ffi_3_14, nfi_3_15, ffi_3_15, nfr_3_16, ffr_3_16, nfu_3_16, ffu_3_16, nfr_3_17, ffr_3_17, nfu_3_17, ffu_3_17, nfr_3_18, ffr_3_18, nfu_3_18, ffu_3_18, nfr_3_19, ffr_3_19, nfu_3_19, ffu_3_19, nfr_3_20, ffr_3_20, nfu_3_20, ffu_3_20, nfi_3_21, ffi_3_21, Option.some.injEq, Sum.inr.injEq, Sum.inl.injEq, Prod.mk.injEq, true_and, and_true, exists_eq_left', exists_eq_left, exists_eq_right, exists_eq_right', exists_and_left, exists_and_right, List.getElem?_cons_succ, List.getElem?_cons_zero, List.length_cons, List.length_nil, List.set_cons_zero, List.set_cons_succ, Option.toList_some, Option.toList_none, List.nil_append, List.cons_append, mj_up_s, true_or, or_true, Nat.sub_zero, and_assoc, b10, not_true_eq_false, not_false_eq_true, false_implies, true_implies, implies_true, eq_self, and_self, rf_some, rf_none]
  refine And.intro (by decide) ?_
  generalize hH : mj_up h (AD 6 0) _ = h1
  have hM1 : MHF h0 h1 AD (Xw X 14 (-1)) A := hH ▸ hM.putX 14 (-1)
  exact loop (k + 1) 0 h1 _ A (by omega) hM1 sameC.x (Or.inl ⟨rfl, Xw_s⟩)
end
