/-! ===== the class: writePack, pack ===== -/
section
variable {f w : Nat} {Q : mj_Q} {h : mj_H} {n mc ms : Nat} {S : St} {AD : Ad} {C : Ct}
set_option maxRecDepth 100000 in
theorem m_newPackX (hf : 3 ≤ f) (hw : 65 ≤ w) (hM : MEM h n AD (VS S) C) (hC : CC S AD C) (hW : WF S) {c fi : Nat} (hmc : 2 ≤ mc) (hms : 606 ≤ ms) (hnp : S_np S < 20) {plc : Int32} (c1 : C 5 0 = OSc AD S plc) (hQ : ∀ h' C', MEM h' (n + 2) (Au (Au AD 3 (S_np S) n) 4 (S_np S) (n + 1)) (VS (st_raw S c fi)) C' → CC (st_raw S c fi) (Au (Au AD 3 (S_np S) n) 4 (S_np S) (n + 1)) C' → (∀ a b, a ≠ 3 → a ≠ 4 → a ≠ 5 → ¬ (a = 0 ∧ b = 1) → C' a b = C a b) → C' 5 0 = OSc AD (st_raw S c fi) plc → h' n = some (PKc (S_np S) c fi (n + 1) 0 .null) → Q (some (.ref n)) h' (n + 2)) : mj_bk f w 40 [.ref (AD 5 0), .int (nI c), .int (nI fi)] h n mc ms Q := by
  obtain ⟨g, e1, e2⟩ := id hC.2.2.1
  have hO := hM.1 5 0 rfl
  have hA := hM.1 0 1 (show 1 < 6 by omega)
  rw [c1] at hO
  rw [e1] at hA
  have lO := hM.2.2 5 0 rfl
  have lA := hM.2.2 0 1 (show 1 < 6 by omega)
  have nOA : AD 5 0 ≠ AD 0 1 := cell_neA hO hA
  refine mj_begin (by omega) (by decide) (by show 23 ≤ w; omega) rfl ?_
  show mj_W _ _ 40 mj_noZ Q 0 [.ref (AD 5 0), .int (nI c), .int (nI fi), .retAddr 0] [] h n mc ms
  have n1 : AD 5 0 ≠ n := by omega
  have n2 : AD 0 1 ≠ n := by omega
  have n3 : AD 5 0 ≠ n + 1 := by omega
  have n4 : AD 0 1 ≠ n + 1 := by omega
  simp only [sX2_newPack_0, sX2_newPack_1, sX2_newPack_4, sX2_newPack_6, sX2_newPack_9, sX2_newPack_10, sX2_newPack_10n, sX2_newPack_11, sX2_newPack_14, sX2_newPack_15, sX2_newPack_16, sX2_newPack_19, sX2_newPack_20, sX2_newPack_24, sX2_newPack_24n, sX2_newPack_25, sX2_newPack_26, sX2_newPack_29, sX2_newPack_30, sX2_newPack_33, sX2_newPack_33n, sX2_newPack_34, sX2_newPack_35, sX2_newPack_36, sX2_newPack_37, sX2_newPack_40, sX2_newPack_41, sX2_newPack_42, sX2_newPack_45, sX2_newPack_45n, sX2_newPack_46, sX2_newPack_46n, hO, mj_up_n n1, Option.some.injEq, Sum.inr.injEq, Sum.inl.injEq, Prod.mk.injEq, true_and, and_true, exists_eq_left', exists_eq_left, exists_eq_right, exists_eq_right', exists_and_left, exists_and_right, List.getElem?_cons_succ, List.getElem?_cons_zero, List.length_cons, List.length_nil, List.set_cons_zero, List.set_cons_succ, Option.toList_some, Option.toList_none, List.nil_append, List.cons_append, mj_up_s, true_or, or_true, Nat.sub_zero, and_assoc, b10, not_true_eq_false, not_false_eq_true, false_implies, true_implies, implies_true, eq_self, and_self, rf_some, rf_none]
  refine And.intro (fun _ => And.intro (by omega) (And.intro (by show 6 ≤ ms; omega) ?_)) (fun c => absurd (show nI (S_np S) < nI 20 from nI_lt hnp (by decide)) c)
  refine sX2_newPack_21 1 600 mj_up_s rfl (by omega) (by show 600 ≤ ms - 6; omega) (c_pinit (by omega) (by show 42 ≤ w - 23; omega) (by omega) (by omega) mj_up_s (by omega) ?_)
  have z : nI (S_np S) + 1 = nI (S_np S + 1) := nI_1 _
  have r1 : ∀ A B D : mj_C, mj_up (mj_up (mj_up h n A) (n + 1) B) n D (AD 5 0) = some (OSc AD S plc) := fun A B D => by rw [mj_up_n n1, mj_up_n n3, mj_up_n n1]; exact hO
  have r2 : ∀ A B D : mj_C, mj_up (mj_up (mj_up h n A) (n + 1) B) n D (AD 0 1) = some (.inl (.object (mj_R 1), 20, .inr (.inr (.inr (.inr g))))) := fun A B D => by rw [mj_up_n n2, mj_up_n n4, mj_up_n n2]; exact hA
  simp only [sX2_newPack_0, sX2_newPack_1, sX2_newPack_4, sX2_newPack_6, sX2_newPack_9, sX2_newPack_10, sX2_newPack_10n, sX2_newPack_11, sX2_newPack_14, sX2_newPack_15, sX2_newPack_16, sX2_newPack_19, sX2_newPack_20, sX2_newPack_24, sX2_newPack_24n, sX2_newPack_25, sX2_newPack_26, sX2_newPack_29, sX2_newPack_30, sX2_newPack_33, sX2_newPack_33n, sX2_newPack_35, sX2_newPack_36, sX2_newPack_37, sX2_newPack_40, sX2_newPack_41, sX2_newPack_42, sX2_newPack_45, sX2_newPack_45n, sX2_newPack_46, sX2_newPack_46n, r1, r2, Option.some.injEq, Sum.inr.injEq, Sum.inl.injEq, Prod.mk.injEq, true_and, and_true, exists_eq_left', exists_eq_left, exists_eq_right, exists_eq_right', exists_and_left, exists_and_right, List.getElem?_cons_succ, List.getElem?_cons_zero, List.length_cons, List.length_nil, List.set_cons_zero, List.set_cons_succ, Option.toList_some, Option.toList_none, List.nil_append, List.cons_append, mj_up_s, true_or, or_true, Nat.sub_zero, and_assoc, b10, not_true_eq_false, not_false_eq_true, false_implies, true_implies, implies_true, eq_self, and_self, rf_some, rf_none]
  rw [sX2_newPack_34]
  refine ⟨1, _, 20, g, r2 _ _ _, by omega, mj_up_s, vp_in_nI (by omega) (by decide), ?_⟩
  rw [nI_cl (show S_np S < 2147483648 by omega)]
  simp only [sX2_newPack_0, sX2_newPack_1, sX2_newPack_4, sX2_newPack_6, sX2_newPack_9, sX2_newPack_10, sX2_newPack_10n, sX2_newPack_11, sX2_newPack_14, sX2_newPack_15, sX2_newPack_16, sX2_newPack_19, sX2_newPack_20, sX2_newPack_24, sX2_newPack_24n, sX2_newPack_25, sX2_newPack_26, sX2_newPack_29, sX2_newPack_30, sX2_newPack_33, sX2_newPack_33n, sX2_newPack_34, sX2_newPack_35, sX2_newPack_36, sX2_newPack_37, sX2_newPack_40, sX2_newPack_41, sX2_newPack_42, sX2_newPack_45, sX2_newPack_45n, sX2_newPack_46, sX2_newPack_46n, mj_up_n nOA, r1, nfr_2_0, ffr_2_0, nfu_2_0, ffu_2_0, nfi_2_1, ffi_2_1, nfr_2_2, ffr_2_2, nfu_2_2, ffu_2_2, nfi_2_3, ffi_2_3, nfr_2_4, ffr_2_4, nfu_2_4, ffu_2_4, nfr_2_5, ffr_2_5, nfu_2_5, ffu_2_5, nfi_2_6, ffi_2_6, nfr_2_7, ffr_2_7, nfu_2_7, ffu_2_7, nfi_2_8, ffi_2_8, nfr_2_9, ffr_2_9, nfu_2_9, ffu_2_9, Option.some.injEq, Sum.inr.injEq, Sum.inl.injEq, Prod.mk.injEq, true_and, and_true, exists_eq_left', exists_eq_left, exists_eq_right, exists_eq_right', exists_and_left, exists_and_right, List.getElem?_cons_succ, List.getElem?_cons_zero, List.length_cons, List.length_nil, List.set_cons_zero, List.set_cons_succ, Option.toList_some, Option.toList_none, List.nil_append, List.cons_append, mj_up_s, true_or, or_true, Nat.sub_zero, and_assoc, b10, not_true_eq_false, not_false_eq_true, false_implies, true_implies, implies_true, eq_self, and_self, rf_some, rf_none, z]
  refine And.intro (by decide) ?_
  have hnv3 : ¬ VS S 3 (S_np S) := fun e => by have e : S_np S < S_np S := e; omega
  have A1 := hM.add (k := 3) (i := S_np S) (c := .inr (1, mj_new 1)) (V' := fun a b => VS S a b ∨ (a = 3 ∧ b = S_np S)) hnv3 (fun a b hab => hab)
  have A2 := A1.add (k := 4) (i := S_np S) (c := BYc 600 (fun _ => 0)) (V' := VS (st_raw S c fi)) (fun e => by
    rcases e with e | ⟨e, -⟩
    · have e : S_np S < S_np S := e; omega
    · omega) (fun a b hab => by
    rcases VS_raw hab with e | e | e
    · exact Or.inl (Or.inl e)
    · exact Or.inl (Or.inr e)
    · exact Or.inr e)
  have A3 := A2.put (k := 3) (i := S_np S) (c := PKc (S_np S) c fi (n + 1) 0 .null) (show S_np S < S_np (st_raw S c fi) by rw [st_raw_np]; omega)
  have A4 := A3.put (k := 0) (i := 1) (c := .inl (.object (mj_R 1), 20, .inr (.inr (.inr (.inr (va_up g (S_np S) (some n))))))) (show 1 < 6 by omega)
  have A5 := A4.put (k := 5) (i := 0) (c := OSc AD (st_raw S c fi) plc) rfl
  rw [show Au (Au AD 3 (S_np S) n) 4 (S_np S) (n + 1) 3 (S_np S) = n by rw [Au_k (by decide), Au_s], show Au (Au AD 3 (S_np S) n) 4 (S_np S) (n + 1) 0 1 = AD 0 1 by rw [Au_k (by decide), Au_k (by decide)], show Au (Au AD 3 (S_np S) n) 4 (S_np S) (n + 1) 5 0 = AD 5 0 by rw [Au_k (by decide), Au_k (by decide)]] at A5
  have hOS : OSc AD (st_raw S c fi) plc = .inr (2, [.ref (AD 0 0), .int (nI (S_no S)), .ref (AD 0 1), .int (nI (S_np S + 1)), .ref (AD 0 2), .ref (AD 0 3), .int (nI (S_nt S)), .ref (AD 0 4), .int plc, .ref (AD 0 5)]) := by
    simp only [OSc, st_raw_np, show S_no (st_raw S c fi) = S_no S from st_raw_o (by omega) (by omega), show S_nt (st_raw S c fi) = S_nt S from st_raw_o (by omega) (by omega)]
  have hCC := CC_raw (n := n) (plc := plc) (c := c) (fi := fi) hC hW e2 (C' := Cu (Cu (Cu (Cu (Cu C 3 (S_np S) (.inr (1, mj_new 1))) 4 (S_np S) (BYc 600 (fun _ => 0))) 3 (S_np S) (PKc (S_np S) c fi (n + 1) 0 .null)) 0 1 (.inl (.object (mj_R 1), 20, .inr (.inr (.inr (.inr (va_up g (S_np S) (some n)))))))) 5 0 (OSc AD (st_raw S c fi) plc)) (fun a b h1 h2 h3 h4 => by simp [Cu, h1, h2, h3, h4]) (by rw [Cu_k (by decide), Cu_k (by decide), Cu_s]) (by rw [Cu_k (by decide), Cu_k (by decide), Cu_k (by decide), Cu_s]) (by rw [Cu_k (by decide), Cu_s]) (by rw [Cu_s])
  refine hQ _ _ ?_ hCC (fun a b q3 q4 q5 q1 => ?_) Cu_s ?_
  · rw [hOS] at A5 ⊢; exact A5
  · simp [Cu, q3, q4, q5, q1]
  · rw [mj_up_n (Ne.symm n1), mj_up_n (Ne.symm n2), mj_up_s]
theorem SL_nil {c fi : Nat} : SL (st_raw S c fi) (S_np S) [] = st_raw S c fi := by
  funext r a b
  by_cases hr : 7 ≤ r ∧ r ≤ 11 ∧ a = S_np S
  · obtain ⟨r1, r2, rfl⟩ := hr
    have c7 : S_ct (st_raw S c fi) (S_np S) = c := (st_raw_p (by omega)).trans S_pack_ct
    have c8 : S_fs (st_raw S c fi) (S_np S) = fi := (st_raw_p (by omega)).trans S_pack_fs
    unfold SL
    rw [c7, c8]
    have hr : r = 7 ∨ r = 8 ∨ r = 9 ∨ r = 10 ∨ r = 11 := by omega
    rcases hr with rfl | rfl | rfl | rfl | rfl <;> by_cases hb : b = 0 <;> simp [S_pack, st_raw, S_up, hb]
  · exact SL_o hr
theorem SL_pk {ct : Nat} {L : List Nat} : SL (st_raw S ct (4 * ct)) (S_np S) L = st_pk S ct L := by
  funext r a b
  by_cases hr : 7 ≤ r ∧ r ≤ 11 ∧ a = S_np S
  · obtain ⟨r1, r2, rfl⟩ := hr
    have c7 : S_ct (st_raw S ct (4 * ct)) (S_np S) = ct := (st_raw_p (by omega)).trans S_pack_ct
    have c8 : S_fs (st_raw S ct (4 * ct)) (S_np S) = 4 * ct := (st_raw_p (by omega)).trans S_pack_fs
    unfold SL
    rw [c7, c8]
    have hr : r = 7 ∨ r = 8 ∨ r = 9 ∨ r = 10 ∨ r = 11 := by omega
    rcases hr with rfl | rfl | rfl | rfl | rfl <;> by_cases hb : b = 0 <;> simp [S_pack, st_raw, st_pk, S_up, hb]
  · rw [SL_o hr]
    by_cases h6 : r = 6 ∧ a = 0 ∧ b = 0
    · obtain ⟨rfl, rfl, rfl⟩ := h6
      exact st_raw_np.trans st_pk_np.symm
    · rw [st_raw_o h6 hr, st_pk_o h6 hr]
theorem OSc_ad {AD' : Ad} (h : ∀ i, AD' 0 i = AD 0 i) {plc : Int32} : OSc AD' S plc = OSc AD S plc := by simp only [OSc, h]
/-- an object is moved into a pack: one cell -/
theorem CC_mv {h1 : mj_H} {C1 : Ct} (hM : MEM h1 n AD (VS S) C1) (hC : CC S AD C1) {i p m : Nat} {wt : Int32} (hi : i < S_no S) : ∃ C2, MEM (mj_up h1 (AD 1 i) (ITc i (S_kd S i) (AD 2 i) 0 (.ref (AD 3 p)) m wt)) n AD (VS (S_item S i (S_kd S i) 0 (S_by S i) (p + 1) m)) C2 ∧ CC (S_item S i (S_kd S i) 0 (S_by S i) (p + 1) m) AD C2 ∧ ∀ a b, a ≠ 1 → C2 a b = C1 a b := by
  obtain ⟨g, y1, y2⟩ := hC.2.2.2.2.2.2.2.2.1 i hi
  have e : Cu C1 2 i (BYc 60 g) = C1 := by
    funext a b
    by_cases q : a = 2 ∧ b = i
    · obtain ⟨rfl, rfl⟩ := q; rw [Cu_s, y1]
    · simp [Cu, q]
  have := CC_item hC (S_item_same (S := S) (i := i) (kd := S_kd S i) (s := 0) (by_ := S_by S i) (pk := p + 1) (ix := m)) (wt := wt) (g := g) (fun j hj => by rw [S_item_sz] at hj; omega)
  rw [e, S_item_kd, S_item_sz, S_item_pk, S_item_ix] at this
  refine ⟨_, ?_, this, fun a b q => Cu_k q⟩
  rw [item_same (S_item_same (S := S))]
  exact hM.put (k := 1) (i := i) hi
set_option maxRecDepth 100000 in
theorem m_writePack (hf : 5 ≤ f) (hw : 118 ≤ w) (hM : MEM h n AD (VS S) C) (hC : CC S AD C) (hW : WF S) (hmc : 2 ≤ mc) (hms : 606 ≤ ms) (hnp : S_np S < 20) {s t dn : Nat} {od : Nat → Nat} (h5 : C 5 0 = OSc AD S (nI dn)) (h4 : ∃ g, C 0 4 = .inl (.int, 60, .inl g) ∧ ∀ i, i < dn → g i = nI (od i)) (hst : s ≤ t) (ht : t ≤ dn) (hd : dn ≤ 60) (hts : t - s ≤ 10) (hit : ∀ i, s ≤ i → i < t → od i < S_no S ∧ S_pk S (od i) = 0 ∧ S_kd S (od i) = 0 ∧ S_sz S (od i) ≤ 60) (h600 : 4 * (t - s) + plc S od s (t - s) ≤ 600)
    (hQ : ∀ h' C', MEM h' (n + 2) (Au (Au AD 3 (S_np S) n) 4 (S_np S) (n + 1)) (VS (wpk S od s t)) C' → CC (wpk S od s t) (Au (Au AD 3 (S_np S) n) 4 (S_np S) (n + 1)) C' → (∀ a b, 6 ≤ a → C' a b = C a b) → C' 0 4 = C 0 4 → C' 0 5 = C 0 5 → C' 5 0 = OSc (Au (Au AD 3 (S_np S) n) 4 (S_np S) (n + 1)) (wpk S od s t) (nI dn) → Q none h' (n + 2)) : mj_bk f w 51 [.ref (AD 5 0), .int (nI s), .int (nI t)] h n mc ms Q := by
  have w1 := hW.1
  have h44 := h4
  have hO := hM.1 5 0 rfl
  rw [h5] at hO
  refine mj_begin (by omega) (by decide) (by show 25 ≤ w; omega) rfl ?_
  show mj_W _ _ 51 mj_noZ Q 0 [.ref (AD 5 0), .int (nI s), .int (nI t), .retAddr 0, .retAddr 0, .retAddr 0] [] h n mc ms
  have ec : nI t - nI s = nI (t - s) := pk_sub hst
  have e4 : (4 : Int32) * nI (t - s) = nI (4 * (t - s)) := by rw [show (4 : Int32) = nI 4 from rfl, pk_mul]
  simp only [sX2_writePack_0, sX2_writePack_1, sX2_writePack_2, sX2_writePack_3, sX2_writePack_4, sX2_writePack_5, sX2_writePack_6, sX2_writePack_7, sX2_writePack_8, ec, e4]
  refine sX2_writePack_9 2 606 hO rfl hmc hms (m_newPackX (by omega) (by show 65 ≤ w - 25; omega) hM hC hW (by omega) (by omega) hnp h5 (fun h1 C1 hM1 hC1 hK1 k5 hn1 => ?_))
  generalize hAD : Au (Au AD 3 (S_np S) n) 4 (S_np S) (n + 1) = AD' at *
  have a0 : ∀ i, AD' 0 i = AD 0 i := fun i => by rw [← hAD, Au_k (by decide), Au_k (by decide)]
  have a1 : ∀ i, AD' 1 i = AD 1 i := fun i => by rw [← hAD, Au_k (by decide), Au_k (by decide)]
  have a5 : AD' 5 0 = AD 5 0 := by rw [← hAD, Au_k (by decide), Au_k (by decide)]
  have a3 : AD' 3 (S_np S) = n := by rw [← hAD, Au_k (by decide), Au_s]
  have hS1 : WF (st_raw S (t - s) (4 * (t - s))) := WF_more hW hnp st_raw_np (fun r a b => st_raw_o)
    (by rw [show S_ct (st_raw S (t - s) (4 * (t - s))) (S_np S) = t - s from (st_raw_p (by omega)).trans S_pack_ct]; omega)
    (by rw [show S_fs (st_raw S (t - s) (4 * (t - s))) (S_np S) = 4 * (t - s) from (st_raw_p (by omega)).trans S_pack_fs]; omega)
    (by rw [show S_ex (st_raw S (t - s) (4 * (t - s))) (S_np S) = 0 from (st_raw_p (by omega)).trans S_pack_ex]; omega)
    (by rw [show S_pz (st_raw S (t - s) (4 * (t - s))) (S_np S) = 0 from (st_raw_p (by omega)).trans S_pack_pz]; omega)
    (fun j => by rw [show S_pb (st_raw S (t - s) (4 * (t - s))) (S_np S) j = 0 from (st_raw_p (by omega)).trans S_pack_pb]; omega)
  have hsm : smI S (st_raw S (t - s) (4 * (t - s))) od s (t - s) := fun i _ _ => ⟨st_raw_o (by omega) (by omega), fun j => st_raw_o (by omega) (by omega)⟩
  have hno1 : S_no (st_raw S (t - s) (4 * (t - s))) = S_no S := st_raw_o (by omega) (by omega)
  have h600' : 4 * (t - s) + plc (st_raw S (t - s) (4 * (t - s))) od s (t - s) ≤ 600 := by rw [plc_congrS hsm]; exact h600
  have hit' : ∀ i, s ≤ i → i < t → od i < S_no (st_raw S (t - s) (4 * (t - s))) := fun i q1 q2 => by rw [hno1]; exact (hit i q1 q2).1
  have hp1 : S_np S < S_np (st_raw S (t - s) (4 * (t - s))) := by rw [st_raw_np]; omega
  have j4 : ∃ g, C1 0 4 = .inl (.int, 60, .inl g) ∧ ∀ i, i < dn → g i = nI (od i) := by rw [hK1 0 4 (by decide) (by decide) (by decide) (by omega)]; exact h4
  have k5' : C1 5 0 = OSc AD' (st_raw S (t - s) (4 * (t - s))) (nI dn) := by rw [k5, OSc_ad a0]
  have hO1 := hM1.1 5 0 rfl
  rw [k5', a5] at hO1
  have hC1' : CC (SL (st_raw S (t - s) (4 * (t - s))) (S_np S) []) AD' C1 := by rw [SL_nil]; exact hC1
  simp only [sX2_writePack_12, sX2_writePack_13, sX2_writePack_14, sX2_writePack_18, sX2_writePack_19, sX2_writePack_20, sX2_writePack_21, Option.some.injEq, Sum.inr.injEq, Sum.inl.injEq, Prod.mk.injEq, true_and, and_true, exists_eq_left', exists_eq_left, exists_eq_right, exists_eq_right', exists_and_left, exists_and_right, List.getElem?_cons_succ, List.getElem?_cons_zero, List.length_cons, List.length_nil, List.set_cons_zero, List.set_cons_succ, Option.toList_some, Option.toList_none, List.nil_append, List.cons_append, mj_up_s, true_or, or_true, Nat.sub_zero, and_assoc, b10, not_true_eq_false, not_false_eq_true, false_implies, true_implies, implies_true, eq_self, and_self, rf_some, rf_none]
  rw [show (Value.ref (AD 5 0)) = Value.ref (AD' 5 0) by rw [a5], show (Value.ref n) = Value.ref (AD' 3 (S_np S)) by rw [a3]]
  refine sX2_writePack_22z (by rw [a5]; exact hO1) rfl (m_writePairs (od := od) (by omega) (by show 91 ≤ w - 25; omega) hM1 hS1 hp1 hC1' k5' j4 hst ht hd hit' h600' (fun h2 C2 hM2 hC2 hK2 => ?_))
  have k52 : C2 5 0 = OSc AD' (st_raw S (t - s) (4 * (t - s))) (nI dn) := by rw [hK2 5 0 (by decide) (by decide)]; exact k5'
  have j42 : ∃ g, C2 0 4 = .inl (.int, 60, .inl g) ∧ ∀ i, i < dn → g i = nI (od i) := by rw [hK2 0 4 (by decide) (by decide)]; exact j4
  have hO2 := hM2.1 5 0 rfl
  rw [k52] at hO2
  simp only [sX2_writePack_25, sX2_writePack_26, sX2_writePack_27, sX2_writePack_28, Option.some.injEq, Sum.inr.injEq, Sum.inl.injEq, Prod.mk.injEq, true_and, and_true, exists_eq_left', exists_eq_left, exists_eq_right, exists_eq_right', exists_and_left, exists_and_right, List.getElem?_cons_succ, List.getElem?_cons_zero, List.length_cons, List.length_nil, List.set_cons_zero, List.set_cons_succ, Option.toList_some, Option.toList_none, List.nil_append, List.cons_append, mj_up_s, true_or, or_true, Nat.sub_zero, and_assoc, b10, not_true_eq_false, not_false_eq_true, false_implies, true_implies, implies_true, eq_self, and_self, rf_some, rf_none]
  refine sX2_writePack_29z hO2 rfl (m_writeContents (od := od) (by omega) (by show 93 ≤ w - 25; omega) hM2 hS1 hp1 hC2 k52 j42 hst ht hd hit' h600' (fun h3 C3 hM3 hC3 hK3 => ?_))
  rw [lW_congrS hsm, SL_pk] at hC3
  have hWp : WF (st_pk S (t - s) (lW S od s (t - s))) := WF_pk hW hnp (by omega) (by rw [lW_len]; exact h600) (by omega) (lW_lt hW (fun i q1 q2 => ⟨(hit i q1 (by omega)).1, (hit i q1 (by omega)).2.2.2⟩) (by omega))
  have hM3 : MEM h3 (n + 2) AD' (VS (st_pk S (t - s) (lW S od s (t - s)))) C3 := by
    rw [VS_eq (S := st_raw S (t - s) (4 * (t - s))) (S' := st_pk S (t - s) (lW S od s (t - s))) ((st_pk_o (by omega) (by omega)).trans (st_raw_o (by omega) (by omega)).symm) (st_pk_np.trans st_raw_np.symm)]; exact hM3
  have k53 : C3 5 0 = OSc AD' (st_pk S (t - s) (lW S od s (t - s))) (nI dn) := by
    rw [hK3 5 0 (by decide) (by decide), k52, ← SL_pk (S := S) (L := lW S od s (t - s)), OSc_SL]
  have j43 : C3 0 4 = C 0 4 := by rw [hK3 0 4 (by decide) (by decide), hK2 0 4 (by decide) (by decide), hK1 0 4 (by decide) (by decide) (by decide) (by omega)]
  have j53 : C3 0 5 = C 0 5 := by rw [hK3 0 5 (by decide) (by decide), hK2 0 5 (by decide) (by decide), hK1 0 5 (by decide) (by decide) (by decide) (by omega)]
  have j63 : ∀ a b, 6 ≤ a → C3 a b = C a b := fun a b ha => by rw [hK3 a b (by omega) (by omega), hK2 a b (by omega) (by omega), hK1 a b (by omega) (by omega) (by omega) (by omega)]
  have move : ∀ m' m, m + m' = t - s → ∀ h4 C4 v5, MEM h4 (n + 2) AD' (VS (mvN (st_pk S (t - s) (lW S od s (t - s))) od s (S_np S) m)) C4 → CC (mvN (st_pk S (t - s) (lW S od s (t - s))) od s (S_np S) m) AD' C4 → (∀ a b, a ≠ 1 → C4 a b = C3 a b) → mj_W (f - 1) (w - (19 + mj_maxL 51)) 51 mj_noZ Q 35 [.ref (AD' 5 0), .int (nI s), .int (nI t), .ref (AD' 3 (S_np S)), .int (nI (s + m)), v5] [] h4 (n + 2) (mc - 2) (ms - 606) := by
    have eos : ∀ m, OSc AD' (mvN (st_pk S (t - s) (lW S od s (t - s))) od s (S_np S) m) (nI dn) = OSc AD' (st_pk S (t - s) (lW S od s (t - s))) (nI dn) := fun m => by
      simp only [OSc, show S_no (mvN (st_pk S (t - s) (lW S od s (t - s))) od s (S_np S) m) = S_no (st_pk S (t - s) (lW S od s (t - s))) from mvN_o _ (by omega), show S_np (mvN (st_pk S (t - s) (lW S od s (t - s))) od s (S_np S) m) = S_np (st_pk S (t - s) (lW S od s (t - s))) from mvN_o _ (by omega), show S_nt (mvN (st_pk S (t - s) (lW S od s (t - s))) od s (S_np S) m) = S_nt (st_pk S (t - s) (lW S od s (t - s))) from mvN_o _ (by omega)]
    intro m'
    induction m' with
    | zero =>
      intro m hm h4 C4 v5 hM4 hC4 hK4
      obtain rfl : m = t - s := by omega
      rw [sX2_writePack_35, sX2_writePack_37, sX2_writePack_38]
      refine And.intro (fun _ => ?_) (fun c => absurd (nI_le (by omega) (by omega)) c)
      rw [sX2_writePack_70]
      refine hQ h4 C4 hM4 hC4 (fun a b ha => by rw [hK4 a b (by omega)]; exact j63 a b ha) (by rw [hK4 0 4 (by decide)]; exact j43) (by rw [hK4 0 5 (by decide)]; exact j53) ?_
      rw [hK4 5 0 (by decide), k53]
      exact (eos (t - s)).symm
    | succ m' ih =>
      intro m hm h4 C4 v5 hM4 hC4 hK4
      obtain ⟨o1, o2, o3, o4⟩ := hit (s + m) (by omega) (by omega)
      have hmv := WF_mv hWp (od := od) (s := s) (p := S_np S) (by rw [st_pk_np]; omega) m (by omega) (fun i q1 q2 => by
        rw [show S_kd (st_pk S (t - s) (lW S od s (t - s))) (od i) = S_kd S (od i) from st_pk_o (by omega) (by omega)]; exact (hit i q1 (by omega)).2.2.1)
      have kk5 : C4 5 0 = OSc AD' (mvN (st_pk S (t - s) (lW S od s (t - s))) od s (S_np S) m) (nI dn) := by rw [hK4 5 0 (by decide), k53]; exact (eos m).symm
      have jj4 : ∃ g, C4 0 4 = .inl (.int, 60, .inl g) ∧ ∀ i, i < dn → g i = nI (od i) := by rw [hK4 0 4 (by decide), j43]; exact h44
      have hO4 := hM4.1 5 0 rfl
      rw [kk5] at hO4
      have hoo : od (s + m) < S_no (mvN (st_pk S (t - s) (lW S od s (t - s))) od s (S_np S) m) := by
        rw [show S_no (mvN (st_pk S (t - s) (lW S od s (t - s))) od s (S_np S) m) = S_no S from (mvN_o _ (by omega)).trans (st_pk_o (by omega) (by omega))]; exact o1
      have es : nI (s + m) - nI s = nI m := by rw [pk_sub (by omega), Nat.add_sub_cancel_left]
      have em : nI (s + m) + 1 = nI (s + (m + 1)) := nI_1 _
      rw [sX2_writePack_35, sX2_writePack_37, sX2_writePack_38]
      refine And.intro (fun c => absurd c (nI_ge (by omega) (by omega))) (fun _ => ?_)
      simp only [sX2_writePack_41, sX2_writePack_42]
      refine sX2_writePack_44z hO4 rfl (m_planned (by omega) (by show 42 ≤ w - 25; omega) hM4 hC4 hmv.1 kk5 jj4 (by omega) hd hoo ?_)
      obtain ⟨wt, hx⟩ := hC4.it hM4 hoo
      simp only [sX2_writePack_47, sX2_writePack_49, sX2_writePack_51, sX2_writePack_54, sX2_writePack_56, sX2_writePack_57, sX2_writePack_59, sX2_writePack_60, Option.some.injEq, Sum.inr.injEq, Sum.inl.injEq, Prod.mk.injEq, true_and, and_true, exists_eq_left', exists_eq_left, exists_eq_right, exists_eq_right', exists_and_left, exists_and_right, List.getElem?_cons_succ, List.getElem?_cons_zero, List.length_cons, List.length_nil, List.set_cons_zero, List.set_cons_succ, Option.toList_some, Option.toList_none, List.nil_append, List.cons_append, mj_up_s, true_or, or_true, Nat.sub_zero, and_assoc, b10, not_true_eq_false, not_false_eq_true, false_implies, true_implies, implies_true, eq_self, and_self, rf_some, rf_none, es]
      refine sX2_writePack_61z hx rfl (c_moveInto (by omega) (by show 22 ≤ w - 25; omega) hx ?_)
      obtain ⟨C5, M5, D5, K5⟩ := CC_mv (p := S_np S) (m := m) (wt := wt) hM4 hC4 hoo
      have go := ih (m + 1) (by omega) _ C5 (.ref (AD' 1 (od (s + m)))) M5 D5 (fun a b q => (K5 a b q).trans (hK4 a b q))
      simp only [sX2_writePack_64, sX2_writePack_67, Option.some.injEq, Sum.inr.injEq, Sum.inl.injEq, Prod.mk.injEq, true_and, and_true, exists_eq_left', exists_eq_left, exists_eq_right, exists_eq_right', exists_and_left, exists_and_right, List.getElem?_cons_succ, List.getElem?_cons_zero, List.length_cons, List.length_nil, List.set_cons_zero, List.set_cons_succ, Option.toList_some, Option.toList_none, List.nil_append, List.cons_append, mj_up_s, true_or, or_true, Nat.sub_zero, and_assoc, b10, not_true_eq_false, not_false_eq_true, false_implies, true_implies, implies_true, eq_self, and_self, rf_some, rf_none, em]
      exact go
  simp only [sX2_writePack_32, sX2_writePack_33, Option.some.injEq, Sum.inr.injEq, Sum.inl.injEq, Prod.mk.injEq, true_and, and_true, exists_eq_left', exists_eq_left, exists_eq_right, exists_eq_right', exists_and_left, exists_and_right, List.getElem?_cons_succ, List.getElem?_cons_zero, List.length_cons, List.length_nil, List.set_cons_zero, List.set_cons_succ, Option.toList_some, Option.toList_none, List.nil_append, List.cons_append, mj_up_s, true_or, or_true, Nat.sub_zero, and_assoc, b10, not_true_eq_false, not_false_eq_true, false_implies, true_implies, implies_true, eq_self, and_self, rf_some, rf_none]
  exact move (t - s) 0 (by omega) h3 C3 _ hM3 hC3 (fun _ _ _ => rfl)
end
