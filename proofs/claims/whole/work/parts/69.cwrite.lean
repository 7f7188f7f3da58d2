/-! ===== the class: writePairs, writeContents ===== -/
/-- pack p holds the bytes L -/
def SL (S : St) (p : Nat) (L : List Nat) : St := S_pack S p (S_ct S p) (S_fs S p) 0 L.length (fun j => L.getD j 0)
def KB (C C' : Ct) : Prop := ∀ a b, a ≠ 3 → a ≠ 4 → C' a b = C a b
theorem KB.trans {C C1 C2 : Ct} (h1 : KB C C1) (h2 : KB C1 C2) : KB C C2 := fun a b q1 q2 => (h2 a b q1 q2).trans (h1 a b q1 q2)
theorem SL_o {S : St} {p r a b : Nat} {L : List Nat} (hr : ¬ (7 ≤ r ∧ r ≤ 11 ∧ a = p)) : SL S p L r a b = S r a b := S_pack_same r a b hr
theorem SL_same {S : St} {p : Nat} {L L' : List Nat} : sameBut (SL S p L) (SL S p L') 7 11 p := fun r a b hr => (SL_o hr).trans (SL_o hr).symm
theorem SL_ct {S : St} {p : Nat} {L : List Nat} : S_ct (SL S p L) p = S_ct S p := S_pack_ct
theorem SL_fs {S : St} {p : Nat} {L : List Nat} : S_fs (SL S p L) p = S_fs S p := S_pack_fs
theorem SL_ex {S : St} {p : Nat} {L : List Nat} : S_ex (SL S p L) p = 0 := S_pack_ex
theorem SL_pz {S : St} {p : Nat} {L : List Nat} : S_pz (SL S p L) p = L.length := S_pack_pz
theorem SL_pb {S : St} {p j : Nat} {L : List Nat} : S_pb (SL S p L) p j = L.getD j 0 := S_pack_pb
theorem SL_no {S : St} {p : Nat} {L : List Nat} : S_no (SL S p L) = S_no S := SL_o (by omega)
theorem SL_np {S : St} {p : Nat} {L : List Nat} : S_np (SL S p L) = S_np S := SL_o (by omega)
theorem SL_nt {S : St} {p : Nat} {L : List Nat} : S_nt (SL S p L) = S_nt S := SL_o (by omega)
theorem SL_un {S : St} {p la o : Nat} {L : List Nat} : un (SL S p L) la o = un S la o ∧ sam (SL S p L) la o = sam S la o := by
  have h1 : ∀ a, S_sz (SL S p L) a = S_sz S a := fun a => SL_o (by omega)
  have h2 : ∀ a j, S_by (SL S p L) a j = S_by S a j := fun a j => SL_o (by omega)
  have h3 : sam (SL S p L) la o = sam S la o := by
    cases la with
    | zero => rfl
    | succ l => exact alk_congr (h1 _) (h1 _) (h2 _) (h2 _)
  exact ⟨by unfold un; rw [h3, h1], h3⟩
theorem SL_WF {S : St} (hW : WF S) {p : Nat} {L : List Nat} (hp : p < S_np S) (h1 : L.length ≤ 600) (h2 : ∀ x, x ∈ L → x < 256) : WF (SL S p L) := by
  obtain ⟨⟨a1, a2, a3, a4⟩, a5⟩ := hW.2.2.2.2.2 p hp
  refine WF_pack hW (fun r a b hr => SL_o hr) ?_ ?_ ?_ ?_ (fun j => ?_)
  · rw [SL_ct]; exact a1
  · rw [SL_fs]; exact a2
  · rw [SL_ex]; omega
  · rw [SL_pz]; exact h1
  · rw [SL_pb]; exact getD_lt h2 j
section
variable {f w : Nat} {Q : mj_Q} {h : mj_H} {n mc ms : Nat} {S : St} {AD : Ad} {C : Ct}
/-- one more row of bytes lies there -/
theorem SL_put {h1 : mj_H} {C1 : Ct} {p : Nat} {L L' : List Nat} (hp : p < S_np S) (hM : MEM h1 n AD (VS S) C1) (hC : CC (SL S p L) AD C1) {g : Nat → Int32} (hg : ∀ j, j < L'.length → g j = bS (L'.getD j 0)) :
    ∃ C2, MEM (mj_up (mj_up h1 (AD 4 p) (BYc 600 g)) (AD 3 p) (PKc p (S_ct S p) (S_fs S p) (AD 4 p) L'.length .null)) n AD (VS S) C2 ∧ CC (SL S p L') AD C2 ∧ KB C1 C2 := by
  refine ⟨_, (hM.put (k := 4) (i := p) hp).put (k := 3) (i := p) hp, ?_, fun a b q1 q2 => by rw [Cu_k q1, Cu_k q2]⟩
  have := CC_pack hC (SL_same (L := L) (L' := L')) (g := g) (fun j hj => by rw [SL_pz] at hj; rw [SL_pb]; exact hg j hj)
  rw [SL_ct, SL_fs, SL_pz, SL_ex] at this
  exact this
theorem SL_get {h1 : mj_H} {C1 : Ct} {p : Nat} {L : List Nat} (hp : p < S_np S) (hM : MEM h1 n AD (VS S) C1) (hC : CC (SL S p L) AD C1) :
    MEM h1 n AD (VS (SL S p L)) C1 ∧ h1 (AD 3 p) = some (PKc p (S_ct S p) (S_fs S p) (AD 4 p) L.length .null) ∧ ∃ g, h1 (AD 4 p) = some (BYc 600 g) ∧ ∀ j, j < L.length → g j = bS (L.getD j 0) := by
  have hM' : MEM h1 n AD (VS (SL S p L)) C1 := by rw [VS_eq (S := S) SL_no SL_np]; exact hM
  have hp' : p < S_np (SL S p L) := by rw [SL_np]; exact hp
  have a := hC.pkc hM' hp'
  rw [SL_ct, SL_fs, SL_pz, SL_ex] at a
  obtain ⟨g, b, c⟩ := hC.pb hM' hp'
  refine ⟨hM', a, g, b, fun j hj => ?_⟩
  have := c j (by rw [SL_pz]; exact hj)
  rw [SL_pb] at this; exact this
theorem OSc_SL {p : Nat} {L : List Nat} {plc : Int32} : OSc AD (SL S p L) plc = OSc AD S plc := by simp only [OSc, SL_no, SL_np, SL_nt]
theorem lai_s {od : Nat → Nat} {s m : Nat} : lai od s (s + (m + 1)) = od (s + m) + 1 := by unfold lai; rw [if_neg (by omega), show s + (m + 1) - 1 = s + m by omega]
theorem getD_app2 {L : List Nat} {a b j : Nat} {g : Nat → Int32} (hg : ∀ j, j < L.length → g j = bS (L.getD j 0)) (hj : j < (L ++ [a, b]).length) : upd (upd g L.length (bS a)) (L.length + 1) (bS b) j = bS ((L ++ [a, b]).getD j 0) := by
  rw [List.length_append] at hj
  have hj : j < L.length + 2 := hj
  rw [show L ++ [a, b] = L ++ [a] ++ [b] by simp]
  have e1 : (L ++ [a]).length = L.length + 1 := by rw [List.length_append]; rfl
  by_cases h1 : j = L.length + 1
  · subst h1
    rw [pk_us, ← e1, getD_snoc_s]
  · rw [pk_un h1, getD_snoc_n (by omega)]
    by_cases h2 : j = L.length
    · subst h2; rw [pk_us, getD_snoc_s]
    · rw [pk_un h2, getD_snoc_n (by omega)]; exact hg j (by omega)
set_option maxRecDepth 100000 in
theorem m_writePairs (hf : 4 ≤ f) (hw : 91 ≤ w) (hM : MEM h n AD (VS S) C) (hW : WF S) {p s t dn : Nat} {od : Nat → Nat} (hp : p < S_np S) (hC : CC (SL S p []) AD C) (h5 : C 5 0 = OSc AD S (nI dn)) (h4 : ∃ g, C 0 4 = .inl (.int, 60, .inl g) ∧ ∀ i, i < dn → g i = nI (od i)) (hst : s ≤ t) (ht : t ≤ dn) (hd : dn ≤ 60) (hit : ∀ i, s ≤ i → i < t → od i < S_no S) (h600 : 4 * (t - s) + plc S od s (t - s) ≤ 600)
    (hQ : ∀ h' C', MEM h' n AD (VS S) C' → CC (SL S p (lP S od s (t - s))) AD C' → KB C C' → Q none h' n) : mj_bk f w 52 [.ref (AD 5 0), .ref (AD 3 p), .int (nI s), .int (nI t)] h n mc ms Q := by
  have w1 := hW.1
  refine mj_begin (by omega) (by decide) (by show 27 ≤ w; omega) rfl ?_
  show mj_W _ _ 52 mj_noZ Q 0 [.ref (AD 5 0), .ref (AD 3 p), .int (nI s), .int (nI t), .retAddr 0, .retAddr 0, .retAddr 0, .retAddr 0] [] h n mc ms
  have hlt : ∀ m, m ≤ t - s → ∀ x, x ∈ lP S od s m → x < 256 := fun m hm => lP_lt m (fun i h1 h2 => by have := hit i h1 (by omega); omega) (by have := plc_mono (S := S) (od := od) (s := s) hm; omega)
  have loop : ∀ m' m, m + m' = t - s → ∀ h1 C1 v7, MEM h1 n AD (VS S) C1 → CC (SL S p (lP S od s m)) AD C1 → KB C C1 → mj_W (f - 1) (w - (19 + mj_maxL 52)) 52 mj_noZ Q 9 [.ref (AD 5 0), .ref (AD 3 p), .int (nI s), .int (nI t), itv AD (lai od s (s + m)), .int (nI (plc S od s m)), .int (nI (s + m)), v7] [] h1 n mc ms := by
    intro m'
    induction m' with
    | zero =>
      intro m hm h1 C1 v7 hM1 hC1 hK1
      obtain rfl : m = t - s := by omega
      rw [sX2_writePairs_9, sX2_writePairs_11, sX2_writePairs_12]
      refine And.intro (fun _ => ?_) (fun c => absurd (nI_le (by omega) (by omega)) c)
      rw [sX2_writePairs_67]; exact hQ h1 C1 hM1 hC1 hK1
    | succ m' ih =>
      intro m hm h1 C1 v7 hM1 hC1 hK1
      have hon := hit (s + m) (by omega) (by omega)
      have hpm := plc_mono (S := S) (od := od) (s := s) (show m + 1 ≤ t - s by omega)
      have hstep : plc S od s (m + 1) = plc S od s m + (2 + un S (lai od s (s + m)) (od (s + m))) := rfl
      have hWm : WF (SL S p (lP S od s m)) := SL_WF hW hp (by rw [lP_len]; omega) (hlt m (by omega))
      obtain ⟨hM1', hx3, g, hx4, hg⟩ := SL_get hp hM1 hC1
      have k5 : C1 5 0 = OSc AD (SL S p (lP S od s m)) (nI dn) := by rw [hK1 5 0 (by decide) (by decide), OSc_SL]; exact h5
      have k4 : ∃ g, C1 0 4 = .inl (.int, 60, .inl g) ∧ ∀ i, i < dn → g i = nI (od i) := by rw [hK1 0 4 (by decide) (by decide)]; exact h4
      have hO := hM1.1 5 0 rfl
      rw [k5] at hO
      have ho' : od (s + m) < S_no (SL S p (lP S od s m)) := by rw [SL_no]; exact hon
      rw [sX2_writePairs_9, sX2_writePairs_11, sX2_writePairs_12]
      refine And.intro (fun c => absurd c (nI_ge (by omega) (by omega))) (fun _ => ?_)
      simp only [sX2_writePairs_15, sX2_writePairs_16]
      refine sX2_writePairs_18z hO rfl (m_planned (by omega) (by show 42 ≤ w - 27; omega) hM1' hC1 hWm k5 k4 (by omega) hd ho' ?_)
      obtain ⟨wt, hx⟩ := hC1.it hM1' ho'
      simp only [sX2_writePairs_21, sX2_writePairs_23, sX2_writePairs_25, sX2_writePairs_28, sX2_writePairs_29, sX2_writePairs_31, hx, Option.some.injEq, Sum.inr.injEq, Sum.inl.injEq, Prod.mk.injEq, true_and, and_true, exists_eq_left', exists_eq_left, exists_eq_right, exists_eq_right', exists_and_left, exists_and_right, List.getElem?_cons_succ, List.getElem?_cons_zero, List.length_cons, List.length_nil, List.set_cons_zero, List.set_cons_succ, Option.toList_some, Option.toList_none, List.nil_append, List.cons_append, mj_up_s, true_or, or_true, Nat.sub_zero, and_assoc, b10, not_true_eq_false, not_false_eq_true, false_implies, true_implies, implies_true, eq_self, and_self, rf_some, rf_none]
      rw [lP_len] at hx3
      refine sX2_writePairs_34z hx3 rfl (c_appendNumber (by omega) (by show 42 ≤ w - 27; omega) hx3 hx4 (by omega) (by omega) ?_)
      obtain ⟨C2, M2, D2, K2⟩ := SL_put (L' := lP S od s m ++ [od (s + m) / 256, od (s + m) % 256]) hp hM1 hC1 (g := upd (upd g (4 * m) (bS (od (s + m) / 256))) (4 * m + 1) (bS (od (s + m) % 256))) (fun j hj => by rw [← lP_len (S := S) (od := od) (s := s) m]; exact getD_app2 hg hj)
      rw [show (lP S od s m ++ [od (s + m) / 256, od (s + m) % 256]).length = 4 * m + 2 by rw [List.length_append, lP_len]; rfl] at M2
      generalize mj_up (mj_up h1 (AD 4 p) _) (AD 3 p) _ = h2 at M2 ⊢
      obtain ⟨hM2', hy3, g2, hy4, hg2⟩ := SL_get hp M2 D2
      have e2 : (lP S od s m ++ [od (s + m) / 256, od (s + m) % 256]).length = 4 * m + 2 := by rw [List.length_append, lP_len]; rfl
      rw [e2] at hy3
      simp only [sX2_writePairs_37, sX2_writePairs_38, Option.some.injEq, Sum.inr.injEq, Sum.inl.injEq, Prod.mk.injEq, true_and, and_true, exists_eq_left', exists_eq_left, exists_eq_right, exists_eq_right', exists_and_left, exists_and_right, List.getElem?_cons_succ, List.getElem?_cons_zero, List.length_cons, List.length_nil, List.set_cons_zero, List.set_cons_succ, Option.toList_some, Option.toList_none, List.nil_append, List.cons_append, mj_up_s, true_or, or_true, Nat.sub_zero, and_assoc, b10, not_true_eq_false, not_false_eq_true, false_implies, true_implies, implies_true, eq_self, and_self, rf_some, rf_none]
      refine sX2_writePairs_40z hy3 rfl (c_appendNumber (by omega) (by show 42 ≤ w - 27; omega) hy3 hy4 (by omega) (by omega) ?_)
      obtain ⟨C3, M3, D3, K3⟩ := SL_put (L' := lP S od s (m + 1)) hp M2 D2 (g := upd (upd g2 (4 * m + 2) (bS (plc S od s m / 256))) (4 * m + 2 + 1) (bS (plc S od s m % 256))) (fun j hj => by
        have e : lP S od s (m + 1) = lP S od s m ++ [od (s + m) / 256, od (s + m) % 256] ++ [plc S od s m / 256, plc S od s m % 256] := by
          show lP S od s m ++ [_, _, _, _] = _
          simp [List.append_assoc]
        rw [e] at hj ⊢
        rw [← e2]; exact getD_app2 hg2 hj)
      rw [lP_len, show 4 * (m + 1) = 4 * m + 2 + 2 by omega] at M3
      generalize mj_up (mj_up h2 (AD 4 p) _) (AD 3 p) _ = h3 at M3 ⊢
      have hWm3 : WF (SL S p (lP S od s (m + 1))) := SL_WF hW hp (by rw [lP_len]; omega) (hlt (m + 1) (by omega))
      obtain ⟨hM3', hz3, -⟩ := SL_get hp M3 D3
      have ho3 : od (s + m) < S_no (SL S p (lP S od s (m + 1))) := by rw [SL_no]; exact hon
      obtain ⟨wt3, hx3⟩ := D3.it hM3' ho3
      have eun : un (SL S p (lP S od s (m + 1))) (lai od s (s + m)) (od (s + m)) = un S (lai od s (s + m)) (od (s + m)) := SL_un.1
      have ea : (2 : Int32) + nI (un S (lai od s (s + m)) (od (s + m))) = nI (2 + un S (lai od s (s + m)) (od (s + m))) := by rw [show (2 : Int32) = nI 2 from rfl, nI_add]
      have eb : nI (plc S od s m) + nI (2 + un S (lai od s (s + m)) (od (s + m))) = nI (plc S od s (m + 1)) := by rw [hstep]; exact nI_add _ _
      have em : nI (s + m) + 1 = nI (s + (m + 1)) := nI_1 _
      have go := ih (m + 1) (by omega) h3 C3 (.ref (AD 1 (od (s + m)))) M3 D3 ((hK1.trans K2).trans K3)
      rw [lai_s] at go
      have call : ∀ v, v = itv AD (lai od s (s + m)) → mj_W (f - 1) (w - (19 + mj_maxL 52)) 52 mj_noZ Q 50 [.ref (AD 5 0), .ref (AD 3 p), .int (nI s), .int (nI t), v, .int (nI (plc S od s m)), .int (nI (s + m)), .ref (AD 1 (od (s + m)))] [v, .ref (AD 1 (od (s + m))), .int 2, .int (nI (plc S od s m))] h3 n mc ms := fun v hv => by
        subst hv
        refine sX2_writePairs_50z hx3 (by cases lai od s (s + m) <;> rfl) (m_unlike (by omega) (by show 64 ≤ w - 27; omega) hM3' D3 hWm3 ho3 (fun l hl => by
          rw [SL_no]
          unfold lai at hl
          split at hl
          · omega
          · have := hit (s + m - 1) (by omega) (by omega); omega) ?_)
        rw [eun]
        simp only [sX2_writePairs_53, sX2_writePairs_54, sX2_writePairs_55, sX2_writePairs_57, sX2_writePairs_59, sX2_writePairs_61, sX2_writePairs_64, Option.some.injEq, Sum.inr.injEq, Sum.inl.injEq, Prod.mk.injEq, true_and, and_true, exists_eq_left', exists_eq_left, exists_eq_right, exists_eq_right', exists_and_left, exists_and_right, List.getElem?_cons_succ, List.getElem?_cons_zero, List.length_cons, List.length_nil, List.set_cons_zero, List.set_cons_succ, Option.toList_some, Option.toList_none, List.nil_append, List.cons_append, mj_up_s, true_or, or_true, Nat.sub_zero, and_assoc, b10, not_true_eq_false, not_false_eq_true, false_implies, true_implies, implies_true, eq_self, and_self, rf_some, rf_none, ea, eb, em]
        exact go
      cases hla : lai od s (s + m) with
      | zero =>
        have := call .null (by rw [hla]; rfl)
        simp only [itv, sX2_writePairs_43, sX2_writePairs_45, sX2_writePairs_46, sX2_writePairs_48n, Option.some.injEq, Sum.inr.injEq, Sum.inl.injEq, Prod.mk.injEq, true_and, and_true, exists_eq_left', exists_eq_left, exists_eq_right, exists_eq_right', exists_and_left, exists_and_right, List.getElem?_cons_succ, List.getElem?_cons_zero, List.length_cons, List.length_nil, List.set_cons_zero, List.set_cons_succ, Option.toList_some, Option.toList_none, List.nil_append, List.cons_append, mj_up_s, true_or, or_true, Nat.sub_zero, and_assoc, b10, not_true_eq_false, not_false_eq_true, false_implies, true_implies, implies_true, eq_self, and_self, rf_some, rf_none]
        exact this
      | succ l =>
        have := call (.ref (AD 1 l)) (by rw [hla]; rfl)
        simp only [itv, sX2_writePairs_43, sX2_writePairs_45, sX2_writePairs_46, sX2_writePairs_48, Option.some.injEq, Sum.inr.injEq, Sum.inl.injEq, Prod.mk.injEq, true_and, and_true, exists_eq_left', exists_eq_left, exists_eq_right, exists_eq_right', exists_and_left, exists_and_right, List.getElem?_cons_succ, List.getElem?_cons_zero, List.length_cons, List.length_nil, List.set_cons_zero, List.set_cons_succ, Option.toList_some, Option.toList_none, List.nil_append, List.cons_append, mj_up_s, true_or, or_true, Nat.sub_zero, and_assoc, b10, not_true_eq_false, not_false_eq_true, false_implies, true_implies, implies_true, eq_self, and_self, rf_some, rf_none]
        exact this
  have l0 : lai od s (s + 0) = 0 := if_pos rfl
  have go := loop (t - s) 0 (by omega) h C (.retAddr 0) hM hC (fun _ _ _ _ => rfl)
  rw [l0] at go
  simp only [sX2_writePairs_0, sX2_writePairs_1n, sX2_writePairs_3, sX2_writePairs_4, sX2_writePairs_6, sX2_writePairs_7, Option.some.injEq, Sum.inr.injEq, Sum.inl.injEq, Prod.mk.injEq, true_and, and_true, exists_eq_left', exists_eq_left, exists_eq_right, exists_eq_right', exists_and_left, exists_and_right, List.getElem?_cons_succ, List.getElem?_cons_zero, List.length_cons, List.length_nil, List.set_cons_zero, List.set_cons_succ, Option.toList_some, Option.toList_none, List.nil_append, List.cons_append, mj_up_s, true_or, or_true, Nat.sub_zero, and_assoc, b10, not_true_eq_false, not_false_eq_true, false_implies, true_implies, implies_true, eq_self, and_self, rf_some, rf_none]
  exact go
theorem bLs_getD {o a : Nat} : ∀ m t, t < m → (bLs S o a m).getD t 0 = S_by S o (a + t)
  | 0, t, h => by omega
  | m + 1, t, h => by
    show (bLs S o a m ++ [S_by S o (a + m)]).getD t 0 = _
    by_cases e : t = m
    · subst e
      have := getD_snoc_s (L := bLs S o a t) (v := S_by S o (a + t))
      rw [bLs_len] at this; exact this
    · rw [getD_snoc_n (by rw [bLs_len]; omega)]
      exact bLs_getD m t (by omega)
theorem getD_app {L M : List Nat} {j : Nat} : (L ++ M).getD j 0 = if j < L.length then L.getD j 0 else M.getD (j - L.length) 0 := by
  simp only [List.getD_eq_getElem?_getD]
  split
  · rename_i h; rw [List.getElem?_append_left h]
  · rename_i h; rw [List.getElem?_append_right (by omega)]
set_option maxRecDepth 100000 in
theorem m_writeContents (hf : 4 ≤ f) (hw : 93 ≤ w) (hM : MEM h n AD (VS S) C) (hW : WF S) {p s t dn : Nat} {od : Nat → Nat} (hp : p < S_np S) (hC : CC (SL S p (lP S od s (t - s))) AD C) (h5 : C 5 0 = OSc AD S (nI dn)) (h4 : ∃ g, C 0 4 = .inl (.int, 60, .inl g) ∧ ∀ i, i < dn → g i = nI (od i)) (hst : s ≤ t) (ht : t ≤ dn) (hd : dn ≤ 60) (hit : ∀ i, s ≤ i → i < t → od i < S_no S) (h600 : 4 * (t - s) + plc S od s (t - s) ≤ 600)
    (hQ : ∀ h' C', MEM h' n AD (VS S) C' → CC (SL S p (lW S od s (t - s))) AD C' → KB C C' → Q none h' n) : mj_bk f w 53 [.ref (AD 5 0), .ref (AD 3 p), .int (nI s), .int (nI t)] h n mc ms Q := by
  have w1 := hW.1
  refine mj_begin (by omega) (by decide) (by show 26 ≤ w; omega) rfl ?_
  show mj_W _ _ 53 mj_noZ Q 0 [.ref (AD 5 0), .ref (AD 3 p), .int (nI s), .int (nI t), .retAddr 0, .retAddr 0, .retAddr 0] [] h n mc ms
  have hlt : ∀ m, m ≤ t - s → ∀ x, x ∈ lP S od s (t - s) ++ lC S od s m → x < 256 := fun m hm x hx => by
    rcases List.mem_append.mp hx with h | h
    · exact lP_lt (t - s) (fun i h1 h2 => by have := hit i h1 (by omega); omega) (by omega) x h
    · exact lC_lt hW.2.2.2.2.1 m (fun i h1 h2 => (hW.2.2.2.1 _ (hit i h1 (by omega))).2.1) x h
  have loop : ∀ m' m, m + m' = t - s → ∀ h1 C1 v6, MEM h1 n AD (VS S) C1 → CC (SL S p (lP S od s (t - s) ++ lC S od s m)) AD C1 → KB C C1 → mj_W (f - 1) (w - (19 + mj_maxL 53)) 53 mj_noZ Q 6 [.ref (AD 5 0), .ref (AD 3 p), .int (nI s), .int (nI t), itv AD (lai od s (s + m)), .int (nI (s + m)), v6] [] h1 n mc ms := by
    intro m'
    induction m' with
    | zero =>
      intro m hm h1 C1 v6 hM1 hC1 hK1
      obtain rfl : m = t - s := by omega
      rw [sX2_writeContents_6, sX2_writeContents_8, sX2_writeContents_9]
      refine And.intro (fun _ => ?_) (fun c => absurd (nI_le (by omega) (by omega)) c)
      rw [sX2_writeContents_43]; exact hQ h1 C1 hM1 hC1 hK1
    | succ m' ih =>
      intro m hm h1 C1 v6 hM1 hC1 hK1
      have hon := hit (s + m) (by omega) (by omega)
      have hz60 := (hW.2.2.2.1 _ hon).2.1
      have hpm := plc_mono (S := S) (od := od) (s := s) (show m + 1 ≤ t - s by omega)
      have hstep : plc S od s (m + 1) = plc S od s m + (2 + un S (lai od s (s + m)) (od (s + m))) := rfl
      have hlen : (lP S od s (t - s) ++ lC S od s m).length = 4 * (t - s) + plc S od s m := by rw [List.length_append, lP_len, lC_len]
      have hWm : WF (SL S p (lP S od s (t - s) ++ lC S od s m)) := SL_WF hW hp (by rw [hlen]; omega) (hlt m (by omega))
      obtain ⟨hM1', hx3, g, hx4, hg⟩ := SL_get hp hM1 hC1
      have k5 : C1 5 0 = OSc AD (SL S p (lP S od s (t - s) ++ lC S od s m)) (nI dn) := by rw [hK1 5 0 (by decide) (by decide), OSc_SL]; exact h5
      have k4 : ∃ g, C1 0 4 = .inl (.int, 60, .inl g) ∧ ∀ i, i < dn → g i = nI (od i) := by rw [hK1 0 4 (by decide) (by decide)]; exact h4
      have hO := hM1.1 5 0 rfl
      rw [k5] at hO
      have ho' : od (s + m) < S_no (SL S p (lP S od s (t - s) ++ lC S od s m)) := by rw [SL_no]; exact hon
      have hla' : ∀ l, lai od s (s + m) = l + 1 → l < S_no (SL S p (lP S od s (t - s) ++ lC S od s m)) := fun l hl => by
        rw [SL_no]
        unfold lai at hl
        split at hl
        · omega
        · have := hit (s + m - 1) (by omega) (by omega); omega
      rw [sX2_writeContents_6, sX2_writeContents_8, sX2_writeContents_9]
      refine And.intro (fun c => absurd c (nI_ge (by omega) (by omega))) (fun _ => ?_)
      simp only [sX2_writeContents_12, sX2_writeContents_13]
      refine sX2_writeContents_15z hO rfl (m_planned (by omega) (by show 42 ≤ w - 26; omega) hM1' hC1 hWm k5 k4 (by omega) hd ho' ?_)
      obtain ⟨wt, hx⟩ := hC1.it hM1' ho'
      obtain ⟨g1, hx2, hg1⟩ := hC1.ow hM1' ho'
      have ez : S_sz (SL S p (lP S od s (t - s) ++ lC S od s m)) (od (s + m)) = S_sz S (od (s + m)) := SL_o (by omega)
      rw [ez] at hx hg1
      have eb : ∀ j, S_by (SL S p (lP S od s (t - s) ++ lC S od s m)) (od (s + m)) j = S_by S (od (s + m)) j := fun j => SL_o (by omega)
      have esm : sam (SL S p (lP S od s (t - s) ++ lC S od s m)) (lai od s (s + m)) (od (s + m)) = sam S (lai od s (s + m)) (od (s + m)) := SL_un.2
      have hsl := sam_le (S := S) (la := lai od s (s + m)) (o := od (s + m))
      have hun : un S (lai od s (s + m)) (od (s + m)) = S_sz S (od (s + m)) - sam S (lai od s (s + m)) (od (s + m)) := rfl
      have em : nI (s + m) + 1 = nI (s + (m + 1)) := nI_1 _
      have eC : lC S od s (m + 1) = lC S od s m ++ ([sam S (lai od s (s + m)) (od (s + m)), un S (lai od s (s + m)) (od (s + m))] ++ bLs S (od (s + m)) (sam S (lai od s (s + m)) (od (s + m))) (un S (lai od s (s + m)) (od (s + m)))) := rfl
      have call : ∀ v, v = itv AD (lai od s (s + m)) → mj_W (f - 1) (w - (19 + mj_maxL 53)) 53 mj_noZ Q 30 [.ref (AD 5 0), .ref (AD 3 p), .int (nI s), .int (nI t), v, .int (nI (s + m)), .ref (AD 1 (od (s + m)))] [v, .ref (AD 1 (od (s + m))), .ref (AD 3 p)] h1 n mc ms := fun v hv => by
        subst hv
        refine sX2_writeContents_30z hx3 (by cases lai od s (s + m) <;> rfl) (c_appendContent (al := sam S (lai od s (s + m)) (od (s + m))) (by omega) (by show 67 ≤ w - 26; omega) hx3 hx4 hx hx2 hz60 (fun j hj => by rw [hg1 j hj]; exact bS_nar _) hsl (by cases lai od s (s + m) <;> rfl) (by cases lai od s (s + m) <;> rfl) (fun Q' hq => m_alike (by omega) (by show 43 ≤ w - 26 - 24; omega) hM1' hC1 hWm ho' hla' (by rw [esm]; exact hq)) (by rw [hlen]; omega) (fun g' q1 q2 q3 q4 => ?_))
        obtain ⟨C2, M2, D2, K2⟩ := SL_put (L' := lP S od s (t - s) ++ lC S od s (m + 1)) hp hM1 hC1 (g := g') (fun j hj => by
          rw [eC, ← List.append_assoc] at hj ⊢
          rw [getD_app]
          split
          · rename_i hj1; rw [q1 j hj1]; exact hg j hj1
          · rename_i hj1
            generalize hlL : (lP S od s (t - s) ++ lC S od s m).length = lL at *
            rw [getD_app]
            rw [List.length_append, hlL, List.length_append, bLs_len] at hj
            have hj : j < lL + (2 + un S (lai od s (s + m)) (od (s + m))) := hj
            by_cases j0 : j = lL
            · subst j0; rw [q2, if_pos (by show j - j < 2; omega), Nat.sub_self]; rfl
            · by_cases j1 : j = lL + 1
              · subst j1; rw [q3, if_pos (by show lL + 1 - lL < 2; omega), Nat.add_sub_cancel_left]; rfl
              · rw [if_neg (by show ¬ j - lL < 2; omega)]
                show _ = bS ((bLs _ _ _ _).getD (j - lL - 2) 0)
                rw [bLs_getD _ _ (by omega)]
                have := q4 (j - lL - 2) (by omega)
                rw [show lL + 2 + (j - lL - 2) = j by omega] at this
                rw [this, hg1 _ (by omega), eb])
        rw [show (lP S od s (t - s) ++ lC S od s (m + 1)).length = (lP S od s (t - s) ++ lC S od s m).length + 2 + (S_sz S (od (s + m)) - sam S (lai od s (s + m)) (od (s + m))) by rw [hlen, List.length_append, lP_len, lC_len, hstep, hun]; omega] at M2
        have go := ih (m + 1) (by omega) _ C2 (.ref (AD 1 (od (s + m)))) M2 D2 (hK1.trans K2)
        rw [lai_s] at go
        simp only [sX2_writeContents_33, sX2_writeContents_35, sX2_writeContents_37, sX2_writeContents_40, Option.some.injEq, Sum.inr.injEq, Sum.inl.injEq, Prod.mk.injEq, true_and, and_true, exists_eq_left', exists_eq_left, exists_eq_right, exists_eq_right', exists_and_left, exists_and_right, List.getElem?_cons_succ, List.getElem?_cons_zero, List.length_cons, List.length_nil, List.set_cons_zero, List.set_cons_succ, Option.toList_some, Option.toList_none, List.nil_append, List.cons_append, mj_up_s, true_or, or_true, Nat.sub_zero, and_assoc, b10, not_true_eq_false, not_false_eq_true, false_implies, true_implies, implies_true, eq_self, and_self, rf_some, rf_none, em]
        exact go
      cases hla : lai od s (s + m) with
      | zero =>
        have := call .null (by rw [hla]; rfl)
        simp only [itv, sX2_writeContents_18, sX2_writeContents_20, sX2_writeContents_22, sX2_writeContents_25, sX2_writeContents_26, sX2_writeContents_28n, Option.some.injEq, Sum.inr.injEq, Sum.inl.injEq, Prod.mk.injEq, true_and, and_true, exists_eq_left', exists_eq_left, exists_eq_right, exists_eq_right', exists_and_left, exists_and_right, List.getElem?_cons_succ, List.getElem?_cons_zero, List.length_cons, List.length_nil, List.set_cons_zero, List.set_cons_succ, Option.toList_some, Option.toList_none, List.nil_append, List.cons_append, mj_up_s, true_or, or_true, Nat.sub_zero, and_assoc, b10, not_true_eq_false, not_false_eq_true, false_implies, true_implies, implies_true, eq_self, and_self, rf_some, rf_none]
        exact this
      | succ l =>
        have := call (.ref (AD 1 l)) (by rw [hla]; rfl)
        simp only [itv, sX2_writeContents_18, sX2_writeContents_20, sX2_writeContents_22, sX2_writeContents_25, sX2_writeContents_26, sX2_writeContents_28, Option.some.injEq, Sum.inr.injEq, Sum.inl.injEq, Prod.mk.injEq, true_and, and_true, exists_eq_left', exists_eq_left, exists_eq_right, exists_eq_right', exists_and_left, exists_and_right, List.getElem?_cons_succ, List.getElem?_cons_zero, List.length_cons, List.length_nil, List.set_cons_zero, List.set_cons_succ, Option.toList_some, Option.toList_none, List.nil_append, List.cons_append, mj_up_s, true_or, or_true, Nat.sub_zero, and_assoc, b10, not_true_eq_false, not_false_eq_true, false_implies, true_implies, implies_true, eq_self, and_self, rf_some, rf_none]
        exact this
  have l0 : lai od s (s + 0) = 0 := if_pos rfl
  have go := loop (t - s) 0 (by omega) h C (.retAddr 0) hM (by rw [show lC S od s 0 = [] from rfl, List.append_nil]; exact hC) (fun _ _ _ _ => rfl)
  rw [l0] at go
  simp only [sX2_writeContents_0, sX2_writeContents_1n, sX2_writeContents_3, sX2_writeContents_4, Option.some.injEq, Sum.inr.injEq, Sum.inl.injEq, Prod.mk.injEq, true_and, and_true, exists_eq_left', exists_eq_left, exists_eq_right, exists_eq_right', exists_and_left, exists_and_right, List.getElem?_cons_succ, List.getElem?_cons_zero, List.length_cons, List.length_nil, List.set_cons_zero, List.set_cons_succ, Option.toList_some, Option.toList_none, List.nil_append, List.cons_append, mj_up_s, true_or, or_true, Nat.sub_zero, and_assoc, b10, not_true_eq_false, not_false_eq_true, false_implies, true_implies, implies_true, eq_self, and_self, rf_some, rf_none]
  exact go
end
