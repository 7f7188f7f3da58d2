/-! ===== one object or one pack changes ===== -/
def sameBut (S S' : St) (lo hi i : Nat) : Prop := ∀ r a b, ¬ (lo ≤ r ∧ r ≤ hi ∧ a = i) → S' r a b = S r a b
theorem VS_eq {S S' : St} (h1 : S_no S' = S_no S) (h2 : S_np S' = S_np S) : VS S' = VS S := by
  funext k i
  unfold VS
  rw [h1, h2]
section
variable {S S' : St} {AD : Ad} {C : Ct}
theorem CC_item (hC : CC S AD C) {i : Nat} (hS : sameBut S S' 1 5 i) {wt : Int32} {g : Nat → Int32} (hg : ∀ j, j < S_sz S' i → g j = bS (S_by S' i j)) : CC S' AD (Cu (Cu C 2 i (BYc 60 g)) 1 i (ITc i (S_kd S' i) (AD 2 i) (S_sz S' i) (hmv AD (S_pk S' i)) (S_ix S' i) wt)) := by
  have e0 : S_no S' = S_no S := hS 0 0 0 (by omega)
  have e6 : S_np S' = S_np S := hS 6 0 0 (by omega)
  have e12 : S_nt S' = S_nt S := hS 12 0 0 (by omega)
  have eC : ∀ a b, a ≠ 1 → a ≠ 2 → Cu (Cu C 2 i (BYc 60 g)) 1 i (ITc i (S_kd S' i) (AD 2 i) (S_sz S' i) (hmv AD (S_pk S' i)) (S_ix S' i) wt) a b = C a b := fun a b h1 h2 => by rw [Cu_k h1, Cu_k h2]
  obtain ⟨⟨plc, c1⟩, ⟨g2, c2, d2⟩, ⟨g3, c3, d3⟩, ⟨g4, c4, d4⟩, ⟨g5, c5, d5⟩, ⟨g6, c6⟩, ⟨g7, c7⟩, c8, c9, c10, c11⟩ := hC
  refine ⟨⟨plc, ?_⟩, ⟨g2, ?_, fun j hj => d2 j (by omega)⟩, ⟨g3, ?_, fun j hj => d3 j (by omega)⟩, ⟨g4, ?_, fun j hj => ?_⟩, ⟨g5, ?_, fun j hj => ?_⟩, ⟨g6, ?_⟩, ⟨g7, ?_⟩, fun j hj => ?_, fun j hj => ?_, fun p hp => ?_, fun p hp => ?_⟩
  · rw [eC _ _ (by decide) (by decide), c1]; simp only [OSc, e0, e6, e12]
  · rw [eC _ _ (by decide) (by decide)]; exact c2
  · rw [eC _ _ (by decide) (by decide)]; exact c3
  · rw [eC _ _ (by decide) (by decide)]; exact c4
  · rw [show S_tf S' j = S_tf S j from hS 13 j 0 (by omega)]; exact d4 j (by omega)
  · rw [eC _ _ (by decide) (by decide)]; exact c5
  · rw [show S_tp S' j = S_tp S j from hS 14 j 0 (by omega)]; exact d5 j (by omega)
  · rw [eC _ _ (by decide) (by decide)]; exact c6
  · rw [eC _ _ (by decide) (by decide)]; exact c7
  · by_cases h1 : j = i
    · subst h1; exact ⟨wt, by rw [Cu_s]⟩
    · obtain ⟨wt', c8⟩ := c8 j (by omega)
      refine ⟨wt', ?_⟩
      rw [Cu_i h1, Cu_i h1, c8]
      simp only [show S_kd S' j = S_kd S j from hS 1 j 0 (by omega), show S_sz S' j = S_sz S j from hS 2 j 0 (by omega), show S_pk S' j = S_pk S j from hS 4 j 0 (by omega), show S_ix S' j = S_ix S j from hS 5 j 0 (by omega)]
  · by_cases h1 : j = i
    · subst h1; exact ⟨g, by rw [Cu_k (by decide), Cu_s], hg⟩
    · obtain ⟨g', c9, d9⟩ := c9 j (by omega)
      refine ⟨g', by rw [Cu_i h1, Cu_i h1, c9], fun t ht => ?_⟩
      rw [show S_by S' j t = S_by S j t from hS 3 j t (by omega)]
      exact d9 t (by rw [← show S_sz S' j = S_sz S j from hS 2 j 0 (by omega)]; exact ht)
  · rw [eC _ _ (by decide) (by decide), c10 p (by omega)]
    simp only [show S_ct S' p = S_ct S p from hS 7 p 0 (by omega), show S_fs S' p = S_fs S p from hS 8 p 0 (by omega), show S_ex S' p = S_ex S p from hS 9 p 0 (by omega), show S_pz S' p = S_pz S p from hS 10 p 0 (by omega)]
  · obtain ⟨g', c11, d11⟩ := c11 p (by omega)
    refine ⟨g', by rw [eC _ _ (by decide) (by decide), c11], fun t ht => ?_⟩
    rw [show S_pb S' p t = S_pb S p t from hS 11 p t (by omega)]
    exact d11 t (by rw [← show S_pz S' p = S_pz S p from hS 10 p 0 (by omega)]; exact ht)
theorem CC_pack (hC : CC S AD C) {i : Nat} (hS : sameBut S S' 7 11 i) {g : Nat → Int32} (hg : ∀ j, j < S_pz S' i → g j = bS (S_pb S' i j)) : CC S' AD (Cu (Cu C 4 i (BYc 600 g)) 3 i (PKc i (S_ct S' i) (S_fs S' i) (AD 4 i) (S_pz S' i) (hmv AD (S_ex S' i)))) := by
  have e0 : S_no S' = S_no S := hS 0 0 0 (by omega)
  have e6 : S_np S' = S_np S := hS 6 0 0 (by omega)
  have e12 : S_nt S' = S_nt S := hS 12 0 0 (by omega)
  have eC : ∀ a b, a ≠ 3 → a ≠ 4 → Cu (Cu C 4 i (BYc 600 g)) 3 i (PKc i (S_ct S' i) (S_fs S' i) (AD 4 i) (S_pz S' i) (hmv AD (S_ex S' i))) a b = C a b := fun a b h1 h2 => by rw [Cu_k h1, Cu_k h2]
  obtain ⟨⟨plc, c1⟩, ⟨g2, c2, d2⟩, ⟨g3, c3, d3⟩, ⟨g4, c4, d4⟩, ⟨g5, c5, d5⟩, ⟨g6, c6⟩, ⟨g7, c7⟩, c8, c9, c10, c11⟩ := hC
  refine ⟨⟨plc, ?_⟩, ⟨g2, ?_, fun j hj => d2 j (by omega)⟩, ⟨g3, ?_, fun j hj => d3 j (by omega)⟩, ⟨g4, ?_, fun j hj => ?_⟩, ⟨g5, ?_, fun j hj => ?_⟩, ⟨g6, ?_⟩, ⟨g7, ?_⟩, fun j hj => ?_, fun j hj => ?_, fun p hp => ?_, fun p hp => ?_⟩
  · rw [eC _ _ (by decide) (by decide), c1]; simp only [OSc, e0, e6, e12]
  · rw [eC _ _ (by decide) (by decide)]; exact c2
  · rw [eC _ _ (by decide) (by decide)]; exact c3
  · rw [eC _ _ (by decide) (by decide)]; exact c4
  · rw [show S_tf S' j = S_tf S j from hS 13 j 0 (by omega)]; exact d4 j (by omega)
  · rw [eC _ _ (by decide) (by decide)]; exact c5
  · rw [show S_tp S' j = S_tp S j from hS 14 j 0 (by omega)]; exact d5 j (by omega)
  · rw [eC _ _ (by decide) (by decide)]; exact c6
  · rw [eC _ _ (by decide) (by decide)]; exact c7
  · obtain ⟨wt', c8⟩ := c8 j (by omega)
    refine ⟨wt', ?_⟩
    rw [eC _ _ (by decide) (by decide), c8]
    simp only [show S_kd S' j = S_kd S j from hS 1 j 0 (by omega), show S_sz S' j = S_sz S j from hS 2 j 0 (by omega), show S_pk S' j = S_pk S j from hS 4 j 0 (by omega), show S_ix S' j = S_ix S j from hS 5 j 0 (by omega)]
  · obtain ⟨g', c9, d9⟩ := c9 j (by omega)
    refine ⟨g', by rw [eC _ _ (by decide) (by decide), c9], fun t ht => ?_⟩
    rw [show S_by S' j t = S_by S j t from hS 3 j t (by omega)]
    exact d9 t (by rw [← show S_sz S' j = S_sz S j from hS 2 j 0 (by omega)]; exact ht)
  · by_cases h1 : p = i
    · subst h1; rw [Cu_s]
    · rw [Cu_i h1, Cu_i h1, c10 p (by omega)]
      simp only [show S_ct S' p = S_ct S p from hS 7 p 0 (by omega), show S_fs S' p = S_fs S p from hS 8 p 0 (by omega), show S_ex S' p = S_ex S p from hS 9 p 0 (by omega), show S_pz S' p = S_pz S p from hS 10 p 0 (by omega)]
  · by_cases h1 : p = i
    · subst h1; exact ⟨g, by rw [Cu_k (by decide), Cu_s], hg⟩
    · obtain ⟨g', c11, d11⟩ := c11 p (by omega)
      refine ⟨g', by rw [Cu_i h1, Cu_i h1, c11], fun t ht => ?_⟩
      rw [show S_pb S' p t = S_pb S p t from hS 11 p t (by omega)]
      exact d11 t (by rw [← show S_pz S' p = S_pz S p from hS 10 p 0 (by omega)]; exact ht)
end
/-- the registers of object i, all anew -/
def S_item (S : St) (i kd s : Nat) (by_ : Nat → Nat) (pk ix : Nat) : St := fun r a b => if a = i ∧ 1 ≤ r ∧ r ≤ 5 then (match r with
  | 1 => if b = 0 then kd else S r a b
  | 2 => if b = 0 then s else S r a b
  | 3 => by_ b
  | 4 => if b = 0 then pk else S r a b
  | 5 => if b = 0 then ix else S r a b
  | _ => S r a b) else S r a b
theorem S_item_same {S : St} {i kd s : Nat} {by_ : Nat → Nat} {pk ix : Nat} : sameBut S (S_item S i kd s by_ pk ix) 1 5 i := by
  intro r a b hn
  unfold S_item
  rw [if_neg (by omega)]
theorem S_item_kd {S : St} {i kd s : Nat} {by_ : Nat → Nat} {pk ix : Nat} : S_kd (S_item S i kd s by_ pk ix) i = kd := by simp [S_kd, S_item]
theorem S_item_sz {S : St} {i kd s : Nat} {by_ : Nat → Nat} {pk ix : Nat} : S_sz (S_item S i kd s by_ pk ix) i = s := by simp [S_sz, S_item]
theorem S_item_by {S : St} {i kd s : Nat} {by_ : Nat → Nat} {pk ix j : Nat} : S_by (S_item S i kd s by_ pk ix) i j = by_ j := by simp [S_by, S_item]
theorem S_item_pk {S : St} {i kd s : Nat} {by_ : Nat → Nat} {pk ix : Nat} : S_pk (S_item S i kd s by_ pk ix) i = pk := by simp [S_pk, S_item]
theorem S_item_ix {S : St} {i kd s : Nat} {by_ : Nat → Nat} {pk ix : Nat} : S_ix (S_item S i kd s by_ pk ix) i = ix := by simp [S_ix, S_item]
/-- the registers of pack p, all anew -/
def S_pack (S : St) (p ct fs ex pz : Nat) (pb : Nat → Nat) : St := fun r a b => if a = p ∧ 7 ≤ r ∧ r ≤ 11 then (match r with
  | 7 => if b = 0 then ct else S r a b
  | 8 => if b = 0 then fs else S r a b
  | 9 => if b = 0 then ex else S r a b
  | 10 => if b = 0 then pz else S r a b
  | 11 => pb b
  | _ => S r a b) else S r a b
theorem S_pack_same {S : St} {p ct fs ex pz : Nat} {pb : Nat → Nat} : sameBut S (S_pack S p ct fs ex pz pb) 7 11 p := by
  intro r a b hn
  unfold S_pack
  rw [if_neg (by omega)]
theorem S_pack_ct {S : St} {p ct fs ex pz : Nat} {pb : Nat → Nat} : S_ct (S_pack S p ct fs ex pz pb) p = ct := by simp [S_ct, S_pack]
theorem S_pack_fs {S : St} {p ct fs ex pz : Nat} {pb : Nat → Nat} : S_fs (S_pack S p ct fs ex pz pb) p = fs := by simp [S_fs, S_pack]
theorem S_pack_ex {S : St} {p ct fs ex pz : Nat} {pb : Nat → Nat} : S_ex (S_pack S p ct fs ex pz pb) p = ex := by simp [S_ex, S_pack]
theorem S_pack_pz {S : St} {p ct fs ex pz : Nat} {pb : Nat → Nat} : S_pz (S_pack S p ct fs ex pz pb) p = pz := by simp [S_pz, S_pack]
theorem S_pack_pb {S : St} {p ct fs ex pz j : Nat} {pb : Nat → Nat} : S_pb (S_pack S p ct fs ex pz pb) p j = pb j := by simp [S_pb, S_pack]
def updN (g : Nat → Nat) (k x : Nat) : Nat → Nat := fun j => if j = k then x else g j
theorem updN_s {g : Nat → Nat} {k x : Nat} : updN g k x k = x := by simp [updN]
theorem updN_n {g : Nat → Nat} {k x j : Nat} (h : j ≠ k) : updN g k x j = g j := by simp [updN, h]
/-- put: the answer, and the state behind it -/
def op_put (S : St) (o : Int32) (c : Nat) : Int32 × St := if obI S o = true then (if S_pk S o.toNatClampNeg ≠ 0 then (-3, S) else if S_sz S o.toNatClampNeg = 60 then (-4, S) else (nI (S_sz S o.toNatClampNeg + 1), S_item S o.toNatClampNeg (S_kd S o.toNatClampNeg) (S_sz S o.toNatClampNeg + 1) (updN (S_by S o.toNatClampNeg) (S_sz S o.toNatClampNeg) c) 0 (S_ix S o.toNatClampNeg))) else (-2, S)
def op_add (S : St) (p : Int32) (c : Nat) : Int32 × St := if pkI S p = true then (if S_pz S p.toNatClampNeg = 600 then (-4, S) else (nI (S_pz S p.toNatClampNeg + 1), S_pack S p.toNatClampNeg (S_ct S p.toNatClampNeg) (S_fs S p.toNatClampNeg) (S_ex S p.toNatClampNeg) (S_pz S p.toNatClampNeg + 1) (updN (S_pb S p.toNatClampNeg) (S_pz S p.toNatClampNeg) c))) else (-2, S)
def op_row (S : St) (o p x : Int32) : Int32 × St := if obI S o = true ∧ pkI S p = true ∧ S_kd S o.toNatClampNeg ≠ 1 ∧ 0 ≤ x ∧ x ≤ 99 then ((if S_pk S o.toNatClampNeg = 0 then 0 else 1), S_item S o.toNatClampNeg (S_kd S o.toNatClampNeg) 0 (S_by S o.toNatClampNeg) (p.toNatClampNeg + 1) x.toNatClampNeg) else (-2, S)
def op_change (S : St) (o : Int32) : Int32 × St := if obI S o = true then (if S_pk S o.toNatClampNeg = 0 then (-3, S) else match S_size S o.toNatClampNeg with
  | none => (-1, S_item S o.toNatClampNeg (S_kd S o.toNatClampNeg) 0 (S_by S o.toNatClampNeg) 0 (S_ix S o.toNatClampNeg))
  | some L => if 60 < L then (-4, S) else (nI L, S_item S o.toNatClampNeg (S_kd S o.toNatClampNeg) L (fun j => S_byte S o.toNatClampNeg j) 0 (S_ix S o.toNatClampNeg))) else (-2, S)
def exr (S : St) (o : Int32) : Nat := if o = -1 then 0 else o.toNatClampNeg + 1
def op_extend (S : St) (p o : Int32) : Int32 × St := if pkI S p = true ∧ (pkI S o = true ∨ o = -1) then (if leadsN S p.toNatClampNeg (exr S o) 20 = true then (0, S) else (1, S_pack S p.toNatClampNeg (S_ct S p.toNatClampNeg) (S_fs S p.toNatClampNeg) (exr S o) (S_pz S p.toNatClampNeg) (S_pb S p.toNatClampNeg))) else (-2, S)
/-- what a call of the class leaves behind: the reference's, the script's and out's cells as they were -/
def KEEP (AD : Ad) (S' : St) (C : Ct) (n' : Nat) (h' : mj_H) : Prop := ∃ C', MEM h' n' AD (VS S') C' ∧ CC S' AD C' ∧ ∀ k i, 6 ≤ k → C' k i = C k i
section
variable {f w : Nat} {Q : mj_Q} {h : mj_H} {n mc ms : Nat} {S : St} {AD : Ad} {C : Ct}
theorem KEEP.rf (hM : MEM h n AD (VS S) C) (hC : CC S AD C) : KEEP AD S C n h := ⟨C, hM, hC, fun _ _ _ => rfl⟩
theorem item_same {S S' : St} {i : Nat} (hS : sameBut S S' 1 5 i) : VS S' = VS S := VS_eq (hS 0 0 0 (by omega)) (hS 6 0 0 (by omega))
theorem pack_same {S S' : St} {i : Nat} (hS : sameBut S S' 7 11 i) : VS S' = VS S := VS_eq (hS 0 0 0 (by omega)) (hS 6 0 0 (by omega))
/-- one object is written: its two cells -/
theorem KEEP.item {S' : St} (hM : MEM h n AD (VS S) C) (hC : CC S AD C) {i : Nat} (hi : i < S_no S) (hS : sameBut S S' 1 5 i) {wt : Int32} {g : Nat → Int32} {c : mj_C} (hc : c = ITc i (S_kd S' i) (AD 2 i) (S_sz S' i) (hmv AD (S_pk S' i)) (S_ix S' i) wt) (hg : ∀ j, j < S_sz S' i → g j = bS (S_by S' i j)) : KEEP AD S' C n (mj_up (mj_up h (AD 2 i) (BYc 60 g)) (AD 1 i) c) := by
  subst hc
  refine ⟨_, ?_, CC_item (wt := wt) hC hS hg, fun k j hk => by rw [Cu_k (by omega), Cu_k (by omega)]⟩
  rw [item_same hS]
  exact (hM.put (k := 2) (i := i) hi).put (k := 1) (i := i) hi
theorem KEEP.pack {S' : St} (hM : MEM h n AD (VS S) C) (hC : CC S AD C) {i : Nat} (hi : i < S_np S) (hS : sameBut S S' 7 11 i) {g : Nat → Int32} {c : mj_C} (hc : c = PKc i (S_ct S' i) (S_fs S' i) (AD 4 i) (S_pz S' i) (hmv AD (S_ex S' i))) (hg : ∀ j, j < S_pz S' i → g j = bS (S_pb S' i j)) : KEEP AD S' C n (mj_up (mj_up h (AD 4 i) (BYc 600 g)) (AD 3 i) c) := by
  subst hc
  refine ⟨_, ?_, CC_pack hC hS hg, fun k j hk => by rw [Cu_k (by omega), Cu_k (by omega)]⟩
  rw [pack_same hS]
  exact (hM.put (k := 4) (i := i) hi).put (k := 3) (i := i) hi
set_option maxRecDepth 100000 in
theorem m_put (hf : 2 ≤ f) (hw : 44 ≤ w) (hM : MEM h n AD (VS S) C) (hC : CC S AD C) (hW : WF S) {o : Int32} {c : Nat} (hQ : ∀ h', KEEP AD (op_put S o c).2 C n h' → Q (some (.int (op_put S o c).1)) h' n) : mj_bk f w 22 [.ref (AD 5 0), .int o, .int (bS c)] h n mc ms Q := by
  obtain ⟨plc, hO⟩ := hC.os hM
  refine mj_begin (by omega) (by decide) (by show 23 ≤ w; omega) rfl ?_
  show mj_W _ _ 22 mj_noZ Q 0 [.ref (AD 5 0), .int o, .int (bS c), .retAddr 0] [] h n mc ms
  simp only [sX2_put_0, sX2_put_1, sX2_put_5, sX2_put_5n, sX2_put_6, sX2_put_6n, sX2_put_7, sX2_put_7n, sX2_put_10, sX2_put_12, sX2_put_13, sX2_put_13n, sX2_put_14, sX2_put_17, sX2_put_17n, sX2_put_20, sX2_put_22, sX2_put_23, sX2_put_23n, sX2_put_24, sX2_put_28, sX2_put_31, sX2_put_31n, sX2_put_32, sX2_put_35, sX2_put_38, sX2_put_40, Option.some.injEq, Sum.inr.injEq, Sum.inl.injEq, Prod.mk.injEq, true_and, and_true, exists_eq_left', exists_eq_left, exists_eq_right, exists_eq_right', exists_and_left, exists_and_right, List.getElem?_cons_succ, List.getElem?_cons_zero, List.length_cons, List.length_nil, List.set_cons_zero, List.set_cons_succ, Option.toList_some, Option.toList_none, List.nil_append, List.cons_append, mj_up_s, true_or, or_true, Nat.sub_zero, and_assoc, b10, not_true_eq_false, not_false_eq_true, false_implies, true_implies, implies_true, eq_self, and_self, rf_some, rf_none]
  refine sX2_put_2z hO rfl (m_itemOf (by omega) (by show 21 ≤ w - 23; omega) hM hC hW ?_)
  unfold op_put at hQ
  by_cases hc : obI S o = true
  · rw [if_pos hc] at hQ ⊢
    obtain ⟨i, rfl, j1, j2⟩ := cl_iff.mp hc
    rw [nI_cl j1] at hQ ⊢
    obtain ⟨wt, hx⟩ := hC.it hM j2
    obtain ⟨g, how, hg⟩ := hC.ow hM j2
    obtain ⟨w1, w2, w3, w4, w5⟩ := hW.2.2.2.1 i j2
    by_cases hp : S_pk S i = 0
    · rw [if_neg (by omega)] at hQ
      rw [hp] at hx
      simp only [sX2_put_0, sX2_put_1, sX2_put_5, sX2_put_5n, sX2_put_6, sX2_put_6n, sX2_put_7, sX2_put_7n, sX2_put_10, sX2_put_12, sX2_put_13, sX2_put_13n, sX2_put_14, sX2_put_17, sX2_put_17n, sX2_put_20, sX2_put_22, sX2_put_23, sX2_put_23n, sX2_put_24, sX2_put_28, sX2_put_31, sX2_put_31n, sX2_put_32, sX2_put_35, sX2_put_38, sX2_put_40, hx, hmv, Option.some.injEq, Sum.inr.injEq, Sum.inl.injEq, Prod.mk.injEq, true_and, and_true, exists_eq_left', exists_eq_left, exists_eq_right, exists_eq_right', exists_and_left, exists_and_right, List.getElem?_cons_succ, List.getElem?_cons_zero, List.length_cons, List.length_nil, List.set_cons_zero, List.set_cons_succ, Option.toList_some, Option.toList_none, List.nil_append, List.cons_append, mj_up_s, true_or, or_true, Nat.sub_zero, and_assoc, b10, not_true_eq_false, not_false_eq_true, false_implies, true_implies, implies_true, eq_self, and_self, rf_some, rf_none]
      by_cases hs : S_sz S i = 60
      · rw [if_pos hs] at hQ
        refine sX2_put_25z hx rfl (c_iappendF (by omega) (by show 21 ≤ w - 23; omega) hx hs ?_)
        simp only [sX2_put_0, sX2_put_1, sX2_put_5, sX2_put_5n, sX2_put_6, sX2_put_6n, sX2_put_7, sX2_put_7n, sX2_put_10, sX2_put_12, sX2_put_13, sX2_put_13n, sX2_put_14, sX2_put_17, sX2_put_17n, sX2_put_20, sX2_put_22, sX2_put_23, sX2_put_23n, sX2_put_24, sX2_put_28, sX2_put_31, sX2_put_31n, sX2_put_32, sX2_put_35, sX2_put_38, sX2_put_40, Option.some.injEq, Sum.inr.injEq, Sum.inl.injEq, Prod.mk.injEq, true_and, and_true, exists_eq_left', exists_eq_left, exists_eq_right, exists_eq_right', exists_and_left, exists_and_right, List.getElem?_cons_succ, List.getElem?_cons_zero, List.length_cons, List.length_nil, List.set_cons_zero, List.set_cons_succ, Option.toList_some, Option.toList_none, List.nil_append, List.cons_append, mj_up_s, true_or, or_true, Nat.sub_zero, and_assoc, b10, not_true_eq_false, not_false_eq_true, false_implies, true_implies, implies_true, eq_self, and_self, rf_some, rf_none]
        exact hQ _ (KEEP.rf hM hC)
      · rw [if_neg hs] at hQ
        refine sX2_put_25z hx rfl (c_iappend (by omega) (by show 21 ≤ w - 23; omega) hx how (by omega) ?_)
        simp only [sX2_put_0, sX2_put_1, sX2_put_5, sX2_put_5n, sX2_put_6, sX2_put_6n, sX2_put_7, sX2_put_7n, sX2_put_10, sX2_put_12, sX2_put_13, sX2_put_13n, sX2_put_14, sX2_put_17, sX2_put_17n, sX2_put_20, sX2_put_22, sX2_put_23, sX2_put_23n, sX2_put_24, sX2_put_28, sX2_put_31, sX2_put_31n, sX2_put_32, sX2_put_35, sX2_put_38, sX2_put_40, Option.some.injEq, Sum.inr.injEq, Sum.inl.injEq, Prod.mk.injEq, true_and, and_true, exists_eq_left', exists_eq_left, exists_eq_right, exists_eq_right', exists_and_left, exists_and_right, List.getElem?_cons_succ, List.getElem?_cons_zero, List.length_cons, List.length_nil, List.set_cons_zero, List.set_cons_succ, Option.toList_some, Option.toList_none, List.nil_append, List.cons_append, mj_up_s, true_or, or_true, Nat.sub_zero, and_assoc, b10, not_true_eq_false, not_false_eq_true, false_implies, true_implies, implies_true, eq_self, and_self, rf_some, rf_none]
        refine hQ _ (KEEP.item hM hC j2 S_item_same (by simp only [S_item_kd, S_item_sz, S_item_pk, S_item_ix]; rfl) (fun j hj => ?_))
        rw [S_item_sz] at hj
        rw [S_item_by]
        by_cases hjs : j = S_sz S i
        · subst hjs; rw [pk_us, updN_s]
        · rw [pk_un hjs, updN_n hjs]; exact hg j (by omega)
    · rw [if_pos hp] at hQ
      obtain ⟨q, hq⟩ : ∃ q, S_pk S i = q + 1 := ⟨S_pk S i - 1, by omega⟩
      rw [hq] at hx
      simp only [sX2_put_0, sX2_put_1, sX2_put_5, sX2_put_5n, sX2_put_6, sX2_put_6n, sX2_put_7, sX2_put_7n, sX2_put_10, sX2_put_12, sX2_put_13, sX2_put_13n, sX2_put_14, sX2_put_17, sX2_put_17n, sX2_put_20, sX2_put_22, sX2_put_23, sX2_put_23n, sX2_put_24, sX2_put_28, sX2_put_31, sX2_put_31n, sX2_put_32, sX2_put_35, sX2_put_38, sX2_put_40, hx, hmv, Option.some.injEq, Sum.inr.injEq, Sum.inl.injEq, Prod.mk.injEq, true_and, and_true, exists_eq_left', exists_eq_left, exists_eq_right, exists_eq_right', exists_and_left, exists_and_right, List.getElem?_cons_succ, List.getElem?_cons_zero, List.length_cons, List.length_nil, List.set_cons_zero, List.set_cons_succ, Option.toList_some, Option.toList_none, List.nil_append, List.cons_append, mj_up_s, true_or, or_true, Nat.sub_zero, and_assoc, b10, not_true_eq_false, not_false_eq_true, false_implies, true_implies, implies_true, eq_self, and_self, rf_some, rf_none]
      exact hQ _ (KEEP.rf hM hC)
  · rw [if_neg hc] at hQ ⊢
    simp only [sX2_put_0, sX2_put_1, sX2_put_5, sX2_put_5n, sX2_put_6, sX2_put_6n, sX2_put_7, sX2_put_7n, sX2_put_10, sX2_put_12, sX2_put_13, sX2_put_13n, sX2_put_14, sX2_put_17, sX2_put_17n, sX2_put_20, sX2_put_22, sX2_put_23, sX2_put_23n, sX2_put_24, sX2_put_28, sX2_put_31, sX2_put_31n, sX2_put_32, sX2_put_35, sX2_put_38, sX2_put_40, Option.some.injEq, Sum.inr.injEq, Sum.inl.injEq, Prod.mk.injEq, true_and, and_true, exists_eq_left', exists_eq_left, exists_eq_right, exists_eq_right', exists_and_left, exists_and_right, List.getElem?_cons_succ, List.getElem?_cons_zero, List.length_cons, List.length_nil, List.set_cons_zero, List.set_cons_succ, Option.toList_some, Option.toList_none, List.nil_append, List.cons_append, mj_up_s, true_or, or_true, Nat.sub_zero, and_assoc, b10, not_true_eq_false, not_false_eq_true, false_implies, true_implies, implies_true, eq_self, and_self, rf_some, rf_none]
    exact hQ _ (KEEP.rf hM hC)
set_option maxRecDepth 100000 in
theorem m_add (hf : 2 ≤ f) (hw : 44 ≤ w) (hM : MEM h n AD (VS S) C) (hC : CC S AD C) (hW : WF S) {p : Int32} {c : Nat} (hQ : ∀ h', KEEP AD (op_add S p c).2 C n h' → Q (some (.int (op_add S p c).1)) h' n) : mj_bk f w 29 [.ref (AD 5 0), .int p, .int (bS c)] h n mc ms Q := by
  obtain ⟨plc, hO⟩ := hC.os hM
  refine mj_begin (by omega) (by decide) (by show 23 ≤ w; omega) rfl ?_
  show mj_W _ _ 29 mj_noZ Q 0 [.ref (AD 5 0), .int p, .int (bS c), .retAddr 0] [] h n mc ms
  simp only [sX2_add_0, sX2_add_1, sX2_add_5, sX2_add_5n, sX2_add_6, sX2_add_6n, sX2_add_7, sX2_add_7n, sX2_add_10, sX2_add_12, sX2_add_13, sX2_add_13n, sX2_add_14, sX2_add_18, sX2_add_21, sX2_add_21n, sX2_add_22, sX2_add_25, sX2_add_28, sX2_add_30, Option.some.injEq, Sum.inr.injEq, Sum.inl.injEq, Prod.mk.injEq, true_and, and_true, exists_eq_left', exists_eq_left, exists_eq_right, exists_eq_right', exists_and_left, exists_and_right, List.getElem?_cons_succ, List.getElem?_cons_zero, List.length_cons, List.length_nil, List.set_cons_zero, List.set_cons_succ, Option.toList_some, Option.toList_none, List.nil_append, List.cons_append, mj_up_s, true_or, or_true, Nat.sub_zero, and_assoc, b10, not_true_eq_false, not_false_eq_true, false_implies, true_implies, implies_true, eq_self, and_self, rf_some, rf_none]
  refine sX2_add_2z hO rfl (m_packOf (by omega) (by show 21 ≤ w - 23; omega) hM hC hW ?_)
  unfold op_add at hQ
  by_cases hc : pkI S p = true
  · rw [if_pos hc] at hQ ⊢
    obtain ⟨i, rfl, j1, j2⟩ := cl_iff.mp hc
    rw [nI_cl j1] at hQ ⊢
    have hx := hC.pkc hM j2
    obtain ⟨g, how, hg⟩ := hC.pb hM j2
    have w3 := (hW.2.2.2.2.2 i j2).1.2.2.1
    simp only [sX2_add_0, sX2_add_1, sX2_add_5, sX2_add_5n, sX2_add_6, sX2_add_6n, sX2_add_7, sX2_add_7n, sX2_add_10, sX2_add_12, sX2_add_13, sX2_add_13n, sX2_add_14, sX2_add_18, sX2_add_21, sX2_add_21n, sX2_add_22, sX2_add_25, sX2_add_28, sX2_add_30, Option.some.injEq, Sum.inr.injEq, Sum.inl.injEq, Prod.mk.injEq, true_and, and_true, exists_eq_left', exists_eq_left, exists_eq_right, exists_eq_right', exists_and_left, exists_and_right, List.getElem?_cons_succ, List.getElem?_cons_zero, List.length_cons, List.length_nil, List.set_cons_zero, List.set_cons_succ, Option.toList_some, Option.toList_none, List.nil_append, List.cons_append, mj_up_s, true_or, or_true, Nat.sub_zero, and_assoc, b10, not_true_eq_false, not_false_eq_true, false_implies, true_implies, implies_true, eq_self, and_self, rf_some, rf_none]
    by_cases hs : S_pz S i = 600
    · rw [if_pos hs] at hQ
      rw [hs] at hx
      refine sX2_add_15z hx rfl (c_pappendF (by omega) (by show 21 ≤ w - 23; omega) hx ?_)
      simp only [sX2_add_0, sX2_add_1, sX2_add_5, sX2_add_5n, sX2_add_6, sX2_add_6n, sX2_add_7, sX2_add_7n, sX2_add_10, sX2_add_12, sX2_add_13, sX2_add_13n, sX2_add_14, sX2_add_18, sX2_add_21, sX2_add_21n, sX2_add_22, sX2_add_25, sX2_add_28, sX2_add_30, Option.some.injEq, Sum.inr.injEq, Sum.inl.injEq, Prod.mk.injEq, true_and, and_true, exists_eq_left', exists_eq_left, exists_eq_right, exists_eq_right', exists_and_left, exists_and_right, List.getElem?_cons_succ, List.getElem?_cons_zero, List.length_cons, List.length_nil, List.set_cons_zero, List.set_cons_succ, Option.toList_some, Option.toList_none, List.nil_append, List.cons_append, mj_up_s, true_or, or_true, Nat.sub_zero, and_assoc, b10, not_true_eq_false, not_false_eq_true, false_implies, true_implies, implies_true, eq_self, and_self, rf_some, rf_none]
      exact hQ _ (KEEP.rf hM hC)
    · rw [if_neg hs] at hQ
      refine sX2_add_15z hx rfl (c_pappend (by omega) (by show 21 ≤ w - 23; omega) hx how (bS_nar c) (by omega) ?_)
      simp only [sX2_add_0, sX2_add_1, sX2_add_5, sX2_add_5n, sX2_add_6, sX2_add_6n, sX2_add_7, sX2_add_7n, sX2_add_10, sX2_add_12, sX2_add_13, sX2_add_13n, sX2_add_14, sX2_add_18, sX2_add_21, sX2_add_21n, sX2_add_22, sX2_add_25, sX2_add_28, sX2_add_30, Option.some.injEq, Sum.inr.injEq, Sum.inl.injEq, Prod.mk.injEq, true_and, and_true, exists_eq_left', exists_eq_left, exists_eq_right, exists_eq_right', exists_and_left, exists_and_right, List.getElem?_cons_succ, List.getElem?_cons_zero, List.length_cons, List.length_nil, List.set_cons_zero, List.set_cons_succ, Option.toList_some, Option.toList_none, List.nil_append, List.cons_append, mj_up_s, true_or, or_true, Nat.sub_zero, and_assoc, b10, not_true_eq_false, not_false_eq_true, false_implies, true_implies, implies_true, eq_self, and_self, rf_some, rf_none]
      refine hQ _ (KEEP.pack hM hC j2 S_pack_same (by simp only [S_pack_ct, S_pack_fs, S_pack_pz, S_pack_ex]) (fun j hj => ?_))
      rw [S_pack_pz] at hj
      rw [S_pack_pb]
      by_cases hjs : j = S_pz S i
      · subst hjs; rw [pk_us, updN_s]
      · rw [pk_un hjs, updN_n hjs]; exact hg j (by omega)
  · rw [if_neg hc] at hQ ⊢
    simp only [sX2_add_0, sX2_add_1, sX2_add_5, sX2_add_5n, sX2_add_6, sX2_add_6n, sX2_add_7, sX2_add_7n, sX2_add_10, sX2_add_12, sX2_add_13, sX2_add_13n, sX2_add_14, sX2_add_18, sX2_add_21, sX2_add_21n, sX2_add_22, sX2_add_25, sX2_add_28, sX2_add_30, Option.some.injEq, Sum.inr.injEq, Sum.inl.injEq, Prod.mk.injEq, true_and, and_true, exists_eq_left', exists_eq_left, exists_eq_right, exists_eq_right', exists_and_left, exists_and_right, List.getElem?_cons_succ, List.getElem?_cons_zero, List.length_cons, List.length_nil, List.set_cons_zero, List.set_cons_succ, Option.toList_some, Option.toList_none, List.nil_append, List.cons_append, mj_up_s, true_or, or_true, Nat.sub_zero, and_assoc, b10, not_true_eq_false, not_false_eq_true, false_implies, true_implies, implies_true, eq_self, and_self, rf_some, rf_none]
    exact hQ _ (KEEP.rf hM hC)
set_option maxRecDepth 100000 in
theorem m_row (hf : 2 ≤ f) (hw : 48 ≤ w) (hM : MEM h n AD (VS S) C) (hC : CC S AD C) (hW : WF S) {o p x : Int32} (hQ : ∀ h', KEEP AD (op_row S o p x).2 C n h' → Q (some (.int (op_row S o p x).1)) h' n) : mj_bk f w 32 [.ref (AD 5 0), .int o, .int p, .int x] h n mc ms Q := by
  obtain ⟨plc, hO⟩ := hC.os hM
  refine mj_begin (by omega) (by decide) (by show 26 ≤ w; omega) rfl ?_
  show mj_W _ _ 32 mj_noZ Q 0 [.ref (AD 5 0), .int o, .int p, .int x, .retAddr 0, .retAddr 0, .retAddr 0] [] h n mc ms
  simp only [sX2_row_0, sX2_row_1, sX2_row_5, sX2_row_5n, sX2_row_7, sX2_row_8, sX2_row_12, sX2_row_12n, sX2_row_14, sX2_row_14n, sX2_row_16, sX2_row_16n, sX2_row_19, sX2_row_19n, sX2_row_21, sX2_row_21n, sX2_row_24, sX2_row_24n, sX2_row_26, sX2_row_29, sX2_row_30, sX2_row_33, sX2_row_34, sX2_row_37, sX2_row_38, sX2_row_40, sX2_row_43, sX2_row_45, sX2_row_46, sX2_row_46n, sX2_row_48, sX2_row_51, sX2_row_51n, sX2_row_54, sX2_row_55, sX2_row_58, sX2_row_59, sX2_row_61, sX2_row_61n, sX2_row_63, sX2_row_63n, sX2_row_65, sX2_row_69, sX2_row_71, Option.some.injEq, Sum.inr.injEq, Sum.inl.injEq, Prod.mk.injEq, true_and, and_true, exists_eq_left', exists_eq_left, exists_eq_right, exists_eq_right', exists_and_left, exists_and_right, List.getElem?_cons_succ, List.getElem?_cons_zero, List.length_cons, List.length_nil, List.set_cons_zero, List.set_cons_succ, Option.toList_some, Option.toList_none, List.nil_append, List.cons_append, mj_up_s, true_or, or_true, Nat.sub_zero, and_assoc, b10, not_true_eq_false, not_false_eq_true, false_implies, true_implies, implies_true, eq_self, and_self, rf_some, rf_none]
  refine sX2_row_2z hO rfl (m_itemOf (by omega) (by show 21 ≤ w - 26; omega) hM hC hW ?_)
  unfold op_row at hQ
  by_cases hc : obI S o = true
  · rw [if_pos hc]
    obtain ⟨i, rfl, j1, j2⟩ := cl_iff.mp hc
    rw [nI_cl j1] at hQ ⊢
    obtain ⟨wt, hx⟩ := hC.it hM j2
    obtain ⟨g, how, hg⟩ := hC.ow hM j2
    obtain ⟨w1, w2, w3, w4, w5⟩ := hW.2.2.2.1 i j2
    simp only [sX2_row_0, sX2_row_1, sX2_row_5, sX2_row_5n, sX2_row_7, sX2_row_8, sX2_row_12, sX2_row_12n, sX2_row_14, sX2_row_14n, sX2_row_16, sX2_row_16n, sX2_row_19, sX2_row_19n, sX2_row_21, sX2_row_21n, sX2_row_24, sX2_row_24n, sX2_row_26, sX2_row_29, sX2_row_30, sX2_row_33, sX2_row_34, sX2_row_37, sX2_row_38, sX2_row_40, sX2_row_43, sX2_row_45, sX2_row_46, sX2_row_46n, sX2_row_48, sX2_row_51, sX2_row_51n, sX2_row_54, sX2_row_55, sX2_row_58, sX2_row_59, sX2_row_61, sX2_row_61n, sX2_row_63, sX2_row_63n, sX2_row_65, sX2_row_69, sX2_row_71, Option.some.injEq, Sum.inr.injEq, Sum.inl.injEq, Prod.mk.injEq, true_and, and_true, exists_eq_left', exists_eq_left, exists_eq_right, exists_eq_right', exists_and_left, exists_and_right, List.getElem?_cons_succ, List.getElem?_cons_zero, List.length_cons, List.length_nil, List.set_cons_zero, List.set_cons_succ, Option.toList_some, Option.toList_none, List.nil_append, List.cons_append, mj_up_s, true_or, or_true, Nat.sub_zero, and_assoc, b10, not_true_eq_false, not_false_eq_true, false_implies, true_implies, implies_true, eq_self, and_self, rf_some, rf_none]
    refine sX2_row_9z hO rfl (m_packOf (by omega) (by show 21 ≤ w - 26; omega) hM hC hW ?_)
    by_cases hc2 : pkI S p = true
    · rw [if_pos hc2]
      obtain ⟨q, rfl, q1, q2⟩ := cl_iff.mp hc2
      rw [nI_cl q1] at hQ ⊢
      simp only [sX2_row_0, sX2_row_1, sX2_row_5, sX2_row_5n, sX2_row_7, sX2_row_8, sX2_row_12, sX2_row_12n, sX2_row_14, sX2_row_14n, sX2_row_16, sX2_row_16n, sX2_row_19, sX2_row_19n, sX2_row_21, sX2_row_21n, sX2_row_24, sX2_row_24n, sX2_row_26, sX2_row_29, sX2_row_30, sX2_row_33, sX2_row_34, sX2_row_37, sX2_row_38, sX2_row_40, sX2_row_43, sX2_row_45, sX2_row_46, sX2_row_46n, sX2_row_48, sX2_row_51, sX2_row_51n, sX2_row_54, sX2_row_55, sX2_row_58, sX2_row_59, sX2_row_61, sX2_row_61n, sX2_row_63, sX2_row_63n, sX2_row_65, sX2_row_69, sX2_row_71, hx, Option.some.injEq, Sum.inr.injEq, Sum.inl.injEq, Prod.mk.injEq, true_and, and_true, exists_eq_left', exists_eq_left, exists_eq_right, exists_eq_right', exists_and_left, exists_and_right, List.getElem?_cons_succ, List.getElem?_cons_zero, List.length_cons, List.length_nil, List.set_cons_zero, List.set_cons_succ, Option.toList_some, Option.toList_none, List.nil_append, List.cons_append, mj_up_s, true_or, or_true, Nat.sub_zero, and_assoc, b10, not_true_eq_false, not_false_eq_true, false_implies, true_implies, implies_true, eq_self, and_self, rf_some, rf_none]
      refine And.intro (fun c => ?_) (fun c => And.intro (fun c2 => ?_) (fun c2 => And.intro (fun c3 => ?_) (fun c3 => ?_)))
      · rw [if_neg (fun z => z.2.2.1 ((nI_eq (by omega) (by omega)).mp (show nI (S_kd S i) = nI 1 from c)))] at hQ
        exact hQ _ (KEEP.rf hM hC)
      · rw [if_neg (fun z => absurd z.2.2.2.1 (by clear hQ hx how hg hO hM hC z; (simp only [Int32.le_iff_toInt_le, Int32.lt_iff_toInt_lt, i32_eq, i32_0, i32_m1, i32_600, i32_60, i32_20, i32_99, i32_10, i32_1, i32_2] at *; omega)))] at hQ
        exact hQ _ (KEEP.rf hM hC)
      · have hk : S_kd S i ≠ 1 := fun e => c (by rw [e]; rfl)
        rw [if_pos ⟨hc, hc2, hk, by clear hQ hx how hg hO hM hC; (simp only [Int32.le_iff_toInt_le, Int32.lt_iff_toInt_lt, i32_eq, i32_0, i32_m1, i32_600, i32_60, i32_20, i32_99, i32_10, i32_1, i32_2] at *; omega), c3⟩] at hQ
        obtain ⟨t, t1, rfl, t3⟩ := i32_of (x := x) (by clear hQ hx how hg hO hM hC; (simp only [Int32.le_iff_toInt_le, Int32.lt_iff_toInt_lt, i32_eq, i32_0, i32_m1, i32_600, i32_60, i32_20, i32_99, i32_10, i32_1, i32_2] at *; omega))
        rw [nI_cl t1] at hQ
        have key : KEEP AD (S_item S i (S_kd S i) 0 (S_by S i) (q + 1) t) C n (mj_up h (AD 1 i) (ITc i (S_kd S i) (AD 2 i) 0 (.ref (AD 3 q)) t wt)) := by
          have e : h = mj_up h (AD 2 i) (BYc 60 g) := (mj_up_id how).symm
          rw [e]
          exact KEEP.item hM hC j2 S_item_same (by simp only [S_item_kd, S_item_sz, S_item_pk, S_item_ix]; rfl) (fun j hj => by rw [S_item_sz] at hj; omega)
        by_cases hp : S_pk S i = 0
        · rw [if_pos hp] at hQ
          rw [hp] at hx ⊢
          simp only [hmv, sX2_row_0, sX2_row_1, sX2_row_5, sX2_row_5n, sX2_row_7, sX2_row_8, sX2_row_12, sX2_row_12n, sX2_row_14, sX2_row_14n, sX2_row_16, sX2_row_16n, sX2_row_19, sX2_row_19n, sX2_row_21, sX2_row_21n, sX2_row_24, sX2_row_24n, sX2_row_26, sX2_row_29, sX2_row_30, sX2_row_33, sX2_row_34, sX2_row_37, sX2_row_38, sX2_row_40, sX2_row_43, sX2_row_45, sX2_row_46, sX2_row_46n, sX2_row_48, sX2_row_51, sX2_row_51n, sX2_row_54, sX2_row_55, sX2_row_58, sX2_row_59, sX2_row_61, sX2_row_61n, sX2_row_63, sX2_row_63n, sX2_row_65, sX2_row_69, sX2_row_71, Option.some.injEq, Sum.inr.injEq, Sum.inl.injEq, Prod.mk.injEq, true_and, and_true, exists_eq_left', exists_eq_left, exists_eq_right, exists_eq_right', exists_and_left, exists_and_right, List.getElem?_cons_succ, List.getElem?_cons_zero, List.length_cons, List.length_nil, List.set_cons_zero, List.set_cons_succ, Option.toList_some, Option.toList_none, List.nil_append, List.cons_append, mj_up_s, true_or, or_true, Nat.sub_zero, and_assoc, b10, not_true_eq_false, not_false_eq_true, false_implies, true_implies, implies_true, eq_self, and_self, rf_some, rf_none]
          refine sX2_row_66z hx rfl (c_moveInto (by omega) (by show 22 ≤ w - 26; omega) hx ?_)
          simp only [sX2_row_0, sX2_row_1, sX2_row_5, sX2_row_5n, sX2_row_7, sX2_row_8, sX2_row_12, sX2_row_12n, sX2_row_14, sX2_row_14n, sX2_row_16, sX2_row_16n, sX2_row_19, sX2_row_19n, sX2_row_21, sX2_row_21n, sX2_row_24, sX2_row_24n, sX2_row_26, sX2_row_29, sX2_row_30, sX2_row_33, sX2_row_34, sX2_row_37, sX2_row_38, sX2_row_40, sX2_row_43, sX2_row_45, sX2_row_46, sX2_row_46n, sX2_row_48, sX2_row_51, sX2_row_51n, sX2_row_54, sX2_row_55, sX2_row_58, sX2_row_59, sX2_row_61, sX2_row_61n, sX2_row_63, sX2_row_63n, sX2_row_65, sX2_row_69, sX2_row_71, Option.some.injEq, Sum.inr.injEq, Sum.inl.injEq, Prod.mk.injEq, true_and, and_true, exists_eq_left', exists_eq_left, exists_eq_right, exists_eq_right', exists_and_left, exists_and_right, List.getElem?_cons_succ, List.getElem?_cons_zero, List.length_cons, List.length_nil, List.set_cons_zero, List.set_cons_succ, Option.toList_some, Option.toList_none, List.nil_append, List.cons_append, mj_up_s, true_or, or_true, Nat.sub_zero, and_assoc, b10, not_true_eq_false, not_false_eq_true, false_implies, true_implies, implies_true, eq_self, and_self, rf_some, rf_none]
          exact hQ _ key
        · rw [if_neg hp] at hQ
          obtain ⟨q', hq'⟩ : ∃ q, S_pk S i = q + 1 := ⟨S_pk S i - 1, by omega⟩
          rw [hq'] at hx ⊢
          simp only [hmv, sX2_row_0, sX2_row_1, sX2_row_5, sX2_row_5n, sX2_row_7, sX2_row_8, sX2_row_12, sX2_row_12n, sX2_row_14, sX2_row_14n, sX2_row_16, sX2_row_16n, sX2_row_19, sX2_row_19n, sX2_row_21, sX2_row_21n, sX2_row_24, sX2_row_24n, sX2_row_26, sX2_row_29, sX2_row_30, sX2_row_33, sX2_row_34, sX2_row_37, sX2_row_38, sX2_row_40, sX2_row_43, sX2_row_45, sX2_row_46, sX2_row_46n, sX2_row_48, sX2_row_51, sX2_row_51n, sX2_row_54, sX2_row_55, sX2_row_58, sX2_row_59, sX2_row_61, sX2_row_61n, sX2_row_63, sX2_row_63n, sX2_row_65, sX2_row_69, sX2_row_71, Option.some.injEq, Sum.inr.injEq, Sum.inl.injEq, Prod.mk.injEq, true_and, and_true, exists_eq_left', exists_eq_left, exists_eq_right, exists_eq_right', exists_and_left, exists_and_right, List.getElem?_cons_succ, List.getElem?_cons_zero, List.length_cons, List.length_nil, List.set_cons_zero, List.set_cons_succ, Option.toList_some, Option.toList_none, List.nil_append, List.cons_append, mj_up_s, true_or, or_true, Nat.sub_zero, and_assoc, b10, not_true_eq_false, not_false_eq_true, false_implies, true_implies, implies_true, eq_self, and_self, rf_some, rf_none]
          refine sX2_row_66z hx rfl (c_moveInto (by omega) (by show 22 ≤ w - 26; omega) hx ?_)
          simp only [sX2_row_0, sX2_row_1, sX2_row_5, sX2_row_5n, sX2_row_7, sX2_row_8, sX2_row_12, sX2_row_12n, sX2_row_14, sX2_row_14n, sX2_row_16, sX2_row_16n, sX2_row_19, sX2_row_19n, sX2_row_21, sX2_row_21n, sX2_row_24, sX2_row_24n, sX2_row_26, sX2_row_29, sX2_row_30, sX2_row_33, sX2_row_34, sX2_row_37, sX2_row_38, sX2_row_40, sX2_row_43, sX2_row_45, sX2_row_46, sX2_row_46n, sX2_row_48, sX2_row_51, sX2_row_51n, sX2_row_54, sX2_row_55, sX2_row_58, sX2_row_59, sX2_row_61, sX2_row_61n, sX2_row_63, sX2_row_63n, sX2_row_65, sX2_row_69, sX2_row_71, Option.some.injEq, Sum.inr.injEq, Sum.inl.injEq, Prod.mk.injEq, true_and, and_true, exists_eq_left', exists_eq_left, exists_eq_right, exists_eq_right', exists_and_left, exists_and_right, List.getElem?_cons_succ, List.getElem?_cons_zero, List.length_cons, List.length_nil, List.set_cons_zero, List.set_cons_succ, Option.toList_some, Option.toList_none, List.nil_append, List.cons_append, mj_up_s, true_or, or_true, Nat.sub_zero, and_assoc, b10, not_true_eq_false, not_false_eq_true, false_implies, true_implies, implies_true, eq_self, and_self, rf_some, rf_none]
          exact hQ _ key
      · rw [if_neg (fun z => c3 z.2.2.2.2)] at hQ
        exact hQ _ (KEEP.rf hM hC)
    · rw [if_neg hc2]
      rw [if_neg (fun z => hc2 z.2.1)] at hQ
      simp only [sX2_row_0, sX2_row_1, sX2_row_5, sX2_row_5n, sX2_row_7, sX2_row_8, sX2_row_12, sX2_row_12n, sX2_row_14, sX2_row_14n, sX2_row_16, sX2_row_16n, sX2_row_19, sX2_row_19n, sX2_row_21, sX2_row_21n, sX2_row_24, sX2_row_24n, sX2_row_26, sX2_row_29, sX2_row_30, sX2_row_33, sX2_row_34, sX2_row_37, sX2_row_38, sX2_row_40, sX2_row_43, sX2_row_45, sX2_row_46, sX2_row_46n, sX2_row_48, sX2_row_51, sX2_row_51n, sX2_row_54, sX2_row_55, sX2_row_58, sX2_row_59, sX2_row_61, sX2_row_61n, sX2_row_63, sX2_row_63n, sX2_row_65, sX2_row_69, sX2_row_71, Option.some.injEq, Sum.inr.injEq, Sum.inl.injEq, Prod.mk.injEq, true_and, and_true, exists_eq_left', exists_eq_left, exists_eq_right, exists_eq_right', exists_and_left, exists_and_right, List.getElem?_cons_succ, List.getElem?_cons_zero, List.length_cons, List.length_nil, List.set_cons_zero, List.set_cons_succ, Option.toList_some, Option.toList_none, List.nil_append, List.cons_append, mj_up_s, true_or, or_true, Nat.sub_zero, and_assoc, b10, not_true_eq_false, not_false_eq_true, false_implies, true_implies, implies_true, eq_self, and_self, rf_some, rf_none]
      exact hQ _ (KEEP.rf hM hC)
  · rw [if_neg hc]
    rw [if_neg (fun z => hc z.1)] at hQ
    simp only [sX2_row_0, sX2_row_1, sX2_row_5, sX2_row_5n, sX2_row_7, sX2_row_8, sX2_row_12, sX2_row_12n, sX2_row_14, sX2_row_14n, sX2_row_16, sX2_row_16n, sX2_row_19, sX2_row_19n, sX2_row_21, sX2_row_21n, sX2_row_24, sX2_row_24n, sX2_row_26, sX2_row_29, sX2_row_30, sX2_row_33, sX2_row_34, sX2_row_37, sX2_row_38, sX2_row_40, sX2_row_43, sX2_row_45, sX2_row_46, sX2_row_46n, sX2_row_48, sX2_row_51, sX2_row_51n, sX2_row_54, sX2_row_55, sX2_row_58, sX2_row_59, sX2_row_61, sX2_row_61n, sX2_row_63, sX2_row_63n, sX2_row_65, sX2_row_69, sX2_row_71, Option.some.injEq, Sum.inr.injEq, Sum.inl.injEq, Prod.mk.injEq, true_and, and_true, exists_eq_left', exists_eq_left, exists_eq_right, exists_eq_right', exists_and_left, exists_and_right, List.getElem?_cons_succ, List.getElem?_cons_zero, List.length_cons, List.length_nil, List.set_cons_zero, List.set_cons_succ, Option.toList_some, Option.toList_none, List.nil_append, List.cons_append, mj_up_s, true_or, or_true, Nat.sub_zero, and_assoc, b10, not_true_eq_false, not_false_eq_true, false_implies, true_implies, implies_true, eq_self, and_self, rf_some, rf_none]
    refine sX2_row_9z hO rfl (m_packOf (by omega) (by show 21 ≤ w - 26; omega) hM hC hW ?_)
    split
    · simp only [sX2_row_0, sX2_row_1, sX2_row_5, sX2_row_5n, sX2_row_7, sX2_row_8, sX2_row_12, sX2_row_12n, sX2_row_14, sX2_row_14n, sX2_row_16, sX2_row_16n, sX2_row_19, sX2_row_19n, sX2_row_21, sX2_row_21n, sX2_row_24, sX2_row_24n, sX2_row_26, sX2_row_29, sX2_row_30, sX2_row_33, sX2_row_34, sX2_row_37, sX2_row_38, sX2_row_40, sX2_row_43, sX2_row_45, sX2_row_46, sX2_row_46n, sX2_row_48, sX2_row_51, sX2_row_51n, sX2_row_54, sX2_row_55, sX2_row_58, sX2_row_59, sX2_row_61, sX2_row_61n, sX2_row_63, sX2_row_63n, sX2_row_65, sX2_row_69, sX2_row_71, Option.some.injEq, Sum.inr.injEq, Sum.inl.injEq, Prod.mk.injEq, true_and, and_true, exists_eq_left', exists_eq_left, exists_eq_right, exists_eq_right', exists_and_left, exists_and_right, List.getElem?_cons_succ, List.getElem?_cons_zero, List.length_cons, List.length_nil, List.set_cons_zero, List.set_cons_succ, Option.toList_some, Option.toList_none, List.nil_append, List.cons_append, mj_up_s, true_or, or_true, Nat.sub_zero, and_assoc, b10, not_true_eq_false, not_false_eq_true, false_implies, true_implies, implies_true, eq_self, and_self, rf_some, rf_none]
      exact hQ _ (KEEP.rf hM hC)
    · simp only [sX2_row_0, sX2_row_1, sX2_row_5, sX2_row_5n, sX2_row_7, sX2_row_8, sX2_row_12, sX2_row_12n, sX2_row_14, sX2_row_14n, sX2_row_16, sX2_row_16n, sX2_row_19, sX2_row_19n, sX2_row_21, sX2_row_21n, sX2_row_24, sX2_row_24n, sX2_row_26, sX2_row_29, sX2_row_30, sX2_row_33, sX2_row_34, sX2_row_37, sX2_row_38, sX2_row_40, sX2_row_43, sX2_row_45, sX2_row_46, sX2_row_46n, sX2_row_48, sX2_row_51, sX2_row_51n, sX2_row_54, sX2_row_55, sX2_row_58, sX2_row_59, sX2_row_61, sX2_row_61n, sX2_row_63, sX2_row_63n, sX2_row_65, sX2_row_69, sX2_row_71, Option.some.injEq, Sum.inr.injEq, Sum.inl.injEq, Prod.mk.injEq, true_and, and_true, exists_eq_left', exists_eq_left, exists_eq_right, exists_eq_right', exists_and_left, exists_and_right, List.getElem?_cons_succ, List.getElem?_cons_zero, List.length_cons, List.length_nil, List.set_cons_zero, List.set_cons_succ, Option.toList_some, Option.toList_none, List.nil_append, List.cons_append, mj_up_s, true_or, or_true, Nat.sub_zero, and_assoc, b10, not_true_eq_false, not_false_eq_true, false_implies, true_implies, implies_true, eq_self, and_self, rf_some, rf_none]
      exact hQ _ (KEEP.rf hM hC)
set_option maxRecDepth 100000 in
theorem m_change (hf : 6 ≤ f) (hw : 136 ≤ w) (hM : MEM h n AD (VS S) C) (hC : CC S AD C) (hW : WF S) {o : Int32} (hQ : ∀ h', KEEP AD (op_change S o).2 C n h' → Q (some (.int (op_change S o).1)) h' n) : mj_bk f w 23 [.ref (AD 5 0), .int o] h n mc ms Q := by
  obtain ⟨plc, hO⟩ := hC.os hM
  refine mj_begin (by omega) (by decide) (by show 23 ≤ w; omega) rfl ?_
  show mj_W _ _ 23 mj_noZ Q 0 [.ref (AD 5 0), .int o, .retAddr 0, .retAddr 0] [] h n mc ms
  simp only [sX2_change_0, sX2_change_1, sX2_change_5, sX2_change_5n, sX2_change_6, sX2_change_6n, sX2_change_7, sX2_change_7n, sX2_change_10, sX2_change_12, sX2_change_13, sX2_change_13n, sX2_change_14, sX2_change_17, sX2_change_17n, sX2_change_20, sX2_change_22, sX2_change_23, sX2_change_23n, sX2_change_27, sX2_change_28, sX2_change_29, sX2_change_31, sX2_change_34, sX2_change_36, sX2_change_37, sX2_change_37n, sX2_change_38, sX2_change_42, sX2_change_43, Option.some.injEq, Sum.inr.injEq, Sum.inl.injEq, Prod.mk.injEq, true_and, and_true, exists_eq_left', exists_eq_left, exists_eq_right, exists_eq_right', exists_and_left, exists_and_right, List.getElem?_cons_succ, List.getElem?_cons_zero, List.length_cons, List.length_nil, List.set_cons_zero, List.set_cons_succ, Option.toList_some, Option.toList_none, List.nil_append, List.cons_append, mj_up_s, true_or, or_true, Nat.sub_zero, and_assoc, b10, not_true_eq_false, not_false_eq_true, false_implies, true_implies, implies_true, eq_self, and_self, rf_some, rf_none]
  refine sX2_change_2z hO rfl (m_itemOf (by omega) (by show 21 ≤ w - 23; omega) hM hC hW ?_)
  unfold op_change at hQ
  by_cases hc : obI S o = true
  · rw [if_pos hc] at hQ ⊢
    obtain ⟨i, rfl, j1, j2⟩ := cl_iff.mp hc
    rw [nI_cl j1] at hQ ⊢
    obtain ⟨wt, hx⟩ := hC.it hM j2
    obtain ⟨g, how, hg⟩ := hC.ow hM j2
    obtain ⟨w1, w2, w3, w4, w5⟩ := hW.2.2.2.1 i j2
    by_cases hp : S_pk S i = 0
    · rw [if_pos hp] at hQ
      rw [hp] at hx
      simp only [sX2_change_0, sX2_change_1, sX2_change_5, sX2_change_5n, sX2_change_6, sX2_change_6n, sX2_change_7, sX2_change_7n, sX2_change_10, sX2_change_12, sX2_change_13, sX2_change_13n, sX2_change_14, sX2_change_17, sX2_change_17n, sX2_change_20, sX2_change_22, sX2_change_23, sX2_change_23n, sX2_change_27, sX2_change_28, sX2_change_29, sX2_change_31, sX2_change_34, sX2_change_36, sX2_change_37, sX2_change_37n, sX2_change_38, sX2_change_42, sX2_change_43, hx, hmv, Option.some.injEq, Sum.inr.injEq, Sum.inl.injEq, Prod.mk.injEq, true_and, and_true, exists_eq_left', exists_eq_left, exists_eq_right, exists_eq_right', exists_and_left, exists_and_right, List.getElem?_cons_succ, List.getElem?_cons_zero, List.length_cons, List.length_nil, List.set_cons_zero, List.set_cons_succ, Option.toList_some, Option.toList_none, List.nil_append, List.cons_append, mj_up_s, true_or, or_true, Nat.sub_zero, and_assoc, b10, not_true_eq_false, not_false_eq_true, false_implies, true_implies, implies_true, eq_self, and_self, rf_some, rf_none]
      exact hQ _ (KEEP.rf hM hC)
    · rw [if_neg hp] at hQ
      obtain ⟨q, hq⟩ : ∃ q, S_pk S i = q + 1 := ⟨S_pk S i - 1, by omega⟩
      have hs0 := (w5 hp).1
      rw [hq] at hx
      have hx1 := hx
      simp only [hmv] at hx
      simp only [sX2_change_0, sX2_change_1, sX2_change_5, sX2_change_5n, sX2_change_6, sX2_change_6n, sX2_change_7, sX2_change_7n, sX2_change_10, sX2_change_12, sX2_change_13, sX2_change_13n, sX2_change_14, sX2_change_17, sX2_change_17n, sX2_change_20, sX2_change_22, sX2_change_23, sX2_change_23n, sX2_change_27, sX2_change_28, sX2_change_29, sX2_change_31, sX2_change_34, sX2_change_36, sX2_change_37, sX2_change_37n, sX2_change_38, sX2_change_42, sX2_change_43, hx, Option.some.injEq, Sum.inr.injEq, Sum.inl.injEq, Prod.mk.injEq, true_and, and_true, exists_eq_left', exists_eq_left, exists_eq_right, exists_eq_right', exists_and_left, exists_and_right, List.getElem?_cons_succ, List.getElem?_cons_zero, List.length_cons, List.length_nil, List.set_cons_zero, List.set_cons_succ, Option.toList_some, Option.toList_none, List.nil_append, List.cons_append, mj_up_s, true_or, or_true, Nat.sub_zero, and_assoc, b10, not_true_eq_false, not_false_eq_true, false_implies, true_implies, implies_true, eq_self, and_self, rf_some, rf_none]
      refine sX2_change_24z hx rfl (m_length (by omega) (by show 113 ≤ w - 23; omega) hM hC hW j2 ?_)
      cases hL : S_size S i with
      | none =>
        rw [hL] at hQ
        simp only [oI, sX2_change_0, sX2_change_1, sX2_change_5, sX2_change_5n, sX2_change_6, sX2_change_6n, sX2_change_7, sX2_change_7n, sX2_change_10, sX2_change_12, sX2_change_13, sX2_change_13n, sX2_change_14, sX2_change_17, sX2_change_17n, sX2_change_20, sX2_change_22, sX2_change_23, sX2_change_23n, sX2_change_27, sX2_change_28, sX2_change_29, sX2_change_31, sX2_change_34, sX2_change_36, sX2_change_37, sX2_change_37n, sX2_change_38, sX2_change_42, sX2_change_43, Option.some.injEq, Sum.inr.injEq, Sum.inl.injEq, Prod.mk.injEq, true_and, and_true, exists_eq_left', exists_eq_left, exists_eq_right, exists_eq_right', exists_and_left, exists_and_right, List.getElem?_cons_succ, List.getElem?_cons_zero, List.length_cons, List.length_nil, List.set_cons_zero, List.set_cons_succ, Option.toList_some, Option.toList_none, List.nil_append, List.cons_append, mj_up_s, true_or, or_true, Nat.sub_zero, and_assoc, b10, not_true_eq_false, not_false_eq_true, false_implies, true_implies, implies_true, eq_self, and_self, rf_some, rf_none]
        refine And.intro (fun _ => ?_) (fun c => absurd (by decide) c)
        refine sX2_change_39z hx rfl (c_moveOutL (by omega) (by show 22 ≤ w - 23; omega) hx ?_)
        simp only [sX2_change_0, sX2_change_1, sX2_change_5, sX2_change_5n, sX2_change_6, sX2_change_6n, sX2_change_7, sX2_change_7n, sX2_change_10, sX2_change_12, sX2_change_13, sX2_change_13n, sX2_change_14, sX2_change_17, sX2_change_17n, sX2_change_20, sX2_change_22, sX2_change_23, sX2_change_23n, sX2_change_27, sX2_change_28, sX2_change_29, sX2_change_31, sX2_change_34, sX2_change_36, sX2_change_37, sX2_change_37n, sX2_change_38, sX2_change_42, sX2_change_43, Option.some.injEq, Sum.inr.injEq, Sum.inl.injEq, Prod.mk.injEq, true_and, and_true, exists_eq_left', exists_eq_left, exists_eq_right, exists_eq_right', exists_and_left, exists_and_right, List.getElem?_cons_succ, List.getElem?_cons_zero, List.length_cons, List.length_nil, List.set_cons_zero, List.set_cons_succ, Option.toList_some, Option.toList_none, List.nil_append, List.cons_append, mj_up_s, true_or, or_true, Nat.sub_zero, and_assoc, b10, not_true_eq_false, not_false_eq_true, false_implies, true_implies, implies_true, eq_self, and_self, rf_some, rf_none]
        refine hQ _ ?_
        have e : h = mj_up h (AD 2 i) (BYc 60 g) := (mj_up_id how).symm
        rw [e]
        exact KEEP.item hM hC j2 S_item_same (by simp only [S_item_kd, S_item_sz, S_item_pk, S_item_ix, hs0]; rfl) (fun j hj => by rw [S_item_sz] at hj; omega)
      | some L =>
        rw [hL] at hQ
        have hLt := S_size_lt hW j2 hL
        simp only at hQ
        simp only [oI, sX2_change_0, sX2_change_1, sX2_change_5, sX2_change_5n, sX2_change_6, sX2_change_6n, sX2_change_7, sX2_change_7n, sX2_change_10, sX2_change_12, sX2_change_13, sX2_change_13n, sX2_change_14, sX2_change_17, sX2_change_17n, sX2_change_20, sX2_change_22, sX2_change_23, sX2_change_23n, sX2_change_27, sX2_change_28, sX2_change_29, sX2_change_31, sX2_change_34, sX2_change_36, sX2_change_37, sX2_change_37n, sX2_change_38, sX2_change_42, sX2_change_43, Option.some.injEq, Sum.inr.injEq, Sum.inl.injEq, Prod.mk.injEq, true_and, and_true, exists_eq_left', exists_eq_left, exists_eq_right, exists_eq_right', exists_and_left, exists_and_right, List.getElem?_cons_succ, List.getElem?_cons_zero, List.length_cons, List.length_nil, List.set_cons_zero, List.set_cons_succ, Option.toList_some, Option.toList_none, List.nil_append, List.cons_append, mj_up_s, true_or, or_true, Nat.sub_zero, and_assoc, b10, not_true_eq_false, not_false_eq_true, false_implies, true_implies, implies_true, eq_self, and_self, rf_some, rf_none]
        by_cases h60 : 60 < L
        · rw [if_pos h60] at hQ
          exact And.intro (fun c => absurd c (show ¬ nI L ≤ nI 60 from nI_ge h60 (by omega))) (fun _ => hQ _ (KEEP.rf hM hC))
        · rw [if_neg h60] at hQ
          refine And.intro (fun _ => ?_) (fun c => absurd (show nI L ≤ nI 60 from nI_le (by omega) (by decide)) c)
          have e : S_size S i = if S_th S q (S_ix S i) = true ∧ S_num S q (S_ix S i) 0 = i then S_cl S q (S_ix S i) else none := by
            unfold S_size; rw [if_neg (by omega), hq]; rfl
          rw [hL] at e
          split at e
          · rw [hs0] at hx
            refine sX2_change_39z hx rfl (c_moveOut (by omega) (by show 113 ≤ w - 23; omega) hx how (hC.pk hM hW (by omega)) e.symm (by omega) (fun g' hg' => ?_))
            simp only [sX2_change_0, sX2_change_1, sX2_change_5, sX2_change_5n, sX2_change_6, sX2_change_6n, sX2_change_7, sX2_change_7n, sX2_change_10, sX2_change_12, sX2_change_13, sX2_change_13n, sX2_change_14, sX2_change_17, sX2_change_17n, sX2_change_20, sX2_change_22, sX2_change_23, sX2_change_23n, sX2_change_27, sX2_change_28, sX2_change_29, sX2_change_31, sX2_change_34, sX2_change_36, sX2_change_37, sX2_change_37n, sX2_change_38, sX2_change_42, sX2_change_43, Option.some.injEq, Sum.inr.injEq, Sum.inl.injEq, Prod.mk.injEq, true_and, and_true, exists_eq_left', exists_eq_left, exists_eq_right, exists_eq_right', exists_and_left, exists_and_right, List.getElem?_cons_succ, List.getElem?_cons_zero, List.length_cons, List.length_nil, List.set_cons_zero, List.set_cons_succ, Option.toList_some, Option.toList_none, List.nil_append, List.cons_append, mj_up_s, true_or, or_true, Nat.sub_zero, and_assoc, b10, not_true_eq_false, not_false_eq_true, false_implies, true_implies, implies_true, eq_self, and_self, rf_some, rf_none]
            refine hQ _ (KEEP.item hM hC j2 S_item_same (by simp only [S_item_kd, S_item_sz, S_item_pk, S_item_ix]; rfl) (fun j hj => ?_))
            rw [S_item_sz] at hj
            rw [S_item_by, hg' j hj]
            congr 1
            unfold S_byte; rw [if_neg (by omega), hq]; rfl
          · cases e
  · rw [if_neg hc] at hQ ⊢
    simp only [sX2_change_0, sX2_change_1, sX2_change_5, sX2_change_5n, sX2_change_6, sX2_change_6n, sX2_change_7, sX2_change_7n, sX2_change_10, sX2_change_12, sX2_change_13, sX2_change_13n, sX2_change_14, sX2_change_17, sX2_change_17n, sX2_change_20, sX2_change_22, sX2_change_23, sX2_change_23n, sX2_change_27, sX2_change_28, sX2_change_29, sX2_change_31, sX2_change_34, sX2_change_36, sX2_change_37, sX2_change_37n, sX2_change_38, sX2_change_42, sX2_change_43, Option.some.injEq, Sum.inr.injEq, Sum.inl.injEq, Prod.mk.injEq, true_and, and_true, exists_eq_left', exists_eq_left, exists_eq_right, exists_eq_right', exists_and_left, exists_and_right, List.getElem?_cons_succ, List.getElem?_cons_zero, List.length_cons, List.length_nil, List.set_cons_zero, List.set_cons_succ, Option.toList_some, Option.toList_none, List.nil_append, List.cons_append, mj_up_s, true_or, or_true, Nat.sub_zero, and_assoc, b10, not_true_eq_false, not_false_eq_true, false_implies, true_implies, implies_true, eq_self, and_self, rf_some, rf_none]
    exact hQ _ (KEEP.rf hM hC)
theorem hmv_isRef (r : Nat) : (hmv AD r).isRef = true := by cases r <;> rfl
set_option maxRecDepth 100000 in
theorem m_extend (hf : 2 ≤ f) (hw : 47 ≤ w) (hM : MEM h n AD (VS S) C) (hC : CC S AD C) (hW : WF S) {p o : Int32} (hQ : ∀ h', KEEP AD (op_extend S p o).2 C n h' → Q (some (.int (op_extend S p o).1)) h' n) : mj_bk f w 31 [.ref (AD 5 0), .int p, .int o] h n mc ms Q := by
  obtain ⟨plc, hO⟩ := hC.os hM
  refine mj_begin (by omega) (by decide) (by show 24 ≤ w; omega) rfl ?_
  show mj_W _ _ 31 mj_noZ Q 0 [.ref (AD 5 0), .int p, .int o, .retAddr 0, .retAddr 0] [] h n mc ms
  simp only [sX2_extend_0, sX2_extend_1, sX2_extend_5, sX2_extend_5n, sX2_extend_6, sX2_extend_7, sX2_extend_11, sX2_extend_11n, sX2_extend_13, sX2_extend_13n, sX2_extend_14, sX2_extend_14n, sX2_extend_17, sX2_extend_17n, sX2_extend_19, sX2_extend_19n, sX2_extend_22, sX2_extend_23, sX2_extend_24, sX2_extend_27, sX2_extend_29, sX2_extend_30, sX2_extend_30n, sX2_extend_32, sX2_extend_32n, sX2_extend_33, sX2_extend_39, sX2_extend_42, sX2_extend_43, sX2_extend_44, sX2_extend_44n, sX2_extend_45, sX2_extend_45n, sX2_extend_47, sX2_extend_50, sX2_extend_51, Option.some.injEq, Sum.inr.injEq, Sum.inl.injEq, Prod.mk.injEq, true_and, and_true, exists_eq_left', exists_eq_left, exists_eq_right, exists_eq_right', exists_and_left, exists_and_right, List.getElem?_cons_succ, List.getElem?_cons_zero, List.length_cons, List.length_nil, List.set_cons_zero, List.set_cons_succ, Option.toList_some, Option.toList_none, List.nil_append, List.cons_append, mj_up_s, true_or, or_true, Nat.sub_zero, and_assoc, b10, not_true_eq_false, not_false_eq_true, false_implies, true_implies, implies_true, eq_self, and_self, rf_some, rf_none]
  refine sX2_extend_2z hO rfl (m_packOf (by omega) (by show 21 ≤ w - 24; omega) hM hC hW ?_)
  unfold op_extend at hQ
  by_cases hc : pkI S p = true
  · rw [if_pos hc]
    obtain ⟨i, rfl, j1, j2⟩ := cl_iff.mp hc
    rw [nI_cl j1] at hQ ⊢
    have hx := hC.pkc hM j2
    obtain ⟨g, how, hg⟩ := hC.pb hM j2
    -- behind the two questions, with r the other one
    have tail : ∀ r, r ≤ S_np S → (∀ h', KEEP AD (if leadsN S i r 20 = true then ((0 : Int32), S) else (1, S_pack S i (S_ct S i) (S_fs S i) r (S_pz S i) (S_pb S i))).2 C n h' → Q (some (.int (if leadsN S i r 20 = true then ((0 : Int32), S) else (1, S_pack S i (S_ct S i) (S_fs S i) r (S_pz S i) (S_pb S i))).1)) h' n) → mj_W (f - 1) (w - (19 + mj_maxL 31)) 31 mj_noZ Q 30 [.ref (AD 5 0), .int (nI i), .int o, .ref (AD 3 i), hmv AD r] [] h n mc ms := by
      intro r hr hQ
      have fin : mj_W (f - 1) (w - (19 + mj_maxL 31)) 31 mj_noZ Q 36 [.ref (AD 5 0), .int (nI i), .int o, .ref (AD 3 i), hmv AD r] [.int (nI i), hmv AD r] h n mc ms := by
        refine sX2_extend_36z (by cases r <;> rfl) (m_leadsTo (by omega) (by show 23 ≤ w - 24; omega) hM hC hW hr j2 ?_)
        by_cases hl : leadsN S i r 20 = true
        · rw [if_pos hl] at hQ ⊢
          simp only [sX2_extend_0, sX2_extend_1, sX2_extend_5, sX2_extend_5n, sX2_extend_6, sX2_extend_7, sX2_extend_11, sX2_extend_11n, sX2_extend_13, sX2_extend_13n, sX2_extend_14, sX2_extend_14n, sX2_extend_17, sX2_extend_17n, sX2_extend_19, sX2_extend_19n, sX2_extend_22, sX2_extend_23, sX2_extend_24, sX2_extend_27, sX2_extend_29, sX2_extend_30, sX2_extend_30n, sX2_extend_32, sX2_extend_32n, sX2_extend_33, sX2_extend_39, sX2_extend_42, sX2_extend_43, sX2_extend_44, sX2_extend_44n, sX2_extend_45, sX2_extend_45n, sX2_extend_47, sX2_extend_50, sX2_extend_51, Option.some.injEq, Sum.inr.injEq, Sum.inl.injEq, Prod.mk.injEq, true_and, and_true, exists_eq_left', exists_eq_left, exists_eq_right, exists_eq_right', exists_and_left, exists_and_right, List.getElem?_cons_succ, List.getElem?_cons_zero, List.length_cons, List.length_nil, List.set_cons_zero, List.set_cons_succ, Option.toList_some, Option.toList_none, List.nil_append, List.cons_append, mj_up_s, true_or, or_true, Nat.sub_zero, and_assoc, b10, not_true_eq_false, not_false_eq_true, false_implies, true_implies, implies_true, eq_self, and_self, rf_some, rf_none]
          exact hQ _ (KEEP.rf hM hC)
        · rw [if_neg hl] at hQ ⊢
          have key : KEEP AD (S_pack S i (S_ct S i) (S_fs S i) r (S_pz S i) (S_pb S i)) C n (mj_up h (AD 3 i) (PKc i (S_ct S i) (S_fs S i) (AD 4 i) (S_pz S i) (hmv AD r))) := by
            have e : h = mj_up h (AD 4 i) (BYc 600 g) := (mj_up_id how).symm
            rw [e]
            exact KEEP.pack hM hC j2 S_pack_same (by simp only [S_pack_ct, S_pack_fs, S_pack_pz, S_pack_ex]) (fun j hj => by rw [S_pack_pz] at hj; rw [S_pack_pb]; exact hg j hj)
          have := hQ _ key
          cases r with
          | zero =>
            simp only [hmv, sX2_extend_0, sX2_extend_1, sX2_extend_5, sX2_extend_5n, sX2_extend_6, sX2_extend_7, sX2_extend_11, sX2_extend_11n, sX2_extend_13, sX2_extend_13n, sX2_extend_14, sX2_extend_14n, sX2_extend_17, sX2_extend_17n, sX2_extend_19, sX2_extend_19n, sX2_extend_22, sX2_extend_23, sX2_extend_24, sX2_extend_27, sX2_extend_29, sX2_extend_30, sX2_extend_30n, sX2_extend_32, sX2_extend_32n, sX2_extend_33, sX2_extend_39, sX2_extend_42, sX2_extend_43, sX2_extend_44, sX2_extend_44n, sX2_extend_45, sX2_extend_45n, sX2_extend_47, sX2_extend_50, sX2_extend_51, hx, nfi_1_0, ffi_1_0, nfi_1_1, ffi_1_1, nfi_1_2, ffi_1_2, nfr_1_3, ffr_1_3, nfu_1_3, ffu_1_3, nfi_1_4, ffi_1_4, nfr_1_5, ffr_1_5, nfu_1_5, ffu_1_5, Option.some.injEq, Sum.inr.injEq, Sum.inl.injEq, Prod.mk.injEq, true_and, and_true, exists_eq_left', exists_eq_left, exists_eq_right, exists_eq_right', exists_and_left, exists_and_right, List.getElem?_cons_succ, List.getElem?_cons_zero, List.length_cons, List.length_nil, List.set_cons_zero, List.set_cons_succ, Option.toList_some, Option.toList_none, List.nil_append, List.cons_append, mj_up_s, true_or, or_true, Nat.sub_zero, and_assoc, b10, not_true_eq_false, not_false_eq_true, false_implies, true_implies, implies_true, eq_self, and_self, rf_some, rf_none] at this ⊢
            exact And.intro (by decide) this
          | succ q =>
            simp only [hmv, sX2_extend_0, sX2_extend_1, sX2_extend_5, sX2_extend_5n, sX2_extend_6, sX2_extend_7, sX2_extend_11, sX2_extend_11n, sX2_extend_13, sX2_extend_13n, sX2_extend_14, sX2_extend_14n, sX2_extend_17, sX2_extend_17n, sX2_extend_19, sX2_extend_19n, sX2_extend_22, sX2_extend_23, sX2_extend_24, sX2_extend_27, sX2_extend_29, sX2_extend_30, sX2_extend_30n, sX2_extend_32, sX2_extend_32n, sX2_extend_33, sX2_extend_39, sX2_extend_42, sX2_extend_43, sX2_extend_44, sX2_extend_44n, sX2_extend_45, sX2_extend_45n, sX2_extend_47, sX2_extend_50, sX2_extend_51, hx, nfi_1_0, ffi_1_0, nfi_1_1, ffi_1_1, nfi_1_2, ffi_1_2, nfr_1_3, ffr_1_3, nfu_1_3, ffu_1_3, nfi_1_4, ffi_1_4, nfr_1_5, ffr_1_5, nfu_1_5, ffu_1_5, Option.some.injEq, Sum.inr.injEq, Sum.inl.injEq, Prod.mk.injEq, true_and, and_true, exists_eq_left', exists_eq_left, exists_eq_right, exists_eq_right', exists_and_left, exists_and_right, List.getElem?_cons_succ, List.getElem?_cons_zero, List.length_cons, List.length_nil, List.set_cons_zero, List.set_cons_succ, Option.toList_some, Option.toList_none, List.nil_append, List.cons_append, mj_up_s, true_or, or_true, Nat.sub_zero, and_assoc, b10, not_true_eq_false, not_false_eq_true, false_implies, true_implies, implies_true, eq_self, and_self, rf_some, rf_none] at this ⊢
            exact And.intro (by decide) this
      cases r with
      | zero => simp only [hmv, sX2_extend_0, sX2_extend_1, sX2_extend_5, sX2_extend_5n, sX2_extend_6, sX2_extend_7, sX2_extend_11, sX2_extend_11n, sX2_extend_13, sX2_extend_13n, sX2_extend_14, sX2_extend_14n, sX2_extend_17, sX2_extend_17n, sX2_extend_19, sX2_extend_19n, sX2_extend_22, sX2_extend_23, sX2_extend_24, sX2_extend_27, sX2_extend_29, sX2_extend_30, sX2_extend_30n, sX2_extend_32, sX2_extend_32n, sX2_extend_33, sX2_extend_39, sX2_extend_42, sX2_extend_43, sX2_extend_44, sX2_extend_44n, sX2_extend_45, sX2_extend_45n, sX2_extend_47, sX2_extend_50, sX2_extend_51, hx, Option.some.injEq, Sum.inr.injEq, Sum.inl.injEq, Prod.mk.injEq, true_and, and_true, exists_eq_left', exists_eq_left, exists_eq_right, exists_eq_right', exists_and_left, exists_and_right, List.getElem?_cons_succ, List.getElem?_cons_zero, List.length_cons, List.length_nil, List.set_cons_zero, List.set_cons_succ, Option.toList_some, Option.toList_none, List.nil_append, List.cons_append, mj_up_s, true_or, or_true, Nat.sub_zero, and_assoc, b10, not_true_eq_false, not_false_eq_true, false_implies, true_implies, implies_true, eq_self, and_self, rf_some, rf_none] at fin ⊢; exact fin
      | succ q => simp only [hmv, sX2_extend_0, sX2_extend_1, sX2_extend_5, sX2_extend_5n, sX2_extend_6, sX2_extend_7, sX2_extend_11, sX2_extend_11n, sX2_extend_13, sX2_extend_13n, sX2_extend_14, sX2_extend_14n, sX2_extend_17, sX2_extend_17n, sX2_extend_19, sX2_extend_19n, sX2_extend_22, sX2_extend_23, sX2_extend_24, sX2_extend_27, sX2_extend_29, sX2_extend_30, sX2_extend_30n, sX2_extend_32, sX2_extend_32n, sX2_extend_33, sX2_extend_39, sX2_extend_42, sX2_extend_43, sX2_extend_44, sX2_extend_44n, sX2_extend_45, sX2_extend_45n, sX2_extend_47, sX2_extend_50, sX2_extend_51, hx, Option.some.injEq, Sum.inr.injEq, Sum.inl.injEq, Prod.mk.injEq, true_and, and_true, exists_eq_left', exists_eq_left, exists_eq_right, exists_eq_right', exists_and_left, exists_and_right, List.getElem?_cons_succ, List.getElem?_cons_zero, List.length_cons, List.length_nil, List.set_cons_zero, List.set_cons_succ, Option.toList_some, Option.toList_none, List.nil_append, List.cons_append, mj_up_s, true_or, or_true, Nat.sub_zero, and_assoc, b10, not_true_eq_false, not_false_eq_true, false_implies, true_implies, implies_true, eq_self, and_self, rf_some, rf_none] at fin ⊢; exact fin
    simp only [sX2_extend_0, sX2_extend_1, sX2_extend_5, sX2_extend_5n, sX2_extend_6, sX2_extend_7, sX2_extend_11, sX2_extend_11n, sX2_extend_13, sX2_extend_13n, sX2_extend_14, sX2_extend_14n, sX2_extend_17, sX2_extend_17n, sX2_extend_19, sX2_extend_19n, sX2_extend_22, sX2_extend_23, sX2_extend_24, sX2_extend_27, sX2_extend_29, sX2_extend_32, sX2_extend_32n, sX2_extend_33, sX2_extend_39, sX2_extend_42, sX2_extend_43, sX2_extend_44, sX2_extend_44n, sX2_extend_45, sX2_extend_45n, sX2_extend_47, sX2_extend_50, sX2_extend_51, Option.some.injEq, Sum.inr.injEq, Sum.inl.injEq, Prod.mk.injEq, true_and, and_true, exists_eq_left', exists_eq_left, exists_eq_right, exists_eq_right', exists_and_left, exists_and_right, List.getElem?_cons_succ, List.getElem?_cons_zero, List.length_cons, List.length_nil, List.set_cons_zero, List.set_cons_succ, Option.toList_some, Option.toList_none, List.nil_append, List.cons_append, mj_up_s, true_or, or_true, Nat.sub_zero, and_assoc, b10, not_true_eq_false, not_false_eq_true, false_implies, true_implies, implies_true, eq_self, and_self, rf_some, rf_none]
    refine sX2_extend_8z hO rfl (m_packOf (by omega) (by show 21 ≤ w - 24; omega) hM hC hW ?_)
    by_cases hc2 : pkI S o = true
    · rw [if_pos hc2]
      rw [if_pos ⟨hc, Or.inl hc2⟩] at hQ
      obtain ⟨q, rfl, q1, q2⟩ := cl_iff.mp hc2
      have e : exr S (nI q) = q + 1 := by
        unfold exr
        rw [if_neg, nI_cl q1]
        intro e
        have := nI_tI q1
        rw [e] at this
        simp only [i32_m1] at this
        omega
      rw [e] at hQ
      rw [nI_cl q1]
      simp only [sX2_extend_0, sX2_extend_1, sX2_extend_5, sX2_extend_5n, sX2_extend_6, sX2_extend_7, sX2_extend_11, sX2_extend_11n, sX2_extend_13, sX2_extend_13n, sX2_extend_14, sX2_extend_14n, sX2_extend_17, sX2_extend_17n, sX2_extend_19, sX2_extend_19n, sX2_extend_22, sX2_extend_23, sX2_extend_24, sX2_extend_27, sX2_extend_29, sX2_extend_32, sX2_extend_32n, sX2_extend_33, sX2_extend_39, sX2_extend_42, sX2_extend_43, sX2_extend_44, sX2_extend_44n, sX2_extend_45, sX2_extend_45n, sX2_extend_47, sX2_extend_50, sX2_extend_51, Option.some.injEq, Sum.inr.injEq, Sum.inl.injEq, Prod.mk.injEq, true_and, and_true, exists_eq_left', exists_eq_left, exists_eq_right, exists_eq_right', exists_and_left, exists_and_right, List.getElem?_cons_succ, List.getElem?_cons_zero, List.length_cons, List.length_nil, List.set_cons_zero, List.set_cons_succ, Option.toList_some, Option.toList_none, List.nil_append, List.cons_append, mj_up_s, true_or, or_true, Nat.sub_zero, and_assoc, b10, not_true_eq_false, not_false_eq_true, false_implies, true_implies, implies_true, eq_self, and_self, rf_some, rf_none]
      exact tail (q + 1) (by omega) hQ
    · rw [if_neg hc2]
      simp only [sX2_extend_0, sX2_extend_1, sX2_extend_5, sX2_extend_5n, sX2_extend_6, sX2_extend_7, sX2_extend_11, sX2_extend_11n, sX2_extend_13, sX2_extend_13n, sX2_extend_14, sX2_extend_14n, sX2_extend_17, sX2_extend_17n, sX2_extend_19, sX2_extend_19n, sX2_extend_22, sX2_extend_23, sX2_extend_24, sX2_extend_27, sX2_extend_29, sX2_extend_32, sX2_extend_32n, sX2_extend_33, sX2_extend_39, sX2_extend_42, sX2_extend_43, sX2_extend_44, sX2_extend_44n, sX2_extend_45, sX2_extend_45n, sX2_extend_47, sX2_extend_50, sX2_extend_51, Option.some.injEq, Sum.inr.injEq, Sum.inl.injEq, Prod.mk.injEq, true_and, and_true, exists_eq_left', exists_eq_left, exists_eq_right, exists_eq_right', exists_and_left, exists_and_right, List.getElem?_cons_succ, List.getElem?_cons_zero, List.length_cons, List.length_nil, List.set_cons_zero, List.set_cons_succ, Option.toList_some, Option.toList_none, List.nil_append, List.cons_append, mj_up_s, true_or, or_true, Nat.sub_zero, and_assoc, b10, not_true_eq_false, not_false_eq_true, false_implies, true_implies, implies_true, eq_self, and_self, rf_some, rf_none]
      refine And.intro (fun c => ?_) (fun c => ?_)
      · rw [if_pos ⟨hc, Or.inr c⟩] at hQ
        have e : exr S o = 0 := if_pos c
        rw [e] at hQ
        exact tail 0 (by omega) hQ
      · rw [if_neg (fun z => z.2.elim hc2 c)] at hQ
        exact hQ _ (KEEP.rf hM hC)
  · rw [if_neg hc]
    rw [if_neg (fun z => hc z.1)] at hQ
    simp only [sX2_extend_0, sX2_extend_1, sX2_extend_5, sX2_extend_5n, sX2_extend_6, sX2_extend_7, sX2_extend_11, sX2_extend_11n, sX2_extend_13, sX2_extend_13n, sX2_extend_14, sX2_extend_14n, sX2_extend_17, sX2_extend_17n, sX2_extend_19, sX2_extend_19n, sX2_extend_22, sX2_extend_23, sX2_extend_24, sX2_extend_27, sX2_extend_29, sX2_extend_32, sX2_extend_32n, sX2_extend_33, sX2_extend_39, sX2_extend_42, sX2_extend_43, sX2_extend_44, sX2_extend_44n, sX2_extend_45, sX2_extend_45n, sX2_extend_47, sX2_extend_50, sX2_extend_51, Option.some.injEq, Sum.inr.injEq, Sum.inl.injEq, Prod.mk.injEq, true_and, and_true, exists_eq_left', exists_eq_left, exists_eq_right, exists_eq_right', exists_and_left, exists_and_right, List.getElem?_cons_succ, List.getElem?_cons_zero, List.length_cons, List.length_nil, List.set_cons_zero, List.set_cons_succ, Option.toList_some, Option.toList_none, List.nil_append, List.cons_append, mj_up_s, true_or, or_true, Nat.sub_zero, and_assoc, b10, not_true_eq_false, not_false_eq_true, false_implies, true_implies, implies_true, eq_self, and_self, rf_some, rf_none]
    refine sX2_extend_8z hO rfl (m_packOf (by omega) (by show 21 ≤ w - 24; omega) hM hC hW ?_)
    split
    · simp only [sX2_extend_0, sX2_extend_1, sX2_extend_5, sX2_extend_5n, sX2_extend_6, sX2_extend_7, sX2_extend_11, sX2_extend_11n, sX2_extend_13, sX2_extend_13n, sX2_extend_14, sX2_extend_14n, sX2_extend_17, sX2_extend_17n, sX2_extend_19, sX2_extend_19n, sX2_extend_22, sX2_extend_23, sX2_extend_24, sX2_extend_27, sX2_extend_29, sX2_extend_32, sX2_extend_32n, sX2_extend_33, sX2_extend_39, sX2_extend_42, sX2_extend_43, sX2_extend_44, sX2_extend_44n, sX2_extend_45, sX2_extend_45n, sX2_extend_47, sX2_extend_50, sX2_extend_51, Option.some.injEq, Sum.inr.injEq, Sum.inl.injEq, Prod.mk.injEq, true_and, and_true, exists_eq_left', exists_eq_left, exists_eq_right, exists_eq_right', exists_and_left, exists_and_right, List.getElem?_cons_succ, List.getElem?_cons_zero, List.length_cons, List.length_nil, List.set_cons_zero, List.set_cons_succ, Option.toList_some, Option.toList_none, List.nil_append, List.cons_append, mj_up_s, true_or, or_true, Nat.sub_zero, and_assoc, b10, not_true_eq_false, not_false_eq_true, false_implies, true_implies, implies_true, eq_self, and_self, rf_some, rf_none]
      exact hQ _ (KEEP.rf hM hC)
    · simp only [sX2_extend_0, sX2_extend_1, sX2_extend_5, sX2_extend_5n, sX2_extend_6, sX2_extend_7, sX2_extend_11, sX2_extend_11n, sX2_extend_13, sX2_extend_13n, sX2_extend_14, sX2_extend_14n, sX2_extend_17, sX2_extend_17n, sX2_extend_19, sX2_extend_19n, sX2_extend_22, sX2_extend_23, sX2_extend_24, sX2_extend_27, sX2_extend_29, sX2_extend_32, sX2_extend_32n, sX2_extend_33, sX2_extend_39, sX2_extend_42, sX2_extend_43, sX2_extend_44, sX2_extend_44n, sX2_extend_45, sX2_extend_45n, sX2_extend_47, sX2_extend_50, sX2_extend_51, Option.some.injEq, Sum.inr.injEq, Sum.inl.injEq, Prod.mk.injEq, true_and, and_true, exists_eq_left', exists_eq_left, exists_eq_right, exists_eq_right', exists_and_left, exists_and_right, List.getElem?_cons_succ, List.getElem?_cons_zero, List.length_cons, List.length_nil, List.set_cons_zero, List.set_cons_succ, Option.toList_some, Option.toList_none, List.nil_append, List.cons_append, mj_up_s, true_or, or_true, Nat.sub_zero, and_assoc, b10, not_true_eq_false, not_false_eq_true, false_implies, true_implies, implies_true, eq_self, and_self, rf_some, rf_none]
      exact hQ _ (KEEP.rf hM hC)
end
