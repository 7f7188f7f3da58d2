/-! ===== packs and objects are made ===== -/
def KEEPA (AD : Ad) (S S' : St) (C : Ct) (n' : Nat) (h' : mj_H) (AD' : Ad) : Prop := (∀ k i, VS S k i → AD' k i = AD k i) ∧ ∃ C', MEM h' n' AD' (VS S') C' ∧ CC S' AD' C' ∧ ∀ k i, 6 ≤ k → C' k i = C k i
def st_raw (S : St) (c fi : Nat) : St := S_up (S_pack S (S_np S) c fi 0 0 (fun _ => 0)) 6 0 0 (S_np S + 1)
def st_obj (S : St) (kd : Nat) : St := S_up (S_item S (S_no S) kd 0 (fun _ => 0) 0 0) 0 0 0 (S_no S + 1)
def op_raw (S : St) (c fi : Int32) : Int32 × St := if (0 ≤ c ∧ c ≤ 99) ∧ 0 ≤ fi ∧ fi ≤ 600 then (if S_np S = 20 then (-4, S) else (nI (S_np S), st_raw S c.toNatClampNeg fi.toNatClampNeg)) else (-2, S)
def op_object (S : St) (k : Int32) : Int32 × St := if k = 0 ∨ k = 1 then (if S_no S = 60 then (-4, S) else (nI (S_no S), st_obj S k.toNatClampNeg)) else (-2, S)
theorem st_raw_o {S : St} {c fi r a b : Nat} (hr : ¬ (r = 6 ∧ a = 0 ∧ b = 0)) (hr2 : ¬ (7 ≤ r ∧ r ≤ 11 ∧ a = S_np S)) : st_raw S c fi r a b = S r a b := by
  unfold st_raw S_up
  rw [if_neg hr]
  exact S_pack_same r a b hr2
theorem st_raw_p {S : St} {c fi r a b : Nat} (hr : r ≠ 6) : st_raw S c fi r a b = S_pack S (S_np S) c fi 0 0 (fun _ => 0) r a b := by
  unfold st_raw S_up
  rw [if_neg (by omega)]
theorem st_raw_np {S : St} {c fi : Nat} : S_np (st_raw S c fi) = S_np S + 1 := by simp [S_np, st_raw, S_up]
theorem st_obj_o {S : St} {kd r a b : Nat} (hr : ¬ (r = 0 ∧ a = 0 ∧ b = 0)) (hr2 : ¬ (1 ≤ r ∧ r ≤ 5 ∧ a = S_no S)) : st_obj S kd r a b = S r a b := by
  unfold st_obj S_up
  rw [if_neg hr]
  exact S_item_same r a b hr2
theorem st_obj_p {S : St} {kd r a b : Nat} (hr : r ≠ 0) : st_obj S kd r a b = S_item S (S_no S) kd 0 (fun _ => 0) 0 0 r a b := by
  unfold st_obj S_up
  rw [if_neg (by omega)]
theorem st_obj_no {S : St} {kd : Nat} : S_no (st_obj S kd) = S_no S + 1 := by simp [S_no, st_obj, S_up]
section
variable {S : St} {AD : Ad} {C : Ct} {n : Nat}
theorem hmv_au {r : Nat} {k v : Nat} (hk : k = 3 → ∀ q, r = q + 1 → q ≠ v) {x : Nat} : hmv (Au AD k v x) r = hmv AD r := by
  cases r with
  | zero => rfl
  | succ q =>
    show Value.ref _ = Value.ref _
    by_cases h3 : k = 3
    · subst h3; rw [Au_i (hk rfl q rfl)]
    · rw [Au_k (fun e => h3 e.symm)]
theorem CC_raw (hC : CC S AD C) (hW : WF S) {c fi : Nat} {g : Nat → Option Nat} {plc : Int32} (hg : ∀ p, p < S_np S → g p = some (AD 3 p)) {C' : Ct}
    (hk : ∀ a b, ¬ (a = 3 ∧ b = S_np S) → ¬ (a = 4 ∧ b = S_np S) → ¬ (a = 0 ∧ b = 1) → ¬ (a = 5 ∧ b = 0) → C' a b = C a b)
    (h3 : C' 3 (S_np S) = PKc (S_np S) c fi (n + 1) 0 .null) (h4 : C' 4 (S_np S) = BYc 600 (fun _ => 0)) (h0 : C' 0 1 = .inl (.object (mj_R 1), 20, .inr (.inr (.inr (.inr (va_up g (S_np S) (some n))))))) (h5 : C' 5 0 = OSc AD (st_raw S c fi) plc) :
    CC (st_raw S c fi) (Au (Au AD 3 (S_np S) n) 4 (S_np S) (n + 1)) C' := by
  have e0 : S_no (st_raw S c fi) = S_no S := st_raw_o (by omega) (by omega)
  have e12 : S_nt (st_raw S c fi) = S_nt S := st_raw_o (by omega) (by omega)
  have ad : ∀ a b, ¬ (a = 3 ∧ b = S_np S) → ¬ (a = 4 ∧ b = S_np S) → Au (Au AD 3 (S_np S) n) 4 (S_np S) (n + 1) a b = AD a b := fun a b h1 h2 => by simp [Au, h1, h2]
  have hh : ∀ r, r ≤ S_np S → hmv (Au (Au AD 3 (S_np S) n) 4 (S_np S) (n + 1)) r = hmv AD r := fun r hr => by
    rw [hmv_au (fun e => by omega), hmv_au (fun _ q hq => by omega)]
  obtain ⟨-, ⟨g2, c2, d2⟩, -, ⟨g4, c4, d4⟩, ⟨g5, c5, d5⟩, ⟨g6, c6⟩, ⟨g7, c7⟩, c8, c9, c10, c11⟩ := hC
  obtain ⟨w1, w2, w3, w4, w5, w6⟩ := hW
  refine ⟨⟨plc, ?_⟩, ⟨g2, ?_, fun j hj => ?_⟩, ⟨_, h0, fun j hj => ?_⟩, ⟨g4, ?_, fun j hj => ?_⟩, ⟨g5, ?_, fun j hj => ?_⟩, ⟨g6, ?_⟩, ⟨g7, ?_⟩, fun j hj => ?_, fun j hj => ?_, fun p hp => ?_, fun p hp => ?_⟩
  · rw [h5]
    simp only [OSc, ad 0 0 (by omega) (by omega), ad 0 1 (by omega) (by omega), ad 0 2 (by omega) (by omega), ad 0 3 (by omega) (by omega), ad 0 4 (by omega) (by omega), ad 0 5 (by omega) (by omega)]
  · rw [hk _ _ (by omega) (by omega) (by omega) (by omega)]; exact c2
  · rw [ad 1 j (by omega) (by omega)]; exact d2 j (by omega)
  · rw [st_raw_np] at hj
    by_cases he : j = S_np S
    · subst he
      rw [va_up_self, Au_k (by decide), Au_s]
    · rw [va_up_ne _ _ he, ad 3 j (by omega) (by omega)]; exact hg j (by omega)
  · rw [hk _ _ (by omega) (by omega) (by omega) (by omega)]; exact c4
  · rw [show S_tf (st_raw S c fi) j = S_tf S j from st_raw_o (by omega) (by omega)]; exact d4 j (by omega)
  · rw [hk _ _ (by omega) (by omega) (by omega) (by omega)]; exact c5
  · rw [show S_tp (st_raw S c fi) j = S_tp S j from st_raw_o (by omega) (by omega)]; exact d5 j (by omega)
  · rw [hk _ _ (by omega) (by omega) (by omega) (by omega)]; exact c6
  · rw [hk _ _ (by omega) (by omega) (by omega) (by omega)]; exact c7
  · obtain ⟨wt', c8⟩ := c8 j (by omega)
    refine ⟨wt', ?_⟩
    have := (w4 j (by omega)).2.2.1
    rw [hk _ _ (by omega) (by omega) (by omega) (by omega), c8]
    simp only [show S_kd (st_raw S c fi) j = S_kd S j from st_raw_o (by omega) (by omega), show S_sz (st_raw S c fi) j = S_sz S j from st_raw_o (by omega) (by omega), show S_pk (st_raw S c fi) j = S_pk S j from st_raw_o (by omega) (by omega), show S_ix (st_raw S c fi) j = S_ix S j from st_raw_o (by omega) (by omega), ad 2 j (by omega) (by omega), hh _ this]
  · obtain ⟨g', c9, d9⟩ := c9 j (by omega)
    refine ⟨g', by rw [hk _ _ (by omega) (by omega) (by omega) (by omega), c9], fun t ht => ?_⟩
    rw [show S_by (st_raw S c fi) j t = S_by S j t from st_raw_o (by omega) (by omega)]
    exact d9 t (by rw [← show S_sz (st_raw S c fi) j = S_sz S j from st_raw_o (by omega) (by omega)]; exact ht)
  · rw [st_raw_np] at hp
    by_cases he : p = S_np S
    · subst he
      rw [h3]
      have a1 : S_ct (st_raw S c fi) (S_np S) = c := (st_raw_p (by omega)).trans S_pack_ct
      have a2 : S_fs (st_raw S c fi) (S_np S) = fi := (st_raw_p (by omega)).trans S_pack_fs
      have a3 : S_ex (st_raw S c fi) (S_np S) = 0 := (st_raw_p (by omega)).trans S_pack_ex
      have a4 : S_pz (st_raw S c fi) (S_np S) = 0 := (st_raw_p (by omega)).trans S_pack_pz
      simp only [a1, a2, a3, a4, Au_s]; rfl
    · have := (w6 p (by omega)).2
      rw [hk _ _ (by omega) (by omega) (by omega) (by omega), c10 p (by omega)]
      simp only [show S_ct (st_raw S c fi) p = S_ct S p from st_raw_o (by omega) (by omega), show S_fs (st_raw S c fi) p = S_fs S p from st_raw_o (by omega) (by omega), show S_ex (st_raw S c fi) p = S_ex S p from st_raw_o (by omega) (by omega), show S_pz (st_raw S c fi) p = S_pz S p from st_raw_o (by omega) (by omega), ad 4 p (by omega) (by omega), hh _ this]
  · rw [st_raw_np] at hp
    by_cases he : p = S_np S
    · subst he
      have a4 : S_pz (st_raw S c fi) (S_np S) = 0 := (st_raw_p (by omega)).trans S_pack_pz
      exact ⟨_, h4, fun t ht => by omega⟩
    · obtain ⟨g', c11, d11⟩ := c11 p (by omega)
      refine ⟨g', by rw [hk _ _ (by omega) (by omega) (by omega) (by omega), c11], fun t ht => ?_⟩
      rw [show S_pb (st_raw S c fi) p t = S_pb S p t from st_raw_o (by omega) (by omega)]
      exact d11 t (by rw [← show S_pz (st_raw S c fi) p = S_pz S p from st_raw_o (by omega) (by omega)]; exact ht)
theorem CC_obj (hC : CC S AD C) {kd : Nat} {g : Nat → Option Nat} {plc : Int32} (hg : ∀ p, p < S_no S → g p = some (AD 1 p)) {C' : Ct}
    (hk : ∀ a b, ¬ (a = 1 ∧ b = S_no S) → ¬ (a = 2 ∧ b = S_no S) → ¬ (a = 0 ∧ b = 0) → ¬ (a = 5 ∧ b = 0) → C' a b = C a b)
    (h3 : C' 1 (S_no S) = ITc (S_no S) kd (n + 1) 0 .null 0 0) (h4 : C' 2 (S_no S) = BYc 60 (fun _ => 0)) (h0 : C' 0 0 = .inl (.object (mj_R 0), 60, .inr (.inr (.inr (.inr (va_up g (S_no S) (some n))))))) (h5 : C' 5 0 = OSc AD (st_obj S kd) plc) :
    CC (st_obj S kd) (Au (Au AD 1 (S_no S) n) 2 (S_no S) (n + 1)) C' := by
  have e6 : S_np (st_obj S kd) = S_np S := st_obj_o (by omega) (by omega)
  have e12 : S_nt (st_obj S kd) = S_nt S := st_obj_o (by omega) (by omega)
  have ad : ∀ a b, ¬ (a = 1 ∧ b = S_no S) → ¬ (a = 2 ∧ b = S_no S) → Au (Au AD 1 (S_no S) n) 2 (S_no S) (n + 1) a b = AD a b := fun a b h1 h2 => by simp [Au, h1, h2]
  have hh : ∀ r, hmv (Au (Au AD 1 (S_no S) n) 2 (S_no S) (n + 1)) r = hmv AD r := fun r => by
    rw [hmv_au (fun e => by omega), hmv_au (fun e => by omega)]
  obtain ⟨-, -, ⟨g3, c3, d3⟩, ⟨g4, c4, d4⟩, ⟨g5, c5, d5⟩, ⟨g6, c6⟩, ⟨g7, c7⟩, c8, c9, c10, c11⟩ := hC
  refine ⟨⟨plc, ?_⟩, ⟨_, h0, fun j hj => ?_⟩, ⟨g3, ?_, fun j hj => ?_⟩, ⟨g4, ?_, fun j hj => ?_⟩, ⟨g5, ?_, fun j hj => ?_⟩, ⟨g6, ?_⟩, ⟨g7, ?_⟩, fun j hj => ?_, fun j hj => ?_, fun p hp => ?_, fun p hp => ?_⟩
  · rw [h5]
    simp only [OSc, ad 0 0 (by omega) (by omega), ad 0 1 (by omega) (by omega), ad 0 2 (by omega) (by omega), ad 0 3 (by omega) (by omega), ad 0 4 (by omega) (by omega), ad 0 5 (by omega) (by omega)]
  · rw [st_obj_no] at hj
    by_cases he : j = S_no S
    · subst he
      rw [va_up_self, Au_k (by decide), Au_s]
    · rw [va_up_ne _ _ he, ad 1 j (by omega) (by omega)]; exact hg j (by omega)
  · rw [hk _ _ (by omega) (by omega) (by omega) (by omega)]; exact c3
  · rw [ad 3 j (by omega) (by omega)]; exact d3 j (by omega)
  · rw [hk _ _ (by omega) (by omega) (by omega) (by omega)]; exact c4
  · rw [show S_tf (st_obj S kd) j = S_tf S j from st_obj_o (by omega) (by omega)]; exact d4 j (by omega)
  · rw [hk _ _ (by omega) (by omega) (by omega) (by omega)]; exact c5
  · rw [show S_tp (st_obj S kd) j = S_tp S j from st_obj_o (by omega) (by omega)]; exact d5 j (by omega)
  · rw [hk _ _ (by omega) (by omega) (by omega) (by omega)]; exact c6
  · rw [hk _ _ (by omega) (by omega) (by omega) (by omega)]; exact c7
  · rw [st_obj_no] at hj
    by_cases he : j = S_no S
    · subst he
      have a1 : S_kd (st_obj S kd) (S_no S) = kd := (st_obj_p (by omega)).trans S_item_kd
      have a2 : S_sz (st_obj S kd) (S_no S) = 0 := (st_obj_p (by omega)).trans S_item_sz
      have a3 : S_pk (st_obj S kd) (S_no S) = 0 := (st_obj_p (by omega)).trans S_item_pk
      have a4 : S_ix (st_obj S kd) (S_no S) = 0 := (st_obj_p (by omega)).trans S_item_ix
      refine ⟨0, ?_⟩
      rw [h3]
      simp only [a1, a2, a3, a4, Au_s]; rfl
    · obtain ⟨wt', c8⟩ := c8 j (by omega)
      refine ⟨wt', ?_⟩
      rw [hk _ _ (by omega) (by omega) (by omega) (by omega), c8]
      simp only [show S_kd (st_obj S kd) j = S_kd S j from st_obj_o (by omega) (by omega), show S_sz (st_obj S kd) j = S_sz S j from st_obj_o (by omega) (by omega), show S_pk (st_obj S kd) j = S_pk S j from st_obj_o (by omega) (by omega), show S_ix (st_obj S kd) j = S_ix S j from st_obj_o (by omega) (by omega), ad 2 j (by omega) (by omega), hh]
  · rw [st_obj_no] at hj
    by_cases he : j = S_no S
    · subst he
      have a2 : S_sz (st_obj S kd) (S_no S) = 0 := (st_obj_p (by omega)).trans S_item_sz
      exact ⟨_, h4, fun t ht => by omega⟩
    · obtain ⟨g', c9, d9⟩ := c9 j (by omega)
      refine ⟨g', by rw [hk _ _ (by omega) (by omega) (by omega) (by omega), c9], fun t ht => ?_⟩
      rw [show S_by (st_obj S kd) j t = S_by S j t from st_obj_o (by omega) (by omega)]
      exact d9 t (by rw [← show S_sz (st_obj S kd) j = S_sz S j from st_obj_o (by omega) (by omega)]; exact ht)
  · rw [hk _ _ (by omega) (by omega) (by omega) (by omega), c10 p (by omega)]
    simp only [show S_ct (st_obj S kd) p = S_ct S p from st_obj_o (by omega) (by omega), show S_fs (st_obj S kd) p = S_fs S p from st_obj_o (by omega) (by omega), show S_ex (st_obj S kd) p = S_ex S p from st_obj_o (by omega) (by omega), show S_pz (st_obj S kd) p = S_pz S p from st_obj_o (by omega) (by omega), ad 4 p (by omega) (by omega), hh]
  · obtain ⟨g', c11, d11⟩ := c11 p (by omega)
    refine ⟨g', by rw [hk _ _ (by omega) (by omega) (by omega) (by omega), c11], fun t ht => ?_⟩
    rw [show S_pb (st_obj S kd) p t = S_pb S p t from st_obj_o (by omega) (by omega)]
    exact d11 t (by rw [← show S_pz (st_obj S kd) p = S_pz S p from st_obj_o (by omega) (by omega)]; exact ht)
end
theorem VS_raw {S : St} {c fi a b : Nat} (h : VS (st_raw S c fi) a b) : VS S a b ∨ (a = 3 ∧ b = S_np S) ∨ (a = 4 ∧ b = S_np S) := by
  have e0 : S_no (st_raw S c fi) = S_no S := st_raw_o (by omega) (by omega)
  match a, h with
  | 0, h => exact Or.inl h
  | 1, h => exact Or.inl (by have h : b < S_no (st_raw S c fi) := h; show b < S_no S; omega)
  | 2, h => exact Or.inl (by have h : b < S_no (st_raw S c fi) := h; show b < S_no S; omega)
  | 3, h =>
    have h : b < S_np (st_raw S c fi) := h
    rw [st_raw_np] at h
    by_cases e : b = S_np S
    · exact Or.inr (Or.inl ⟨rfl, e⟩)
    · exact Or.inl (by show b < S_np S; omega)
  | 4, h =>
    have h : b < S_np (st_raw S c fi) := h
    rw [st_raw_np] at h
    by_cases e : b = S_np S
    · exact Or.inr (Or.inr ⟨rfl, e⟩)
    · exact Or.inl (by show b < S_np S; omega)
  | 5, h => exact Or.inl h
  | 6, h => exact Or.inl h
  | 7, h => exact Or.inl h
  | 8, h => exact Or.inl h
  | a + 9, h => exact h.elim
theorem VS_obj {S : St} {kd a b : Nat} (h : VS (st_obj S kd) a b) : VS S a b ∨ (a = 1 ∧ b = S_no S) ∨ (a = 2 ∧ b = S_no S) := by
  have e6 : S_np (st_obj S kd) = S_np S := st_obj_o (by omega) (by omega)
  match a, h with
  | 0, h => exact Or.inl h
  | 1, h =>
    have h : b < S_no (st_obj S kd) := h
    rw [st_obj_no] at h
    by_cases e : b = S_no S
    · exact Or.inr (Or.inl ⟨rfl, e⟩)
    · exact Or.inl (by show b < S_no S; omega)
  | 2, h =>
    have h : b < S_no (st_obj S kd) := h
    rw [st_obj_no] at h
    by_cases e : b = S_no S
    · exact Or.inr (Or.inr ⟨rfl, e⟩)
    · exact Or.inl (by show b < S_no S; omega)
  | 3, h => exact Or.inl (by have h : b < S_np (st_obj S kd) := h; show b < S_np S; omega)
  | 4, h => exact Or.inl (by have h : b < S_np (st_obj S kd) := h; show b < S_np S; omega)
  | 5, h => exact Or.inl h
  | 6, h => exact Or.inl h
  | 7, h => exact Or.inl h
  | 8, h => exact Or.inl h
  | a + 9, h => exact h.elim
section
variable {f w : Nat} {Q : mj_Q} {h : mj_H} {n mc ms : Nat} {S : St} {AD : Ad} {C : Ct}
theorem KEEPA.rf (hM : MEM h n AD (VS S) C) (hC : CC S AD C) : KEEPA AD S S C n h AD := ⟨fun _ _ _ => rfl, C, hM, hC, fun _ _ _ => rfl⟩
set_option maxRecDepth 100000 in
theorem m_newPack (hf : 3 ≤ f) (hw : 65 ≤ w) (hM : MEM h n AD (VS S) C) (hC : CC S AD C) (hW : WF S) {c fi : Nat} (hmc : 2 ≤ mc) (hms : 606 ≤ ms) (hnp : S_np S < 20) (hQ : ∀ h', KEEPA AD S (st_raw S c fi) C (n + 2) h' (Au (Au AD 3 (S_np S) n) 4 (S_np S) (n + 1)) → h' n = some (PKc (S_np S) c fi (n + 1) 0 .null) → Q (some (.ref n)) h' (n + 2)) : mj_bk f w 40 [.ref (AD 5 0), .int (nI c), .int (nI fi)] h n mc ms Q := by
  obtain ⟨plc, c1⟩ := id hC.1
  obtain ⟨g, e1, e2⟩ := id hC.2.2.1
  have hO := hM.1 5 0 rfl
  have hA := hM.1 0 1 (show 1 < 6 by omega)
  rw [c1] at hO
  rw [e1] at hA
  have lO := hM.2.2 5 0 rfl
  have lA := hM.2.2 0 1 (show 1 < 6 by omega)
  have nOA : AD 5 0 ≠ AD 0 1 := cell_neA hO hA
  refine mj_begin (by omega) (by decide) (by show 23 ≤ w; omega) rfl ?_
  show mj_W _ _ 40 mj_noZ Q 0 [.ref (AD 5 0), .int (nI c), .int (nI fi), .retAddr 0] [] h n mc ms
  have n1 : AD 5 0 ≠ n := by omega
  have n2 : AD 0 1 ≠ n := by omega
  have n3 : AD 5 0 ≠ n + 1 := by omega
  have n4 : AD 0 1 ≠ n + 1 := by omega
  simp only [sX2_newPack_0, sX2_newPack_1, sX2_newPack_4, sX2_newPack_6, sX2_newPack_9, sX2_newPack_10, sX2_newPack_10n, sX2_newPack_11, sX2_newPack_14, sX2_newPack_15, sX2_newPack_16, sX2_newPack_19, sX2_newPack_20, sX2_newPack_24, sX2_newPack_24n, sX2_newPack_25, sX2_newPack_26, sX2_newPack_29, sX2_newPack_30, sX2_newPack_33, sX2_newPack_33n, sX2_newPack_34, sX2_newPack_35, sX2_newPack_36, sX2_newPack_37, sX2_newPack_40, sX2_newPack_41, sX2_newPack_42, sX2_newPack_45, sX2_newPack_45n, sX2_newPack_46, sX2_newPack_46n, hO, mj_up_n n1, Option.some.injEq, Sum.inr.injEq, Sum.inl.injEq, Prod.mk.injEq, true_and, and_true, exists_eq_left', exists_eq_left, exists_eq_right, exists_eq_right', exists_and_left, exists_and_right, List.getElem?_cons_succ, List.getElem?_cons_zero, List.length_cons, List.length_nil, List.set_cons_zero, List.set_cons_succ, Option.toList_some, Option.toList_none, List.nil_append, List.cons_append, mj_up_s, true_or, or_true, Nat.sub_zero, and_assoc, b10, not_true_eq_false, not_false_eq_true, false_implies, true_implies, implies_true, eq_self, and_self, rf_some, rf_none]
  refine And.intro (fun _ => And.intro (by omega) (And.intro (by show 6 ≤ ms; omega) ?_)) (fun c => absurd (show nI (S_np S) < nI 20 from nI_lt hnp (by decide)) c)
  refine sX2_newPack_21 1 600 mj_up_s rfl (by omega) (by show 600 ≤ ms - 6; omega) (c_pinit (by omega) (by show 42 ≤ w - 23; omega) (by omega) (by omega) mj_up_s (by omega) ?_)
  have z : nI (S_np S) + 1 = nI (S_np S + 1) := nI_1 _
  have r1 : ∀ A B D : mj_C, mj_up (mj_up (mj_up h n A) (n + 1) B) n D (AD 5 0) = some (OSc AD S plc) := fun A B D => by rw [mj_up_n n1, mj_up_n n3, mj_up_n n1]; exact hO
  have r2 : ∀ A B D : mj_C, mj_up (mj_up (mj_up h n A) (n + 1) B) n D (AD 0 1) = some (.inl (.object (mj_R 1), 20, .inr (.inr (.inr (.inr g))))) := fun A B D => by rw [mj_up_n n2, mj_up_n n4, mj_up_n n2]; exact hA
  simp only [sX2_newPack_0, sX2_newPack_1, sX2_newPack_4, sX2_newPack_6, sX2_newPack_9, sX2_newPack_10, sX2_newPack_10n, sX2_newPack_11, sX2_newPack_14, sX2_newPack_15, sX2_newPack_16, sX2_newPack_19, sX2_newPack_20, sX2_newPack_24, sX2_newPack_24n, sX2_newPack_25, sX2_newPack_26, sX2_newPack_29, sX2_newPack_30, sX2_newPack_33, sX2_newPack_33n, sX2_newPack_35, sX2_newPack_36, sX2_newPack_37, sX2_newPack_40, sX2_newPack_41, sX2_newPack_42, sX2_newPack_45, sX2_newPack_45n, sX2_newPack_46, sX2_newPack_46n, r1, r2, Option.some.injEq, Sum.inr.injEq, Sum.inl.injEq, Prod.mk.injEq, true_and, and_true, exists_eq_left', exists_eq_left, exists_eq_right, exists_eq_right', exists_and_left, exists_and_right, List.getElem?_cons_succ, List.getElem?_cons_zero, List.length_cons, List.length_nil, List.set_cons_zero, List.set_cons_succ, Option.toList_some, Option.toList_none, List.nil_append, List.cons_append, mj_up_s, true_or, or_true, Nat.sub_zero, and_assoc, b10, not_true_eq_false, not_false_eq_true, false_implies, true_implies, implies_true, eq_self, and_self, rf_some, rf_none]
  rw [sX2_newPack_34]
  refine ⟨1, _, 20, g, r2 _ _ _, by omega, mj_up_s, vp_in_nI (by omega) (by decide), ?_⟩
  rw [nI_cl (show S_np S < 2147483648 by omega)]
  simp only [sX2_newPack_0, sX2_newPack_1, sX2_newPack_4, sX2_newPack_6, sX2_newPack_9, sX2_newPack_10, sX2_newPack_10n, sX2_newPack_11, sX2_newPack_14, sX2_newPack_15, sX2_newPack_16, sX2_newPack_19, sX2_newPack_20, sX2_newPack_24, sX2_newPack_24n, sX2_newPack_25, sX2_newPack_26, sX2_newPack_29, sX2_newPack_30, sX2_newPack_33, sX2_newPack_33n, sX2_newPack_34, sX2_newPack_35, sX2_newPack_36, sX2_newPack_37, sX2_newPack_40, sX2_newPack_41, sX2_newPack_42, sX2_newPack_45, sX2_newPack_45n, sX2_newPack_46, sX2_newPack_46n, mj_up_n nOA, r1, nfr_2_0, ffr_2_0, nfu_2_0, ffu_2_0, nfi_2_1, ffi_2_1, nfr_2_2, ffr_2_2, nfu_2_2, ffu_2_2, nfi_2_3, ffi_2_3, nfr_2_4, ffr_2_4, nfu_2_4, ffu_2_4, nfr_2_5, ffr_2_5, nfu_2_5, ffu_2_5, nfi_2_6, ffi_2_6, nfr_2_7, ffr_2_7, nfu_2_7, ffu_2_7, nfi_2_8, ffi_2_8, nfr_2_9, ffr_2_9, nfu_2_9, ffu_2_9, Option.some.injEq, Sum.inr.injEq, Sum.inl.injEq, Prod.mk.injEq, true_and, and_true, exists_eq_left', exists_eq_left, exists_eq_right, exists_eq_right', exists_and_left, exists_and_right, List.getElem?_cons_succ, List.getElem?_cons_zero, List.length_cons, List.length_nil, List.set_cons_zero, List.set_cons_succ, Option.toList_some, Option.toList_none, List.nil_append, List.cons_append, mj_up_s, true_or, or_true, Nat.sub_zero, and_assoc, b10, not_true_eq_false, not_false_eq_true, false_implies, true_implies, implies_true, eq_self, and_self, rf_some, rf_none, z]
  refine And.intro (by decide) ?_
  have hnv3 : ¬ VS S 3 (S_np S) := fun e => by have e : S_np S < S_np S := e; omega
  have A1 := hM.add (k := 3) (i := S_np S) (c := .inr (1, mj_new 1)) (V' := fun a b => VS S a b ∨ (a = 3 ∧ b = S_np S)) hnv3 (fun a b hab => hab)
  have A2 := A1.add (k := 4) (i := S_np S) (c := BYc 600 (fun _ => 0)) (V' := VS (st_raw S c fi)) (fun e => by
    rcases e with e | ⟨e, -⟩
    · have e : S_np S < S_np S := e; omega
    · omega) (fun a b hab => by
    rcases VS_raw hab with e | e | e
    · exact Or.inl (Or.inl e)
    · exact Or.inl (Or.inr e)
    · exact Or.inr e)
  have A3 := A2.put (k := 3) (i := S_np S) (c := PKc (S_np S) c fi (n + 1) 0 .null) (show S_np S < S_np (st_raw S c fi) by rw [st_raw_np]; omega)
  have A4 := A3.put (k := 0) (i := 1) (c := .inl (.object (mj_R 1), 20, .inr (.inr (.inr (.inr (va_up g (S_np S) (some n))))))) (show 1 < 6 by omega)
  have A5 := A4.put (k := 5) (i := 0) (c := OSc AD (st_raw S c fi) plc) rfl
  rw [show Au (Au AD 3 (S_np S) n) 4 (S_np S) (n + 1) 3 (S_np S) = n by rw [Au_k (by decide), Au_s], show Au (Au AD 3 (S_np S) n) 4 (S_np S) (n + 1) 0 1 = AD 0 1 by rw [Au_k (by decide), Au_k (by decide)], show Au (Au AD 3 (S_np S) n) 4 (S_np S) (n + 1) 5 0 = AD 5 0 by rw [Au_k (by decide), Au_k (by decide)]] at A5
  have hOS : OSc AD (st_raw S c fi) plc = .inr (2, [.ref (AD 0 0), .int (nI (S_no S)), .ref (AD 0 1), .int (nI (S_np S + 1)), .ref (AD 0 2), .ref (AD 0 3), .int (nI (S_nt S)), .ref (AD 0 4), .int plc, .ref (AD 0 5)]) := by
    simp only [OSc, st_raw_np, show S_no (st_raw S c fi) = S_no S from st_raw_o (by omega) (by omega), show S_nt (st_raw S c fi) = S_nt S from st_raw_o (by omega) (by omega)]
  refine hQ _ ⟨fun k i hki => ?_, _, ?_, CC_raw (n := n) (plc := plc) hC hW e2 (C' := Cu (Cu (Cu (Cu (Cu C 3 (S_np S) (.inr (1, mj_new 1))) 4 (S_np S) (BYc 600 (fun _ => 0))) 3 (S_np S) (PKc (S_np S) c fi (n + 1) 0 .null)) 0 1 (.inl (.object (mj_R 1), 20, .inr (.inr (.inr (.inr (va_up g (S_np S) (some n)))))))) 5 0 (OSc AD (st_raw S c fi) plc)) (fun a b h1 h2 h3 h4 => ?_) ?_ ?_ ?_ ?_, fun a b ha => ?_⟩ ?_
  · have : ¬ (k = 3 ∧ i = S_np S) := fun e => by obtain ⟨rfl, rfl⟩ := e; exact hnv3 hki
    have : ¬ (k = 4 ∧ i = S_np S) := fun e => by obtain ⟨rfl, rfl⟩ := e; have e : S_np S < S_np S := hki; omega
    simp [Au, *]
  · rw [hOS] at A5 ⊢; exact A5
  · simp [Cu, h1, h2, h3, h4]
  · rw [Cu_k (by decide), Cu_k (by decide), Cu_s]
  · rw [Cu_k (by decide), Cu_k (by decide), Cu_k (by decide), Cu_s]
  · rw [Cu_k (by decide), Cu_s]
  · rw [Cu_s]
  · rw [Cu_k (by omega), Cu_k (by omega), Cu_k (by omega), Cu_k (by omega), Cu_k (by omega)]
  · rw [mj_up_n (Ne.symm n1), mj_up_n (Ne.symm n2), mj_up_s]
set_option maxRecDepth 100000 in
theorem m_raw (hf : 4 ≤ f) (hw : 88 ≤ w) (hM : MEM h n AD (VS S) C) (hC : CC S AD C) (hW : WF S) {c fi : Int32} (hmc : 2 ≤ mc) (hms : 606 ≤ ms) (hQ : ∀ h' n' AD', n ≤ n' → n' ≤ n + 2 → KEEPA AD S (op_raw S c fi).2 C n' h' AD' → Q (some (.int (op_raw S c fi).1)) h' n') : mj_bk f w 28 [.ref (AD 5 0), .int c, .int fi] h n mc ms Q := by
  obtain ⟨plc, hO⟩ := hC.os hM
  refine mj_begin (by omega) (by decide) (by show 23 ≤ w; omega) rfl ?_
  show mj_W _ _ 28 mj_noZ Q 0 [.ref (AD 5 0), .int c, .int fi, .retAddr 0] [] h n mc ms
  simp only [sX2_raw_0, sX2_raw_1, sX2_raw_4, sX2_raw_5, sX2_raw_7, sX2_raw_10, sX2_raw_11, sX2_raw_14, sX2_raw_15, sX2_raw_18, sX2_raw_21, sX2_raw_23, sX2_raw_24, sX2_raw_25, sX2_raw_26, sX2_raw_30, sX2_raw_30n, sX2_raw_31, sX2_raw_31n, sX2_raw_32, sX2_raw_32n, sX2_raw_35, sX2_raw_37, sX2_raw_40, sX2_raw_40n, sX2_raw_41, sX2_raw_44, Option.some.injEq, Sum.inr.injEq, Sum.inl.injEq, Prod.mk.injEq, true_and, and_true, exists_eq_left', exists_eq_left, exists_eq_right, exists_eq_right', exists_and_left, exists_and_right, List.getElem?_cons_succ, List.getElem?_cons_zero, List.length_cons, List.length_nil, List.set_cons_zero, List.set_cons_succ, Option.toList_some, Option.toList_none, List.nil_append, List.cons_append, mj_up_s, true_or, or_true, Nat.sub_zero, and_assoc, b10, not_true_eq_false, not_false_eq_true, false_implies, true_implies, implies_true, eq_self, and_self, rf_some, rf_none]
  unfold op_raw at hQ
  have w2 := hW.2.1
  by_cases hc : (0 ≤ c ∧ c ≤ 99) ∧ 0 ≤ fi ∧ fi ≤ 600
  · rw [if_pos hc] at hQ
    refine And.intro (fun c1 => absurd c1 (by clear hQ hM hC hO; (simp only [Int32.le_iff_toInt_le, Int32.lt_iff_toInt_lt, i32_eq, i32_0, i32_m1, i32_600, i32_60, i32_20, i32_99, i32_10, i32_1, i32_2] at *; omega))) (fun _ => And.intro (fun c1 => absurd c1 (by clear hQ hM hC hO; (simp only [Int32.le_iff_toInt_le, Int32.lt_iff_toInt_lt, i32_eq, i32_0, i32_m1, i32_600, i32_60, i32_20, i32_99, i32_10, i32_1, i32_2] at *; omega))) (fun _ => And.intro (fun c1 => absurd c1 (by clear hQ hM hC hO; (simp only [Int32.le_iff_toInt_le, Int32.lt_iff_toInt_lt, i32_eq, i32_0, i32_m1, i32_600, i32_60, i32_20, i32_99, i32_10, i32_1, i32_2] at *; omega))) (fun _ => And.intro (fun _ => ?_) (fun c1 => absurd hc.2.2 c1))))
    obtain ⟨u, u1, rfl, u3⟩ := i32_of (x := c) (by clear hQ hM hC hO; (simp only [Int32.le_iff_toInt_le, Int32.lt_iff_toInt_lt, i32_eq, i32_0, i32_m1, i32_600, i32_60, i32_20, i32_99, i32_10, i32_1, i32_2] at *; omega))
    obtain ⟨v, v1, rfl, v3⟩ := i32_of (x := fi) (by clear hQ hM hC hO; (simp only [Int32.le_iff_toInt_le, Int32.lt_iff_toInt_lt, i32_eq, i32_0, i32_m1, i32_600, i32_60, i32_20, i32_99, i32_10, i32_1, i32_2] at *; omega))
    rw [nI_cl u1, nI_cl v1] at hQ
    by_cases h20 : S_np S = 20
    · rw [if_pos h20] at hQ
      refine sX2_raw_27z hO rfl ?_
      refine mj_begin (by omega) (by decide) (by show 23 ≤ w - 23; omega) rfl ?_
      show mj_W _ _ 40 mj_noZ _ 0 [.ref (AD 5 0), .int (nI u), .int (nI v), .retAddr 0] [] h n 0 0
      rw [sX2_newPack_0, sX2_newPack_1]
      simp only [hO, Option.some.injEq, Sum.inr.injEq, Sum.inl.injEq, Prod.mk.injEq, true_and, and_true, exists_eq_left', exists_eq_left, exists_eq_right, exists_eq_right', exists_and_left, exists_and_right, List.getElem?_cons_succ, List.getElem?_cons_zero, List.length_cons, List.length_nil, List.set_cons_zero, List.set_cons_succ, Option.toList_some, Option.toList_none, List.nil_append, List.cons_append, mj_up_s, true_or, or_true, Nat.sub_zero, and_assoc, b10, not_true_eq_false, not_false_eq_true, false_implies, true_implies, implies_true, eq_self, and_self, rf_some, rf_none, sX2_newPack_4, sX2_newPack_6]
      refine And.intro (fun c1 => absurd c1 (by rw [h20]; decide)) (fun _ => ?_)
      simp only [sX2_newPack_9, sX2_newPack_10n, Option.some.injEq, Sum.inr.injEq, Sum.inl.injEq, Prod.mk.injEq, true_and, and_true, exists_eq_left', exists_eq_left, exists_eq_right, exists_eq_right', exists_and_left, exists_and_right, List.getElem?_cons_succ, List.getElem?_cons_zero, List.length_cons, List.length_nil, List.set_cons_zero, List.set_cons_succ, Option.toList_some, Option.toList_none, List.nil_append, List.cons_append, mj_up_s, true_or, or_true, Nat.sub_zero, and_assoc, b10, not_true_eq_false, not_false_eq_true, false_implies, true_implies, implies_true, eq_self, and_self, rf_some, rf_none, sX2_raw_0, sX2_raw_1, sX2_raw_4, sX2_raw_5, sX2_raw_7, sX2_raw_10, sX2_raw_11, sX2_raw_14, sX2_raw_15, sX2_raw_18, sX2_raw_21, sX2_raw_23, sX2_raw_24, sX2_raw_25, sX2_raw_26, sX2_raw_30, sX2_raw_30n, sX2_raw_31, sX2_raw_31n, sX2_raw_32, sX2_raw_32n, sX2_raw_35, sX2_raw_37, sX2_raw_40, sX2_raw_40n, sX2_raw_41, sX2_raw_44]
      exact hQ _ n AD (Nat.le_refl _) (by omega) (KEEPA.rf hM hC)
    · rw [if_neg h20] at hQ
      refine sX2_raw_27 2 606 hO rfl hmc hms (m_newPack (by omega) (by show 65 ≤ w - 23; omega) hM hC hW (by omega) (by omega) (by omega) (fun h' hK hn => ?_))
      simp only [sX2_raw_0, sX2_raw_1, sX2_raw_4, sX2_raw_5, sX2_raw_7, sX2_raw_10, sX2_raw_11, sX2_raw_14, sX2_raw_15, sX2_raw_18, sX2_raw_21, sX2_raw_23, sX2_raw_24, sX2_raw_25, sX2_raw_26, sX2_raw_30, sX2_raw_30n, sX2_raw_31, sX2_raw_31n, sX2_raw_32, sX2_raw_32n, sX2_raw_35, sX2_raw_37, sX2_raw_40, sX2_raw_40n, sX2_raw_41, sX2_raw_44, hn, Option.some.injEq, Sum.inr.injEq, Sum.inl.injEq, Prod.mk.injEq, true_and, and_true, exists_eq_left', exists_eq_left, exists_eq_right, exists_eq_right', exists_and_left, exists_and_right, List.getElem?_cons_succ, List.getElem?_cons_zero, List.length_cons, List.length_nil, List.set_cons_zero, List.set_cons_succ, Option.toList_some, Option.toList_none, List.nil_append, List.cons_append, mj_up_s, true_or, or_true, Nat.sub_zero, and_assoc, b10, not_true_eq_false, not_false_eq_true, false_implies, true_implies, implies_true, eq_self, and_self, rf_some, rf_none]
      exact hQ _ (n + 2) _ (by omega) (by omega) hK
  · rw [if_neg hc] at hQ
    have := hQ _ n AD (Nat.le_refl _) (by omega) (KEEPA.rf hM hC)
    refine And.intro (fun _ => this) (fun c1 => And.intro (fun _ => this) (fun c2 => And.intro (fun _ => this) (fun c3 => And.intro (fun c4 => ?_) (fun _ => this))))
    exact absurd ⟨⟨by clear hQ hM hC hO hc this; (simp only [Int32.le_iff_toInt_le, Int32.lt_iff_toInt_lt, i32_eq, i32_0, i32_m1, i32_600, i32_60, i32_20, i32_99, i32_10, i32_1, i32_2] at *; omega), by clear hQ hM hC hO hc this; (simp only [Int32.le_iff_toInt_le, Int32.lt_iff_toInt_lt, i32_eq, i32_0, i32_m1, i32_600, i32_60, i32_20, i32_99, i32_10, i32_1, i32_2] at *; omega)⟩, by clear hQ hM hC hO hc this; (simp only [Int32.le_iff_toInt_le, Int32.lt_iff_toInt_lt, i32_eq, i32_0, i32_m1, i32_600, i32_60, i32_20, i32_99, i32_10, i32_1, i32_2] at *; omega), c4⟩ hc
set_option maxRecDepth 100000 in
theorem m_object (hf : 3 ≤ f) (hw : 63 ≤ w) (hM : MEM h n AD (VS S) C) (hC : CC S AD C) (hW : WF S) {k : Int32} (hmc : 2 ≤ mc) (hms : 67 ≤ ms) (hQ : ∀ h' n' AD', n ≤ n' → n' ≤ n + 2 → KEEPA AD S (op_object S k).2 C n' h' AD' → Q (some (.int (op_object S k).1)) h' n') : mj_bk f w 21 [.ref (AD 5 0), .int k] h n mc ms Q := by
  obtain ⟨plc, c1⟩ := id hC.1
  obtain ⟨g, e1, e2⟩ := id hC.2.1
  have hO := hM.1 5 0 rfl
  have hA := hM.1 0 0 (show 0 < 6 by omega)
  rw [c1] at hO
  rw [e1] at hA
  have lO := hM.2.2 5 0 rfl
  have lA := hM.2.2 0 0 (show 0 < 6 by omega)
  have nOA : AD 5 0 ≠ AD 0 0 := cell_neA hO hA
  have w1 := hW.1
  refine mj_begin (by omega) (by decide) (by show 22 ≤ w; omega) rfl ?_
  show mj_W _ _ 21 mj_noZ Q 0 [.ref (AD 5 0), .int k, .retAddr 0] [] h n mc ms
  unfold op_object at hQ
  -- behind the question
  have tail : ∀ kd : Nat, kd ≤ 1 → (∀ h' n' AD', n ≤ n' → n' ≤ n + 2 → KEEPA AD S (if S_no S = 60 then ((-4 : Int32), S) else (nI (S_no S), st_obj S kd)).2 C n' h' AD' → Q (some (.int (if S_no S = 60 then ((-4 : Int32), S) else (nI (S_no S), st_obj S kd)).1)) h' n') → mj_W (f - 1) (w - (19 + mj_maxL 21)) 21 mj_noZ Q 12 [.ref (AD 5 0), .int (nI kd), .retAddr 0] [] h n mc ms := by
    intro kd hkd hQ
    have n1 : AD 5 0 ≠ n := by omega
    have n2 : AD 0 0 ≠ n := by omega
    have n3 : AD 5 0 ≠ n + 1 := by omega
    have n4 : AD 0 0 ≠ n + 1 := by omega
    by_cases h60 : S_no S = 60
    · rw [if_pos h60] at hQ
      simp only [sX2_object_12, sX2_object_13, hO, Option.some.injEq, Sum.inr.injEq, Sum.inl.injEq, Prod.mk.injEq, true_and, and_true, exists_eq_left', exists_eq_left, exists_eq_right, exists_eq_right', exists_and_left, exists_and_right, List.getElem?_cons_succ, List.getElem?_cons_zero, List.length_cons, List.length_nil, List.set_cons_zero, List.set_cons_succ, Option.toList_some, Option.toList_none, List.nil_append, List.cons_append, mj_up_s, true_or, or_true, Nat.sub_zero, and_assoc, b10, not_true_eq_false, not_false_eq_true, false_implies, true_implies, implies_true, eq_self, and_self, rf_some, rf_none, sX2_object_16, sX2_object_18]
      refine And.intro (fun c1 => absurd c1 (by rw [h60]; decide)) (fun _ => ?_)
      simp only [sX2_object_21, sX2_object_23]
      exact hQ _ n AD (Nat.le_refl _) (by omega) (KEEPA.rf hM hC)
    · rw [if_neg h60] at hQ
      simp only [sX2_object_0, sX2_object_1, sX2_object_4, sX2_object_5, sX2_object_6, sX2_object_9, sX2_object_11, sX2_object_12, sX2_object_13, sX2_object_16, sX2_object_18, sX2_object_21, sX2_object_23, sX2_object_24, sX2_object_25, sX2_object_28, sX2_object_29, sX2_object_30, sX2_object_33, sX2_object_34, sX2_object_37, sX2_object_38, sX2_object_39, sX2_object_43, sX2_object_44, sX2_object_45, sX2_object_46, sX2_object_49, sX2_object_50, sX2_object_51, sX2_object_54, sX2_object_55, hO, Option.some.injEq, Sum.inr.injEq, Sum.inl.injEq, Prod.mk.injEq, true_and, and_true, exists_eq_left', exists_eq_left, exists_eq_right, exists_eq_right', exists_and_left, exists_and_right, List.getElem?_cons_succ, List.getElem?_cons_zero, List.length_cons, List.length_nil, List.set_cons_zero, List.set_cons_succ, Option.toList_some, Option.toList_none, List.nil_append, List.cons_append, mj_up_s, true_or, or_true, Nat.sub_zero, and_assoc, b10, not_true_eq_false, not_false_eq_true, false_implies, true_implies, implies_true, eq_self, and_self, rf_some, rf_none]
      refine And.intro (fun _ => And.intro (by omega) (And.intro (by show 7 ≤ ms; omega) ?_)) (fun c => absurd (show nI (S_no S) < nI 60 from nI_lt (by omega) (by decide)) c)
      refine sX2_object_40 1 60 mj_up_s rfl (by omega) (by show 60 ≤ ms - 7; omega) (c_iinit (by omega) (by show 41 ≤ w - 22; omega) (by omega) (by omega) mj_up_s (by omega) ?_)
      have z : nI (S_no S) + 1 = nI (S_no S + 1) := nI_1 _
      have r1 : ∀ A B D : mj_C, mj_up (mj_up (mj_up h n A) (n + 1) B) n D (AD 5 0) = some (OSc AD S plc) := fun A B D => by rw [mj_up_n n1, mj_up_n n3, mj_up_n n1]; exact hO
      have r2 : ∀ A B D : mj_C, mj_up (mj_up (mj_up h n A) (n + 1) B) n D (AD 0 0) = some (.inl (.object (mj_R 0), 60, .inr (.inr (.inr (.inr g))))) := fun A B D => by rw [mj_up_n n2, mj_up_n n4, mj_up_n n2]; exact hA
      simp only [sX2_object_0, sX2_object_1, sX2_object_4, sX2_object_5, sX2_object_6, sX2_object_9, sX2_object_11, sX2_object_12, sX2_object_13, sX2_object_16, sX2_object_18, sX2_object_21, sX2_object_23, sX2_object_24, sX2_object_25, sX2_object_28, sX2_object_29, sX2_object_30, sX2_object_33, sX2_object_34, sX2_object_37, sX2_object_38, sX2_object_39, sX2_object_44, sX2_object_45, sX2_object_46, sX2_object_49, sX2_object_50, sX2_object_51, sX2_object_54, sX2_object_55, r1, r2, Option.some.injEq, Sum.inr.injEq, Sum.inl.injEq, Prod.mk.injEq, true_and, and_true, exists_eq_left', exists_eq_left, exists_eq_right, exists_eq_right', exists_and_left, exists_and_right, List.getElem?_cons_succ, List.getElem?_cons_zero, List.length_cons, List.length_nil, List.set_cons_zero, List.set_cons_succ, Option.toList_some, Option.toList_none, List.nil_append, List.cons_append, mj_up_s, true_or, or_true, Nat.sub_zero, and_assoc, b10, not_true_eq_false, not_false_eq_true, false_implies, true_implies, implies_true, eq_self, and_self, rf_some, rf_none]
      rw [sX2_object_43]
      refine ⟨0, _, 60, g, r2 _ _ _, by omega, mj_up_s, vp_in_nI (by omega) (by decide), ?_⟩
      rw [nI_cl (show S_no S < 2147483648 by omega)]
      simp only [sX2_object_0, sX2_object_1, sX2_object_4, sX2_object_5, sX2_object_6, sX2_object_9, sX2_object_11, sX2_object_12, sX2_object_13, sX2_object_16, sX2_object_18, sX2_object_21, sX2_object_23, sX2_object_24, sX2_object_25, sX2_object_28, sX2_object_29, sX2_object_30, sX2_object_33, sX2_object_34, sX2_object_37, sX2_object_38, sX2_object_39, sX2_object_43, sX2_object_44, sX2_object_45, sX2_object_46, sX2_object_49, sX2_object_50, sX2_object_51, sX2_object_54, sX2_object_55, mj_up_n nOA, r1, nfr_2_0, ffr_2_0, nfu_2_0, ffu_2_0, nfi_2_1, ffi_2_1, nfr_2_2, ffr_2_2, nfu_2_2, ffu_2_2, nfi_2_3, ffi_2_3, nfr_2_4, ffr_2_4, nfu_2_4, ffu_2_4, nfr_2_5, ffr_2_5, nfu_2_5, ffu_2_5, nfi_2_6, ffi_2_6, nfr_2_7, ffr_2_7, nfu_2_7, ffu_2_7, nfi_2_8, ffi_2_8, nfr_2_9, ffr_2_9, nfu_2_9, ffu_2_9, Option.some.injEq, Sum.inr.injEq, Sum.inl.injEq, Prod.mk.injEq, true_and, and_true, exists_eq_left', exists_eq_left, exists_eq_right, exists_eq_right', exists_and_left, exists_and_right, List.getElem?_cons_succ, List.getElem?_cons_zero, List.length_cons, List.length_nil, List.set_cons_zero, List.set_cons_succ, Option.toList_some, Option.toList_none, List.nil_append, List.cons_append, mj_up_s, true_or, or_true, Nat.sub_zero, and_assoc, b10, not_true_eq_false, not_false_eq_true, false_implies, true_implies, implies_true, eq_self, and_self, rf_some, rf_none, z]
      refine And.intro (by decide) ?_
      have hnv3 : ¬ VS S 1 (S_no S) := fun e => by have e : S_no S < S_no S := e; omega
      have A1 := hM.add (k := 1) (i := S_no S) (c := .inr (0, mj_new 0)) (V' := fun a b => VS S a b ∨ (a = 1 ∧ b = S_no S)) hnv3 (fun a b hab => hab)
      have A2 := A1.add (k := 2) (i := S_no S) (c := BYc 60 (fun _ => 0)) (V' := VS (st_obj S kd)) (fun e => by
        rcases e with e | ⟨e, -⟩
        · have e : S_no S < S_no S := e; omega
        · omega) (fun a b hab => by
        rcases VS_obj hab with e | e | e
        · exact Or.inl (Or.inl e)
        · exact Or.inl (Or.inr e)
        · exact Or.inr e)
      have A3 := A2.put (k := 1) (i := S_no S) (c := ITc (S_no S) kd (n + 1) 0 .null 0 0) (show S_no S < S_no (st_obj S kd) by rw [st_obj_no]; omega)
      have A4 := A3.put (k := 0) (i := 0) (c := .inl (.object (mj_R 0), 60, .inr (.inr (.inr (.inr (va_up g (S_no S) (some n))))))) (show 0 < 6 by omega)
      have A5 := A4.put (k := 5) (i := 0) (c := OSc AD (st_obj S kd) plc) rfl
      rw [show Au (Au AD 1 (S_no S) n) 2 (S_no S) (n + 1) 1 (S_no S) = n by rw [Au_k (by decide), Au_s], show Au (Au AD 1 (S_no S) n) 2 (S_no S) (n + 1) 0 0 = AD 0 0 by rw [Au_k (by decide), Au_k (by decide)], show Au (Au AD 1 (S_no S) n) 2 (S_no S) (n + 1) 5 0 = AD 5 0 by rw [Au_k (by decide), Au_k (by decide)]] at A5
      have hOS : OSc AD (st_obj S kd) plc = .inr (2, [.ref (AD 0 0), .int (nI (S_no S + 1)), .ref (AD 0 1), .int (nI (S_np S)), .ref (AD 0 2), .ref (AD 0 3), .int (nI (S_nt S)), .ref (AD 0 4), .int plc, .ref (AD 0 5)]) := by
        simp only [OSc, st_obj_no, show S_np (st_obj S kd) = S_np S from st_obj_o (by omega) (by omega), show S_nt (st_obj S kd) = S_nt S from st_obj_o (by omega) (by omega)]
      refine hQ _ (n + 2) _ (by omega) (by omega) ⟨fun k i hki => ?_, _, ?_, CC_obj (n := n) (plc := plc) hC e2 (C' := Cu (Cu (Cu (Cu (Cu C 1 (S_no S) (.inr (0, mj_new 0))) 2 (S_no S) (BYc 60 (fun _ => 0))) 1 (S_no S) (ITc (S_no S) kd (n + 1) 0 .null 0 0)) 0 0 (.inl (.object (mj_R 0), 60, .inr (.inr (.inr (.inr (va_up g (S_no S) (some n)))))))) 5 0 (OSc AD (st_obj S kd) plc)) (fun a b h1 h2 h3 h4 => ?_) ?_ ?_ ?_ ?_, fun a b ha => ?_⟩
      · have : ¬ (k = 1 ∧ i = S_no S) := fun e => by obtain ⟨rfl, rfl⟩ := e; exact hnv3 hki
        have : ¬ (k = 2 ∧ i = S_no S) := fun e => by obtain ⟨rfl, rfl⟩ := e; have e : S_no S < S_no S := hki; omega
        simp [Au, *]
      · rw [hOS] at A5 ⊢; exact A5
      · simp [Cu, h1, h2, h3, h4]
      · rw [Cu_k (by decide), Cu_k (by decide), Cu_s]
      · rw [Cu_k (by decide), Cu_k (by decide), Cu_k (by decide), Cu_s]
      · rw [Cu_k (by decide), Cu_s]
      · rw [Cu_s]
      · rw [Cu_k (by omega), Cu_k (by omega), Cu_k (by omega), Cu_k (by omega), Cu_k (by omega)]
  rw [sX2_object_0, sX2_object_1]
  refine And.intro (fun c1 => ?_) (fun c1 => ?_)
  · subst c1
    rw [if_pos (Or.inl rfl)] at hQ
    exact tail 0 (by omega) hQ
  · rw [sX2_object_4, sX2_object_5, sX2_object_6]
    refine And.intro (fun c2 => ?_) (fun c2 => ?_)
    · subst c2
      rw [if_pos (Or.inr rfl)] at hQ
      exact tail 1 (by omega) hQ
    · rw [if_neg (fun z => z.elim c1 c2)] at hQ
      simp only [sX2_object_9, sX2_object_11]
      exact hQ _ n AD (Nat.le_refl _) (by omega) (KEEPA.rf hM hC)
end
