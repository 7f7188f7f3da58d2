/-! ===== what every call keeps ===== -/
def nxC (S : St) : Nat → Nat
  | 0 => 0
  | q + 1 => S_ex S q
def itC (S : St) : Nat → Nat → Nat
  | r, 0 => r
  | r, k + 1 => itC S (nxC S r) k
theorem chEnd_it {S : St} : ∀ m r, chEnd S r m = decide (itC S r m = 0)
  | 0, r => by cases r <;> rfl
  | m + 1, 0 => by
    have : ∀ k, itC S 0 k = 0 := fun k => by
      induction k with
      | zero => rfl
      | succ k ih => exact ih
    show true = decide (itC S 0 m = 0)
    rw [this]; rfl
  | m + 1, q + 1 => chEnd_it m (S_ex S q)
theorem itC_0 {S : St} : ∀ k, itC S 0 k = 0
  | 0 => rfl
  | k + 1 => itC_0 k
theorem itC_add {S : St} : ∀ k j r, itC S r (k + j) = itC S (itC S r k) j
  | 0, j, r => by rw [Nat.zero_add]; rfl
  | k + 1, j, r => by rw [show k + 1 + j = (k + j) + 1 by omega]; exact itC_add k j (nxC S r)
theorem itC_le {S : St} {N : Nat} (hx : ∀ q, q < N → S_ex S q ≤ N) : ∀ k r, r ≤ N → itC S r k ≤ N
  | 0, r, h => h
  | k + 1, r, h => by
    refine itC_le hx k _ ?_
    cases r with
    | zero => exact Nat.zero_le _
    | succ q => exact hx q (by omega)
theorem php : ∀ N m (f : Nat → Nat), (∀ i, i < m → f i < N) → (∀ i j, i < m → j < m → f i = f j → i = j) → m ≤ N
  | 0, m, f, h1, _ => by
    cases m with
    | zero => exact Nat.le_refl _
    | succ m => exact absurd (h1 0 (by omega)) (Nat.not_lt_zero _)
  | N + 1, 0, f, _, _ => Nat.zero_le _
  | N + 1, m + 1, f, h1, h2 => by
    have := php N m (fun i => if f i = N then f m else f i) (fun i hi => ?_) (fun i j hi hj e => ?_)
    · omega
    · show (if f i = N then f m else f i) < N
      have a := h1 i (by omega)
      have b := h1 m (by omega)
      split
      · rename_i c
        have : f m ≠ N := fun z => by have := h2 i m (by omega) (by omega) (c.trans z.symm); omega
        omega
      · omega
    · have e : (if f i = N then f m else f i) = (if f j = N then f m else f j) := e
      split at e <;> split at e
      · rename_i c d; exact h2 i j (by omega) (by omega) (c.trans d.symm)
      · have := h2 m j (by omega) (by omega) e; omega
      · have := h2 i m (by omega) (by omega) e; omega
      · exact h2 i j (by omega) (by omega) e
theorem itC_end {S : St} {N : Nat} (hx : ∀ q, q < N → S_ex S q ≤ N) {r : Nat} (hr : r ≤ N) : ∀ M, itC S r M = 0 → itC S r N = 0
  | 0, h => by
    have h : r = 0 := h
    subst h; exact itC_0 N
  | M + 1, h => by
    by_cases hle : M + 1 ≤ N
    · rw [show N = M + 1 + (N - (M + 1)) by omega, itC_add, h]; exact itC_0 _
    · by_cases hM : itC S r M = 0
      · exact itC_end hx hr M hM
      · exfalso
        have nz : ∀ i, i ≤ M → itC S r i ≠ 0 := fun i hi e => by
          apply hM
          rw [show M = i + (M - i) by omega, itC_add, e]; exact itC_0 _
        have := php N (M + 1) (fun i => itC S r i - 1) (fun i hi => ?_) (fun i j hi hj e => ?_)
        · omega
        · have a := nz i (by omega)
          have b := itC_le hx i r hr
          show itC S r i - 1 < N
          omega
        · have a := nz i (by omega)
          have b := nz j (by omega)
          have e : itC S r i - 1 = itC S r j - 1 := e
          have e : itC S r i = itC S r j := by omega
          have key : ∀ i j, i < j → j ≤ M → itC S r i = itC S r j → False := fun i j hij hj e => by
            have q : itC S r (i + (M + 1 - j)) = 0 := by
              rw [itC_add, e, ← itC_add, show j + (M + 1 - j) = M + 1 by omega]; exact h
            exact nz (i + (M + 1 - j)) (by omega) q
          rcases Nat.lt_trichotomy i j with q | q | q
          · exact (key i j q (by omega) e).elim
          · exact q
          · exact (key j i q (by omega) e.symm).elim
theorem ACY_of {S : St} (hW : WF S) (h : ∀ r, r ≤ S_np S → ∃ M, itC S r M = 0) : ACY S := fun r hr => by
  have hx : ∀ q, q < S_np S → S_ex S q ≤ S_np S := fun q hq => (hW.2.2.2.2.2 q hq).2
  have w2 := hW.2.1
  obtain ⟨M, hM⟩ := h r hr
  have := itC_end hx hr M hM
  rw [chEnd_it, show (20 : Nat) = S_np S + (20 - S_np S) by omega, itC_add, this, itC_0]; rfl
theorem ACY.it {S : St} (h : ACY S) {r : Nat} (hr : r ≤ S_np S) : itC S r 20 = 0 := by
  have := h r hr
  rw [chEnd_it] at this
  exact of_decide_eq_true this
theorem itC_congr {S S' : St} {N : Nat} (hx : ∀ q, q < N → S_ex S q ≤ N) (he : ∀ q, q < N → S_ex S' q = S_ex S q) : ∀ k r, r ≤ N → itC S' r k = itC S r k
  | 0, r, _ => rfl
  | k + 1, 0, _ => (itC_0 _).trans (itC_0 _).symm
  | k + 1, q + 1, h => by
    show itC S' (S_ex S' q) k = itC S (S_ex S q) k
    rw [he q (by omega)]
    exact itC_congr hx he k _ (hx q (by omega))
theorem ACY_same {S S' : St} (hE : ACY S) (hW : WF S) (hW' : WF S') (hn : S_np S' = S_np S) (he : ∀ q, q < S_np S → S_ex S' q = S_ex S q) : ACY S' := by
  have hx : ∀ q, q < S_np S → S_ex S q ≤ S_np S := fun q hq => (hW.2.2.2.2.2 q hq).2
  exact ACY_of hW' (fun r hr => ⟨20, by rw [hn] at hr; rw [itC_congr hx he _ _ hr]; exact hE.it hr⟩)
theorem ACY_more {S S' : St} (hE : ACY S) (hW : WF S) (hW' : WF S') (hn : S_np S' = S_np S + 1) (he : ∀ q, q < S_np S → S_ex S' q = S_ex S q) (h0 : S_ex S' (S_np S) = 0) : ACY S' := by
  have hx : ∀ q, q < S_np S → S_ex S q ≤ S_np S := fun q hq => (hW.2.2.2.2.2 q hq).2
  refine ACY_of hW' (fun r hr => ?_)
  by_cases e : r = S_np S + 1
  · subst e
    refine ⟨1, ?_⟩
    exact h0
  · exact ⟨20, by rw [itC_congr hx he _ _ (by omega)]; exact hE.it (by omega)⟩
theorem leads_it {S : St} {t : Nat} : ∀ m r, leadsN S t r m = false → ∀ k, k < m → itC S r k ≠ t + 1
  | 0, r, _, k, hk => by omega
  | m + 1, 0, _, k, hk => by rw [itC_0]; omega
  | m + 1, q + 1, h, k, hk => by
    rw [show leadsN S t (q + 1) (m + 1) = if q = t then true else leadsN S t (S_ex S q) m from rfl] at h
    split at h
    · cases h
    · rename_i c
      cases k with
      | zero => show q + 1 ≠ t + 1; omega
      | succ k => exact leads_it m _ h k (by omega)
theorem ACY_ext {S : St} (hE : ACY S) (hW : WF S) {i r0 : Nat} (hi : i < S_np S) (hr0 : r0 ≤ S_np S) (hl : leadsN S i r0 20 = false) {S' : St} (hW' : WF S') (hn : S_np S' = S_np S) (he : ∀ q, q < S_np S → q ≠ i → S_ex S' q = S_ex S q) (hi' : S_ex S' i = r0) : ACY S' := by
  have hx : ∀ q, q < S_np S → S_ex S q ≤ S_np S := fun q hq => (hW.2.2.2.2.2 q hq).2
  have hni : ∀ k, itC S r0 k ≠ i + 1 := fun k => by
    by_cases hk : k < 20
    · exact leads_it 20 r0 hl k hk
    · rw [show k = 20 + (k - 20) by omega, itC_add, hE.it hr0, itC_0]; omega
  have a : ∀ k r, r ≤ S_np S → (∀ j, itC S r j ≠ i + 1) → itC S' r k = itC S r k := by
    intro k
    induction k with
    | zero => intro r _ _; rfl
    | succ k ih =>
      intro r hr hj
      cases r with
      | zero => exact (itC_0 _).trans (itC_0 _).symm
      | succ q =>
        have hqi : q ≠ i := fun e => hj 0 (by show q + 1 = i + 1; omega)
        show itC S' (S_ex S' q) k = itC S (S_ex S q) k
        rw [he q (by omega) hqi]
        exact ih _ (hx q (by omega)) (fun j => hj (j + 1))
  have b : ∀ M r, r ≤ S_np S → itC S r M = 0 → ∃ M', itC S' r M' = 0 := by
    intro M
    induction M with
    | zero => intro r _ h; exact ⟨0, h⟩
    | succ M ih =>
      intro r hr h
      cases r with
      | zero => exact ⟨0, rfl⟩
      | succ q =>
        by_cases hqi : q = i
        · subst hqi
          refine ⟨21, ?_⟩
          show itC S' (S_ex S' q) 20 = 0
          rw [hi', a 20 r0 hr0 hni]; exact hE.it hr0
        · obtain ⟨M', hM'⟩ := ih (S_ex S q) (hx q (by omega)) h
          refine ⟨M' + 1, ?_⟩
          show itC S' (S_ex S' q) M' = 0
          rw [he q (by omega) hqi]; exact hM'
  exact ACY_of hW' (fun r hr => b 20 r (by omega) (hE.it (by omega)))
theorem S_cb_lt {S : St} {p : Nat} (hb : ∀ j, S_pb S p j < 256) : ∀ k j, S_cb S p k j < 256
  | 0, j => hb _
  | k + 1, j => by
    unfold S_cb
    split
    · exact S_cb_lt hb k j
    · exact hb _
/-- both -/
def OK (S : St) : Prop := WF S ∧ ACY S
theorem OK.item {S S' : St} (h : OK S) {i : Nat} (hS : sameBut S S' 1 5 i) (hW' : WF S') : OK S' :=
  ⟨hW', ACY_same h.2 h.1 hW' (hS 6 0 0 (by omega)) (fun q _ => hS 9 q 0 (by omega))⟩
theorem OK_object {S : St} (h : OK S) (k : Int32) : OK (op_object S k).2 := by
  unfold op_object
  split
  · rename_i hk
    split
    · exact h
    · rename_i h60
      have w1 := h.1.1
      have hkd : k.toNatClampNeg ≤ 1 := by rcases hk with rfl | rfl <;> decide
      generalize k.toNatClampNeg = kd at hkd ⊢
      have e : ∀ r a b, ¬ (r = 0 ∧ a = 0 ∧ b = 0) → ¬ (1 ≤ r ∧ r ≤ 5 ∧ a = S_no S) → st_obj S kd r a b = S r a b := fun r a b => st_obj_o
      obtain ⟨v1, v2, v3, v4, v5, v6⟩ := h.1
      have hW' : WF (st_obj S kd) := by
        refine ⟨by rw [st_obj_no]; omega, by rw [show S_np (st_obj S kd) = S_np S from e 6 0 0 (by omega) (by omega)]; exact v2, by rw [show S_nt (st_obj S kd) = S_nt S from e 12 0 0 (by omega) (by omega)]; exact v3, fun j hj => ?_, fun a j => ?_, fun p hp => ?_⟩
        · rw [st_obj_no] at hj
          by_cases ej : j = S_no S
          · subst ej
            rw [show S_kd (st_obj S kd) (S_no S) = kd from (st_obj_p (by omega)).trans S_item_kd, show S_sz (st_obj S kd) (S_no S) = 0 from (st_obj_p (by omega)).trans S_item_sz, show S_pk (st_obj S kd) (S_no S) = 0 from (st_obj_p (by omega)).trans S_item_pk, show S_ix (st_obj S kd) (S_no S) = 0 from (st_obj_p (by omega)).trans S_item_ix]
            exact ⟨hkd, by omega, by omega, by omega, fun z => absurd rfl z⟩
          · rw [show S_kd (st_obj S kd) j = S_kd S j from e 1 j 0 (by omega) (by omega), show S_sz (st_obj S kd) j = S_sz S j from e 2 j 0 (by omega) (by omega), show S_pk (st_obj S kd) j = S_pk S j from e 4 j 0 (by omega) (by omega), show S_ix (st_obj S kd) j = S_ix S j from e 5 j 0 (by omega) (by omega), show S_np (st_obj S kd) = S_np S from e 6 0 0 (by omega) (by omega)]
            exact v4 j (by omega)
        · by_cases ej : a = S_no S
          · subst ej
            rw [show S_by (st_obj S kd) (S_no S) j = 0 from (st_obj_p (by omega)).trans S_item_by]; omega
          · rw [show S_by (st_obj S kd) a j = S_by S a j from e 3 a j (by omega) (by omega)]; exact v5 a j
        · rw [show S_np (st_obj S kd) = S_np S from e 6 0 0 (by omega) (by omega)] at hp ⊢
          have := v6 p hp
          refine ⟨⟨?_, ?_, ?_, fun j => ?_⟩, ?_⟩
          · rw [show S_ct (st_obj S kd) p = S_ct S p from e 7 p 0 (by omega) (by omega)]; exact this.1.1
          · rw [show S_fs (st_obj S kd) p = S_fs S p from e 8 p 0 (by omega) (by omega)]; exact this.1.2.1
          · rw [show S_pz (st_obj S kd) p = S_pz S p from e 10 p 0 (by omega) (by omega)]; exact this.1.2.2.1
          · rw [show S_pb (st_obj S kd) p j = S_pb S p j from e 11 p j (by omega) (by omega)]; exact this.1.2.2.2 j
          · rw [show S_ex (st_obj S kd) p = S_ex S p from e 9 p 0 (by omega) (by omega)]; exact this.2
      exact ⟨hW', ACY_same h.2 h.1 hW' (e 6 0 0 (by omega) (by omega)) (fun q _ => e 9 q 0 (by omega) (by omega))⟩
  · exact h
theorem OK_put {S : St} (h : OK S) (o : Int32) {c : Nat} (hc : c < 256) : OK (op_put S o c).2 := by
  unfold op_put
  split
  · rename_i ho
    obtain ⟨i, rfl, j1, j2⟩ := cl_iff.mp ho
    rw [nI_cl j1]
    split
    · exact h
    · split
      · exact h
      · rename_i hp hz
        obtain ⟨u1, u2, u3, u4, u5⟩ := h.1.2.2.2.1 i j2
        refine h.item S_item_same (WF_item h.1 S_item_same ?_ ?_ ?_ ?_ (fun z => absurd S_item_pk z) (fun j => ?_))
        · rw [S_item_kd]; exact u1
        · rw [S_item_sz]; omega
        · rw [S_item_pk]; omega
        · rw [S_item_ix]; exact u4
        · rw [S_item_by]
          unfold updN
          split
          · exact hc
          · exact h.1.2.2.2.2.1 i j
  · exact h
theorem OK_row {S : St} (h : OK S) (o p x : Int32) : OK (op_row S o p x).2 := by
  unfold op_row
  split
  · rename_i hc
    obtain ⟨ho, hp, hk, h0, h99⟩ := hc
    obtain ⟨i, rfl, j1, j2⟩ := cl_iff.mp ho
    obtain ⟨q, rfl, q1, q2⟩ := cl_iff.mp hp
    rw [nI_cl j1] at hk ⊢
    rw [nI_cl q1]
    obtain ⟨t, t1, rfl, t3⟩ := i32_of (x := x) (by clear ho hp; (simp only [Int32.le_iff_toInt_le, Int32.lt_iff_toInt_lt, i32_eq, i32_0, i32_m1, i32_600, i32_60, i32_20, i32_99, i32_10, i32_1, i32_2] at *; omega))
    rw [nI_cl t1]
    have ht99 : t ≤ 99 := by clear ho hp; (simp only [Int32.le_iff_toInt_le, Int32.lt_iff_toInt_lt, i32_eq, i32_0, i32_m1, i32_600, i32_60, i32_20, i32_99, i32_10, i32_1, i32_2] at *; omega)
    obtain ⟨u1, u2, u3, u4, u5⟩ := h.1.2.2.2.1 i j2
    refine h.item S_item_same (WF_item h.1 S_item_same ?_ ?_ ?_ ?_ (fun z => ⟨S_item_sz, ?_⟩) (fun j => ?_))
    · rw [S_item_kd]; exact u1
    · rw [S_item_sz]; omega
    · rw [S_item_pk]; omega
    · rw [S_item_ix]; exact ht99
    · rw [S_item_kd]; omega
    · rw [S_item_by]; exact h.1.2.2.2.2.1 i j
  · exact h
theorem OK_change {S : St} (h : OK S) (o : Int32) : OK (op_change S o).2 := by
  unfold op_change
  split
  · rename_i ho
    obtain ⟨i, rfl, j1, j2⟩ := cl_iff.mp ho
    rw [nI_cl j1]
    obtain ⟨u1, u2, u3, u4, u5⟩ := h.1.2.2.2.1 i j2
    split
    · exact h
    · split
      · refine h.item S_item_same (WF_item h.1 S_item_same ?_ ?_ ?_ ?_ (fun z => absurd S_item_pk z) (fun j => ?_))
        · rw [S_item_kd]; exact u1
        · rw [S_item_sz]; omega
        · rw [S_item_pk]; omega
        · rw [S_item_ix]; exact u4
        · rw [S_item_by]; exact h.1.2.2.2.2.1 i j
      · split
        · exact h
        · rename_i hL
          refine h.item S_item_same (WF_item h.1 S_item_same ?_ ?_ ?_ ?_ (fun z => absurd S_item_pk z) (fun j => ?_))
          · rw [S_item_kd]; exact u1
          · rw [S_item_sz]; omega
          · rw [S_item_pk]; omega
          · rw [S_item_ix]; exact u4
          · rw [S_item_by]
            unfold S_byte
            split
            · exact h.1.2.2.2.2.1 i j
            · rename_i hpz
              exact S_cb_lt (h.1.2.2.2.2.2 (S_pk S i - 1) (by omega)).1.2.2.2 _ j
  · exact h
theorem OK_raw {S : St} (h : OK S) (c fi : Int32) : OK (op_raw S c fi).2 := by
  unfold op_raw
  split
  · rename_i hc
    split
    · exact h
    · rename_i h20
      obtain ⟨⟨c0, c1⟩, c2, c3⟩ := hc
      obtain ⟨u, u1, rfl, u3⟩ := i32_of (x := c) (by (simp only [Int32.le_iff_toInt_le, Int32.lt_iff_toInt_lt, i32_eq, i32_0, i32_m1, i32_600, i32_60, i32_20, i32_99, i32_10, i32_1, i32_2] at *; omega))
      obtain ⟨v, v1, rfl, v3⟩ := i32_of (x := fi) (by (simp only [Int32.le_iff_toInt_le, Int32.lt_iff_toInt_lt, i32_eq, i32_0, i32_m1, i32_600, i32_60, i32_20, i32_99, i32_10, i32_1, i32_2] at *; omega))
      have hu : u ≤ 99 := by (simp only [Int32.le_iff_toInt_le, Int32.lt_iff_toInt_lt, i32_eq, i32_0, i32_m1, i32_600, i32_60, i32_20, i32_99, i32_10, i32_1, i32_2] at *; omega)
      have hv : v ≤ 600 := by (simp only [Int32.le_iff_toInt_le, Int32.lt_iff_toInt_lt, i32_eq, i32_0, i32_m1, i32_600, i32_60, i32_20, i32_99, i32_10, i32_1, i32_2] at *; omega)
      rw [nI_cl u1, nI_cl v1]
      have w2 := h.1.2.1
      have hW' : WF (st_raw S u v) := WF_more h.1 (by omega) st_raw_np (fun r a b => st_raw_o)
        (by rw [show S_ct (st_raw S u v) (S_np S) = u from (st_raw_p (by omega)).trans S_pack_ct]; omega)
        (by rw [show S_fs (st_raw S u v) (S_np S) = v from (st_raw_p (by omega)).trans S_pack_fs]; omega)
        (by rw [show S_ex (st_raw S u v) (S_np S) = 0 from (st_raw_p (by omega)).trans S_pack_ex]; omega)
        (by rw [show S_pz (st_raw S u v) (S_np S) = 0 from (st_raw_p (by omega)).trans S_pack_pz]; omega)
        (fun j => by rw [show S_pb (st_raw S u v) (S_np S) j = 0 from (st_raw_p (by omega)).trans S_pack_pb]; omega)
      have hA : ACY (st_raw S u v) := ACY_more h.2 h.1 hW' st_raw_np (fun q hq => st_raw_o (by omega) (by omega)) ((st_raw_p (by omega)).trans S_pack_ex)
      exact ⟨hW', hA⟩
  · exact h
theorem OK_add {S : St} (h : OK S) (p : Int32) {c : Nat} (hc : c < 256) : OK (op_add S p c).2 := by
  unfold op_add
  split
  · rename_i hp
    obtain ⟨q, rfl, q1, q2⟩ := cl_iff.mp hp
    rw [nI_cl q1]
    split
    · exact h
    · rename_i hz
      obtain ⟨⟨a1, a2, a3, a4⟩, a5⟩ := h.1.2.2.2.2.2 q q2
      have hW' := WF_pack h.1 (S_pack_same (S := S) (p := q) (ct := S_ct S q) (fs := S_fs S q) (ex := S_ex S q) (pz := S_pz S q + 1) (pb := updN (S_pb S q) (S_pz S q) c)) (by rw [S_pack_ct]; exact a1) (by rw [S_pack_fs]; exact a2) (by rw [S_pack_ex]; exact a5) (by rw [S_pack_pz]; omega) (fun j => by
        rw [S_pack_pb]
        unfold updN
        split
        · exact hc
        · exact a4 j)
      have hS : sameBut S (S_pack S q (S_ct S q) (S_fs S q) (S_ex S q) (S_pz S q + 1) (updN (S_pb S q) (S_pz S q) c)) 7 11 q := S_pack_same
      have e9 : S_ex (S_pack S q (S_ct S q) (S_fs S q) (S_ex S q) (S_pz S q + 1) (updN (S_pb S q) (S_pz S q) c)) q = S_ex S q := S_pack_ex
      have hA : ACY (S_pack S q (S_ct S q) (S_fs S q) (S_ex S q) (S_pz S q + 1) (updN (S_pb S q) (S_pz S q) c)) := by
        refine ACY_same h.2 h.1 hW' (hS 6 0 0 (by omega)) (fun k hk => ?_)
        by_cases e : k = q
        · subst e; exact e9
        · exact hS 9 k 0 (by omega)
      exact ⟨hW', hA⟩
  · exact h
theorem OK_extend {S : St} (h : OK S) (p o : Int32) : OK (op_extend S p o).2 := by
  unfold op_extend
  split
  · rename_i hc
    obtain ⟨hp, ho⟩ := hc
    obtain ⟨q, rfl, q1, q2⟩ := cl_iff.mp hp
    rw [nI_cl q1]
    have hr0 : exr S o ≤ S_np S := by
      unfold exr
      split
      · omega
      · rcases ho with ho | ho
        · obtain ⟨t, rfl, t1, t2⟩ := cl_iff.mp ho
          rw [nI_cl t1]; omega
        · rename_i e; exact absurd ho e
    split
    · exact h
    · rename_i hl
      obtain ⟨⟨a1, a2, a3, a4⟩, a5⟩ := h.1.2.2.2.2.2 q q2
      have hW' := WF_pack h.1 (S_pack_same (S := S) (p := q) (ct := S_ct S q) (fs := S_fs S q) (ex := exr S o) (pz := S_pz S q) (pb := S_pb S q)) (by rw [S_pack_ct]; exact a1) (by rw [S_pack_fs]; exact a2) (by rw [S_pack_ex]; exact hr0) (by rw [S_pack_pz]; exact a3) (fun j => by rw [S_pack_pb]; exact a4 j)
      have hS : sameBut S (S_pack S q (S_ct S q) (S_fs S q) (exr S o) (S_pz S q) (S_pb S q)) 7 11 q := S_pack_same
      have hA : ACY (S_pack S q (S_ct S q) (S_fs S q) (exr S o) (S_pz S q) (S_pb S q)) := ACY_ext h.2 h.1 q2 hr0 (by simpa using hl) hW' (hS 6 0 0 (by omega)) (fun k hk e => hS 9 k 0 (by omega)) S_pack_ex
      exact ⟨hW', hA⟩
  · exact h
theorem OK_read {S : St} (h : OK S) (p : Int32) : OK (op_read S p).2 := by
  unfold op_read
  split
  · rename_i hp
    obtain ⟨q, rfl, q1, q2⟩ := cl_iff.mp hp
    rw [nI_cl q1]
    have hlo : sameLo S (rdN S q (S_ct S q)).2 := fun r a b hr => rdN_lo _ hr
    have hct := (h.1.2.2.2.2.2 q q2).1.1
    have hnt := rdN_nt (S := S) (p := q) (S_ct S q)
    have hW' := h.1.lo hlo (by omega)
    exact ⟨hW', ACY_same h.2 h.1 hW' (hlo 6 0 0 (by omega)) (fun k _ => hlo 9 k 0 (by omega))⟩
  · exact h
theorem OK_pack {S : St} (h : OK S) (mo : Int32) {F : PL} (hL : ∀ m, mo = nI m → 1 ≤ m → m ≤ 10 → Lay S m PL0 F) : OK (op_pack S mo F).2 := by
  unfold op_pack
  split
  · rename_i hc
    split
    · exact h
    · rename_i h20
      obtain ⟨most, t1, rfl, t3⟩ := i32_of (x := mo) (by clear hL; (simp only [Int32.le_iff_toInt_le, Int32.lt_iff_toInt_lt, i32_eq, i32_0, i32_m1, i32_600, i32_60, i32_20, i32_99, i32_10, i32_1, i32_2] at *; omega))
      have hm1 : 1 ≤ most := by clear hL; (simp only [Int32.le_iff_toInt_le, Int32.lt_iff_toInt_lt, i32_eq, i32_0, i32_m1, i32_600, i32_60, i32_20, i32_99, i32_10, i32_1, i32_2] at *; omega)
      have hm2 : most ≤ 10 := by clear hL; (simp only [Int32.le_iff_toInt_le, Int32.lt_iff_toInt_lt, i32_eq, i32_0, i32_m1, i32_600, i32_60, i32_20, i32_99, i32_10, i32_1, i32_2] at *; omega)
      have hLay := hL most rfl hm1 hm2
      have hI : INV S most F := hLay.inv hm1 (fun i hi => (h.1.2.2.2.1 i hi).2.1) INV0
      have all : ∀ k, k ≤ F.md → OK (wAll S F.od F.en k) := by
        intro k
        induction k with
        | zero => intro _; exact h
        | succ k ih =>
          intro hk
          have hWI := WI.all h.1 hI hm2 (by omega) k (by omega)
          have hWI' := WI.all h.1 hI hm2 (by omega) (k + 1) hk
          have ihk := ih (by omega)
          refine ⟨hWI'.1, ACY_more ihk.2 ihk.1 hWI'.1 (by rw [hWI'.2.2.1, hWI.2.2.1]; omega) (fun q hq => ?_) ?_⟩
          · exact (mvN_o _ (by omega)).trans (st_pk_o (by omega) (by omega))
          · exact (mvN_o _ (by omega)).trans ((st_pk_p (by omega)).trans S_pack_ex)
      exact all F.md (Nat.le_refl _)
  · exact h
