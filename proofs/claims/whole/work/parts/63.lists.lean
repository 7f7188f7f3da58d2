/-! ===== what pack writes, as lists; the states behind it ===== -/
def bLs (S : St) (o a : Nat) : Nat → List Nat
  | 0 => []
  | j + 1 => bLs S o a j ++ [S_by S o (a + j)]
def lP (S : St) (od : Nat → Nat) (s : Nat) : Nat → List Nat
  | 0 => []
  | m + 1 => lP S od s m ++ [od (s + m) / 256, od (s + m) % 256, plc S od s m / 256, plc S od s m % 256]
def lC (S : St) (od : Nat → Nat) (s : Nat) : Nat → List Nat
  | 0 => []
  | m + 1 => lC S od s m ++ ([sam S (lai od s (s + m)) (od (s + m)), un S (lai od s (s + m)) (od (s + m))] ++ bLs S (od (s + m)) (sam S (lai od s (s + m)) (od (s + m))) (un S (lai od s (s + m)) (od (s + m))))
def lW (S : St) (od : Nat → Nat) (s m : Nat) : List Nat := lP S od s m ++ lC S od s m
theorem bLs_len {S : St} {o a : Nat} : ∀ m, (bLs S o a m).length = m
  | 0 => rfl
  | m + 1 => by unfold bLs; rw [List.length_append, bLs_len m]; rfl
theorem lP_len {S : St} {od : Nat → Nat} {s : Nat} : ∀ m, (lP S od s m).length = 4 * m
  | 0 => rfl
  | m + 1 => by unfold lP; rw [List.length_append, lP_len m]; show 4 * m + 4 = _; omega
theorem lC_len {S : St} {od : Nat → Nat} {s : Nat} : ∀ m, (lC S od s m).length = plc S od s m
  | 0 => rfl
  | m + 1 => by unfold lC plc; rw [List.length_append, List.length_append, lC_len m, bLs_len]; show _ + (2 + _) = _; omega
theorem lW_len {S : St} {od : Nat → Nat} {s m : Nat} : (lW S od s m).length = 4 * m + plc S od s m := by unfold lW; rw [List.length_append, lP_len, lC_len]
theorem bLs_lt {S : St} {o a : Nat} (hb : ∀ j, S_by S o j < 256) : ∀ m x, x ∈ bLs S o a m → x < 256
  | 0, x, h => by cases h
  | m + 1, x, h => by
    unfold bLs at h
    rcases List.mem_append.mp h with h | h
    · exact bLs_lt hb m x h
    · obtain rfl := List.mem_singleton.mp h; exact hb _
theorem lP_lt {S : St} {od : Nat → Nat} {s : Nat} : ∀ m, (∀ i, s ≤ i → i < s + m → od i < 65536) → plc S od s m < 65536 → ∀ x, x ∈ lP S od s m → x < 256
  | 0, _, _, x, h => by cases h
  | m + 1, ho, hp, x, h => by
    have hpm : plc S od s m < 65536 := by unfold plc at hp; omega
    unfold lP at h
    rcases List.mem_append.mp h with h | h
    · exact lP_lt m (fun i h1 h2 => ho i h1 (by omega)) hpm x h
    · have := ho (s + m) (by omega) (by omega)
      simp only [List.mem_cons, List.not_mem_nil, or_false] at h
      omega
theorem lC_lt {S : St} {od : Nat → Nat} {s : Nat} (hb : ∀ i j, S_by S i j < 256) : ∀ m, (∀ i, s ≤ i → i < s + m → S_sz S (od i) ≤ 60) → ∀ x, x ∈ lC S od s m → x < 256
  | 0, _, x, h => by cases h
  | m + 1, ho, x, h => by
    unfold lC at h
    have hz := ho (s + m) (by omega) (by omega)
    have h1 := sam_le (S := S) (la := lai od s (s + m)) (o := od (s + m))
    have h2 := un_le (S := S) (la := lai od s (s + m)) (o := od (s + m))
    rcases List.mem_append.mp h with h | h
    · exact lC_lt hb m (fun i h1 h2 => ho i h1 (by omega)) x h
    · rcases List.mem_append.mp h with h | h
      · simp only [List.mem_cons, List.not_mem_nil, or_false] at h
        omega
      · exact bLs_lt (hb _) _ x h
/-- the items of the order are the same in both states -/
def smI (S S' : St) (od : Nat → Nat) (s m : Nat) : Prop := ∀ i, s ≤ i → i < s + m → S_sz S' (od i) = S_sz S (od i) ∧ ∀ j, S_by S' (od i) j = S_by S (od i) j
theorem alk_congr {S S' : St} {a b : Nat} (h1 : S_sz S' a = S_sz S a) (h2 : S_sz S' b = S_sz S b) (h3 : ∀ j, S_by S' a j = S_by S a j) (h4 : ∀ j, S_by S' b j = S_by S b j) : alk S' a b = alk S a b := by
  unfold alk
  rw [h1, h2, funext h3, funext h4]
theorem sam_congr {S S' : St} {od : Nat → Nat} {s m i : Nat} (h : smI S S' od s m) (h1 : s ≤ i) (h2 : i < s + m) : sam S' (lai od s i) (od i) = sam S (lai od s i) (od i) := by
  unfold lai
  split
  · rfl
  · obtain ⟨a1, a2⟩ := h i h1 h2
    obtain ⟨b1, b2⟩ := h (i - 1) (by omega) (by omega)
    exact alk_congr a1 b1 a2 b2
theorem un_congr {S S' : St} {od : Nat → Nat} {s m i : Nat} (h : smI S S' od s m) (h1 : s ≤ i) (h2 : i < s + m) : un S' (lai od s i) (od i) = un S (lai od s i) (od i) := by
  unfold un
  rw [sam_congr h h1 h2, (h i h1 h2).1]
theorem smI.le {S S' : St} {od : Nat → Nat} {s m m' : Nat} (h : smI S S' od s m) (hm : m' ≤ m) : smI S S' od s m' := fun i h1 h2 => h i h1 (by omega)
theorem plc_congrS {S S' : St} {od : Nat → Nat} {s : Nat} : ∀ {m}, smI S S' od s m → plc S' od s m = plc S od s m
  | 0, _ => rfl
  | m + 1, h => by unfold plc; rw [plc_congrS (h.le (by omega)), un_congr h (by omega) (by omega)]
theorem bLs_congrS {S S' : St} {o a : Nat} (h : ∀ j, S_by S' o j = S_by S o j) : ∀ m, bLs S' o a m = bLs S o a m
  | 0 => rfl
  | m + 1 => by unfold bLs; rw [bLs_congrS h m, h]
theorem lP_congrS {S S' : St} {od : Nat → Nat} {s : Nat} : ∀ {m}, smI S S' od s m → lP S' od s m = lP S od s m
  | 0, _ => rfl
  | m + 1, h => by unfold lP; rw [lP_congrS (h.le (by omega)), plc_congrS (h.le (by omega))]
theorem lC_congrS {S S' : St} {od : Nat → Nat} {s : Nat} : ∀ {m}, smI S S' od s m → lC S' od s m = lC S od s m
  | 0, _ => rfl
  | m + 1, h => by unfold lC; rw [lC_congrS (h.le (by omega)), sam_congr h (by omega) (by omega), un_congr h (by omega) (by omega), bLs_congrS (h (s + m) (by omega) (by omega)).2]
theorem lW_congrS {S S' : St} {od : Nat → Nat} {s m : Nat} (h : smI S S' od s m) : lW S' od s m = lW S od s m := by unfold lW; rw [lP_congrS h, lC_congrS h]
/-- with a pack more, of the bytes L -/
def st_pk (S : St) (ct : Nat) (L : List Nat) : St := S_up (S_pack S (S_np S) ct (4 * ct) 0 L.length (fun j => L.getD j 0)) 6 0 0 (S_np S + 1)
def mvN (S : St) (od : Nat → Nat) (s p : Nat) : Nat → St
  | 0 => S
  | m + 1 => S_item (mvN S od s p m) (od (s + m)) (S_kd (mvN S od s p m) (od (s + m))) 0 (S_by (mvN S od s p m) (od (s + m))) (p + 1) m
def wpk (S : St) (od : Nat → Nat) (s t : Nat) : St := mvN (st_pk S (t - s) (lW S od s (t - s))) od s (S_np S) (t - s)
def wAll (S : St) (od en : Nat → Nat) : Nat → St
  | 0 => S
  | k + 1 => wpk (wAll S od en k) od (stt en k) (en k)
def op_pack (S : St) (most : Int32) (F : PL) : Int32 × St := if 1 ≤ most ∧ most ≤ 10 then (if 20 < S_np S + F.md then (-4, S) else (nI F.md, wAll S F.od F.en F.md)) else (-2, S)
theorem st_pk_o {S : St} {ct r a b : Nat} {L : List Nat} (hr : ¬ (r = 6 ∧ a = 0 ∧ b = 0)) (hr2 : ¬ (7 ≤ r ∧ r ≤ 11 ∧ a = S_np S)) : st_pk S ct L r a b = S r a b := by
  simp only [st_pk, S_up, if_neg hr]
  exact S_pack_same r a b hr2
theorem st_pk_p {S : St} {ct r a b : Nat} {L : List Nat} (hr : r ≠ 6) : st_pk S ct L r a b = S_pack S (S_np S) ct (4 * ct) 0 L.length (fun j => L.getD j 0) r a b := by
  simp [st_pk, S_up, hr]
theorem st_pk_np {S : St} {ct : Nat} {L : List Nat} : S_np (st_pk S ct L) = S_np S + 1 := by simp [S_np, st_pk, S_up]
theorem mvN_step {S : St} {od : Nat → Nat} {s p m : Nat} : mvN S od s p (m + 1) = S_item (mvN S od s p m) (od (s + m)) (S_kd (mvN S od s p m) (od (s + m))) 0 (S_by (mvN S od s p m) (od (s + m))) (p + 1) m := rfl
theorem mvN_same {S : St} {od : Nat → Nat} {s p m : Nat} : sameBut (mvN S od s p m) (mvN S od s p (m + 1)) 1 5 (od (s + m)) := by rw [mvN_step]; exact S_item_same
theorem mvN_o {S : St} {od : Nat → Nat} {s p : Nat} : ∀ m {r a b}, ¬ (1 ≤ r ∧ r ≤ 5 ∧ ∃ i, s ≤ i ∧ i < s + m ∧ od i = a) → mvN S od s p m r a b = S r a b
  | 0, r, a, b, _ => rfl
  | m + 1, r, a, b, h => by
    show S_item _ _ _ _ _ _ _ r a b = _
    rw [S_item_same r a b (fun z => h ⟨z.1, z.2.1, s + m, by omega, by omega, z.2.2.symm⟩)]
    exact mvN_o m (fun z => h ⟨z.1, z.2.1, by obtain ⟨i, h1, h2, h3⟩ := z.2.2; exact ⟨i, h1, by omega, h3⟩⟩)
theorem mvN_by {S : St} {od : Nat → Nat} {s p : Nat} : ∀ m {a b}, S_by (mvN S od s p m) a b = S_by S a b
  | 0, a, b => rfl
  | m + 1, a, b => by
    by_cases e : a = od (s + m)
    · subst e
      show S_by (S_item _ _ _ _ _ _ _) _ b = _
      rw [S_item_by]; exact mvN_by m
    · exact (mvN_same (S := S) (p := p) 3 a b (fun z => e z.2.2)).trans (mvN_by m)
theorem mvN_kd {S : St} {od : Nat → Nat} {s p : Nat} : ∀ m {a}, S_kd (mvN S od s p m) a = S_kd S a
  | 0, a => rfl
  | m + 1, a => by
    by_cases e : a = od (s + m)
    · subst e
      show S_kd (S_item _ _ _ _ _ _ _) _ = _
      rw [S_item_kd]; exact mvN_kd m
    · exact (mvN_same (S := S) (p := p) 1 a 0 (fun z => e z.2.2)).trans (mvN_kd m)
theorem WF_item {S S' : St} (hW : WF S) {i : Nat} (hS : sameBut S S' 1 5 i) (h1 : S_kd S' i ≤ 1) (h2 : S_sz S' i ≤ 60) (h3 : S_pk S' i ≤ S_np S) (h4 : S_ix S' i ≤ 99) (h5 : S_pk S' i ≠ 0 → S_sz S' i = 0 ∧ S_kd S' i = 0) (h6 : ∀ j, S_by S' i j < 256) : WF S' := by
  have e0 : S_no S' = S_no S := hS 0 0 0 (by omega)
  have e6 : S_np S' = S_np S := hS 6 0 0 (by omega)
  have e12 : S_nt S' = S_nt S := hS 12 0 0 (by omega)
  obtain ⟨w1, w2, w3, w4, w5, w6⟩ := hW
  refine ⟨by omega, by omega, by omega, fun j hj => ?_, fun a j => ?_, fun p hp => ?_⟩
  · by_cases e : j = i
    · subst e; exact ⟨h1, h2, by omega, h4, h5⟩
    · rw [show S_kd S' j = S_kd S j from hS 1 j 0 (by omega), show S_sz S' j = S_sz S j from hS 2 j 0 (by omega), show S_pk S' j = S_pk S j from hS 4 j 0 (by omega), show S_ix S' j = S_ix S j from hS 5 j 0 (by omega), e6]
      exact w4 j (by omega)
  · by_cases e : a = i
    · subst e; exact h6 j
    · rw [show S_by S' a j = S_by S a j from hS 3 a j (by omega)]; exact w5 a j
  · have := w6 p (by omega)
    refine ⟨⟨?_, ?_, ?_, fun j => ?_⟩, ?_⟩
    · rw [show S_ct S' p = S_ct S p from hS 7 p 0 (by omega)]; exact this.1.1
    · rw [show S_fs S' p = S_fs S p from hS 8 p 0 (by omega)]; exact this.1.2.1
    · rw [show S_pz S' p = S_pz S p from hS 10 p 0 (by omega)]; exact this.1.2.2.1
    · rw [show S_pb S' p j = S_pb S p j from hS 11 p j (by omega)]; exact this.1.2.2.2 j
    · rw [show S_ex S' p = S_ex S p from hS 9 p 0 (by omega), e6]; exact this.2
theorem WF_pack {S S' : St} (hW : WF S) {i : Nat} (hS : sameBut S S' 7 11 i) (h1 : S_ct S' i ≤ 99) (h2 : S_fs S' i ≤ 600) (h3 : S_ex S' i ≤ S_np S) (h4 : S_pz S' i ≤ 600) (h6 : ∀ j, S_pb S' i j < 256) : WF S' := by
  have e0 : S_no S' = S_no S := hS 0 0 0 (by omega)
  have e6 : S_np S' = S_np S := hS 6 0 0 (by omega)
  have e12 : S_nt S' = S_nt S := hS 12 0 0 (by omega)
  obtain ⟨w1, w2, w3, w4, w5, w6⟩ := hW
  refine ⟨by omega, by omega, by omega, fun j hj => ?_, fun a j => ?_, fun p hp => ?_⟩
  · rw [show S_kd S' j = S_kd S j from hS 1 j 0 (by omega), show S_sz S' j = S_sz S j from hS 2 j 0 (by omega), show S_pk S' j = S_pk S j from hS 4 j 0 (by omega), show S_ix S' j = S_ix S j from hS 5 j 0 (by omega), e6]
    exact w4 j (by omega)
  · rw [show S_by S' a j = S_by S a j from hS 3 a j (by omega)]; exact w5 a j
  · by_cases e : p = i
    · subst e; exact ⟨⟨h1, h2, h4, h6⟩, by omega⟩
    · have := w6 p (by omega)
      refine ⟨⟨?_, ?_, ?_, fun j => ?_⟩, ?_⟩
      · rw [show S_ct S' p = S_ct S p from hS 7 p 0 (by omega)]; exact this.1.1
      · rw [show S_fs S' p = S_fs S p from hS 8 p 0 (by omega)]; exact this.1.2.1
      · rw [show S_pz S' p = S_pz S p from hS 10 p 0 (by omega)]; exact this.1.2.2.1
      · rw [show S_pb S' p j = S_pb S p j from hS 11 p j (by omega)]; exact this.1.2.2.2 j
      · rw [show S_ex S' p = S_ex S p from hS 9 p 0 (by omega), e6]; exact this.2
theorem getD_lt {L : List Nat} (h : ∀ x, x ∈ L → x < 256) (j : Nat) : L.getD j 0 < 256 := by
  rw [List.getD_eq_getElem?_getD]
  cases hj : L[j]? with
  | none => simp
  | some x => exact h x (List.mem_of_getElem? hj)
/-- a pack more -/
theorem WF_more {S S' : St} (hW : WF S) (hp : S_np S < 20) (hn : S_np S' = S_np S + 1) (hS : ∀ r a b, ¬ (r = 6 ∧ a = 0 ∧ b = 0) → ¬ (7 ≤ r ∧ r ≤ 11 ∧ a = S_np S) → S' r a b = S r a b) (h1 : S_ct S' (S_np S) ≤ 99) (h2 : S_fs S' (S_np S) ≤ 600) (h3 : S_ex S' (S_np S) ≤ S_np S + 1) (h4 : S_pz S' (S_np S) ≤ 600) (h6 : ∀ j, S_pb S' (S_np S) j < 256) : WF S' := by
  have e0 : S_no S' = S_no S := hS 0 0 0 (by omega) (by omega)
  have e12 : S_nt S' = S_nt S := hS 12 0 0 (by omega) (by omega)
  obtain ⟨w1, w2, w3, w4, w5, w6⟩ := hW
  refine ⟨by omega, by omega, by omega, fun j hj => ?_, fun a j => ?_, fun p hp => ?_⟩
  · rw [show S_kd S' j = S_kd S j from hS 1 j 0 (by omega) (by omega), show S_sz S' j = S_sz S j from hS 2 j 0 (by omega) (by omega), show S_pk S' j = S_pk S j from hS 4 j 0 (by omega) (by omega), show S_ix S' j = S_ix S j from hS 5 j 0 (by omega) (by omega)]
    obtain ⟨a1, a2, a3, a4, a5⟩ := w4 j (by omega)
    exact ⟨a1, a2, by omega, a4, a5⟩
  · rw [show S_by S' a j = S_by S a j from hS 3 a j (by omega) (by omega)]; exact w5 a j
  · by_cases e : p = S_np S
    · subst e; exact ⟨⟨h1, h2, h4, h6⟩, by omega⟩
    · have := w6 p (by omega)
      refine ⟨⟨?_, ?_, ?_, fun j => ?_⟩, ?_⟩
      · rw [show S_ct S' p = S_ct S p from hS 7 p 0 (by omega) (by omega)]; exact this.1.1
      · rw [show S_fs S' p = S_fs S p from hS 8 p 0 (by omega) (by omega)]; exact this.1.2.1
      · rw [show S_pz S' p = S_pz S p from hS 10 p 0 (by omega) (by omega)]; exact this.1.2.2.1
      · rw [show S_pb S' p j = S_pb S p j from hS 11 p j (by omega) (by omega)]; exact this.1.2.2.2 j
      · rw [show S_ex S' p = S_ex S p from hS 9 p 0 (by omega) (by omega)]; have := this.2; omega
theorem WF_pk {S : St} (hW : WF S) (hp : S_np S < 20) {ct : Nat} {L : List Nat} (h1 : ct ≤ 99) (h2 : L.length ≤ 600) (h3 : 4 * ct ≤ 600) (h4 : ∀ x, x ∈ L → x < 256) : WF (st_pk S ct L) := by
  refine WF_more hW hp st_pk_np (fun r a b => st_pk_o) ?_ ?_ ?_ ?_ (fun j => ?_)
  · rw [show S_ct (st_pk S ct L) (S_np S) = ct from (st_pk_p (by omega)).trans S_pack_ct]; exact h1
  · rw [show S_fs (st_pk S ct L) (S_np S) = 4 * ct from (st_pk_p (by omega)).trans S_pack_fs]; exact h3
  · rw [show S_ex (st_pk S ct L) (S_np S) = 0 from (st_pk_p (by omega)).trans S_pack_ex]; omega
  · rw [show S_pz (st_pk S ct L) (S_np S) = L.length from (st_pk_p (by omega)).trans S_pack_pz]; exact h2
  · rw [show S_pb (st_pk S ct L) (S_np S) j = L.getD j 0 from (st_pk_p (by omega)).trans S_pack_pb]; exact getD_lt h4 j
theorem WF_mv {S : St} (hW : WF S) {od : Nat → Nat} {s p : Nat} (hp : p < S_np S) : ∀ m, m ≤ 99 → (∀ i, s ≤ i → i < s + m → S_kd S (od i) = 0) → WF (mvN S od s p m) ∧ S_np (mvN S od s p m) = S_np S
  | 0, _, _ => ⟨hW, rfl⟩
  | m + 1, hm, hkd => by
    obtain ⟨ih, e⟩ := WF_mv hW hp m (by omega) (fun i h1 h2 => hkd i h1 (by omega))
    have k0 := hkd (s + m) (by omega) (by omega)
    rw [mvN_step]
    refine ⟨WF_item ih S_item_same ?_ ?_ ?_ ?_ (fun _ => ⟨S_item_sz, ?_⟩) (fun j => ?_), (S_item_same 6 0 0 (by omega)).trans e⟩
    · rw [S_item_kd, mvN_kd]; omega
    · rw [S_item_sz]; omega
    · rw [S_item_pk]; omega
    · rw [S_item_ix]; omega
    · rw [S_item_kd, mvN_kd]; exact k0
    · rw [S_item_by]; exact ih.2.2.2.2.1 _ j
