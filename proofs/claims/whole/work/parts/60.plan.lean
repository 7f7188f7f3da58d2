/-! ===== the plan of a pack, as numbers ===== -/
def alkB (u v : Nat → Nat) : Nat → Nat → Nat
  | k, 0 => k
  | k, m + 1 => if u k = v k then alkB u v (k + 1) m else k
def alk (S : St) (a b : Nat) : Nat := alkB (S_by S a) (S_by S b) 0 (min (S_sz S a) (S_sz S b))
theorem alkB_le (u v : Nat → Nat) : ∀ m k, k ≤ alkB u v k m ∧ alkB u v k m ≤ k + m
  | 0, k => ⟨Nat.le_refl _, Nat.le_refl _⟩
  | m + 1, k => by
    unfold alkB
    split
    · have := alkB_le u v m (k + 1); omega
    · omega
theorem alk_le {S : St} {a b : Nat} : alk S a b ≤ S_sz S a := by
  have := alkB_le (S_by S a) (S_by S b) (min (S_sz S a) (S_sz S b)) 0
  unfold alk; omega
theorem bS_inj {a b : Nat} (ha : a < 256) (hb : b < 256) : bS a = bS b ↔ a = b :=
  ⟨fun e => by
    have h1 := bS_and a ha
    rw [e, bS_and b hb] at h1
    exact ((nI_eq (by omega) (by omega)).mp h1).symm, fun e => by rw [e]⟩
theorem alikeN_alkB {g1 g2 : Nat → Int32} {u v : Nat → Nat} (hu : ∀ j, u j < 256) (hv : ∀ j, v j < 256) : ∀ m k, (∀ j, j < k + m → g1 j = bS (u j)) → (∀ j, j < k + m → g2 j = bS (v j)) → alikeN g1 g2 k m = alkB u v k m
  | 0, k, _, _ => rfl
  | m + 1, k, h1, h2 => by
    unfold alikeN alkB
    rw [h1 k (by omega), h2 k (by omega)]
    have ih := alikeN_alkB (g1 := g1) (g2 := g2) hu hv m (k + 1) (fun j hj => h1 j (by omega)) (fun j hj => h2 j (by omega))
    rw [ih]
    by_cases e : u k = v k
    · rw [if_pos e, if_pos (by rw [e])]
    · rw [if_neg e, if_neg (fun z => e ((bS_inj (hu k) (hv k)).mp z))]
/-- may be packed, if it isn't taken -/
def wts (S : St) (i : Nat) : Bool := decide (S_kd S i = 0) && decide (S_pk S i = 0) && decide (0 < S_sz S i)
theorem wts_iff {S : St} {i : Nat} : wts S i = true ↔ S_kd S i = 0 ∧ S_pk S i = 0 ∧ 0 < S_sz S i := by simp [wts, and_assoc]
/-- alike with the latest one: 0 none, l + 1: object l -/
def sam (S : St) : Nat → Nat → Nat
  | 0, _ => 0
  | l + 1, o => alk S o l
def un (S : St) (la o : Nat) : Nat := S_sz S o - sam S la o
theorem sam_le {S : St} {la o : Nat} : sam S la o ≤ S_sz S o := by
  cases la with
  | zero => exact Nat.zero_le _
  | succ l => exact alk_le
def cst (S : St) (la o : Nat) : Nat := if la = 0 then 0 else un S la o
/-- the next one among the first m objects: 0 none, o + 1: object o -/
def nxt (S : St) (tk : Nat → Bool) (la : Nat) : Nat → Nat
  | 0 => 0
  | m + 1 => if wts S m = true ∧ tk m = false ∧ (nxt S tk la m = 0 ∨ cst S la m < cst S la (nxt S tk la m - 1)) then m + 1 else nxt S tk la m
section
variable {S : St} {tk : Nat → Bool} {la : Nat}
theorem nxt_le : ∀ m, nxt S tk la m ≤ m
  | 0 => Nat.le_refl _
  | m + 1 => by have := nxt_le m; unfold nxt; split <;> omega
theorem nxt_some : ∀ {m o}, nxt S tk la m = o + 1 → o < m ∧ wts S o = true ∧ tk o = false
  | 0, o, h => by cases h
  | m + 1, o, h => by
    unfold nxt at h
    split at h
    · rename_i c
      obtain rfl : m = o := by omega
      exact ⟨by omega, c.1, c.2.1⟩
    · obtain ⟨h1, h2⟩ := nxt_some h
      exact ⟨by omega, h2⟩
theorem nxt_none : ∀ {m}, nxt S tk la m = 0 → ∀ o, o < m → wts S o = true → tk o = true
  | 0, _, o, ho, _ => by omega
  | m + 1, h, o, ho, hw => by
    unfold nxt at h
    split at h
    · omega
    · rename_i c
      by_cases e : o = m
      · subst e
        cases ht : tk o with
        | true => rfl
        | false => exact absurd ⟨hw, ht, Or.inl h⟩ c
      · exact nxt_none h o (by omega) hw
theorem nxt_zero {m : Nat} (h : ∀ o, o < m → wts S o = true → tk o = true) : nxt S tk la m = 0 := by
  cases hn : nxt S tk la m with
  | zero => rfl
  | succ o =>
    obtain ⟨h1, h2, h3⟩ := nxt_some hn
    have := h o h1 h2
    rw [h3] at this; cases this
theorem nxt_first {k : Nat} (hk : nxt S tk 0 k ≠ 0) : ∀ m, k ≤ m → nxt S tk 0 m = nxt S tk 0 k
  | 0, h => by obtain rfl : k = 0 := by omega
               rfl
  | m + 1, h => by
    by_cases e : k = m + 1
    · rw [e]
    · have ih := nxt_first hk m (by omega)
      rw [show nxt S tk 0 (m + 1) = if wts S m = true ∧ tk m = false ∧ (nxt S tk 0 m = 0 ∨ cst S 0 m < cst S 0 (nxt S tk 0 m - 1)) then m + 1 else nxt S tk 0 m from rfl, if_neg, ih]
      rintro ⟨-, -, c⟩
      rw [ih] at c
      rcases c with c | c
      · exact hk c
      · simp [cst] at c
end
abbrev PL : Type := Nat × Nat × Nat × Nat × Nat × (Nat → Nat) × (Nat → Nat) × (Nat → Nat) × (Nat → Bool)
def PL.dn (P : PL) : Nat := P.1
def PL.md (P : PL) : Nat := P.2.1
def PL.la (P : PL) : Nat := P.2.2.1
def PL.mn (P : PL) : Nat := P.2.2.2.1
def PL.sz (P : PL) : Nat := P.2.2.2.2.1
def PL.od (P : PL) : Nat → Nat := P.2.2.2.2.2.1
def PL.en (P : PL) : Nat → Nat := P.2.2.2.2.2.2.1
def PL.ok (P : PL) : Nat → Nat := P.2.2.2.2.2.2.2.1
def PL.tk (P : PL) : Nat → Bool := P.2.2.2.2.2.2.2.2
def ful (S : St) (most : Nat) (P : PL) (o : Nat) : Prop := P.la ≠ 0 ∧ (P.mn = most ∨ 600 < P.sz + (6 + un S P.la o))
def pushP (S : St) (P : PL) (o : Nat) : PL :=
  (P.dn + 1, (if P.la = 0 then P.md + 1 else P.md), o + 1, (if P.la = 0 then 0 else P.mn) + 1, (if P.la = 0 then 0 else P.sz) + (6 + un S P.la o), updN P.od P.dn o,
    updN P.en ((if P.la = 0 then P.md + 1 else P.md) - 1) (P.dn + 1), updN P.ok P.dn ((if P.la = 0 then P.md + 1 else P.md) - 1), fun j => if j = o then true else P.tk j)
theorem pushP_tk {S : St} {P : PL} {o j : Nat} : (pushP S P o).tk j = if j = o then true else P.tk j := rfl
def closP (P : PL) : PL := (P.dn, P.md, 0, P.mn, P.sz, P.od, P.en, P.ok, P.tk)
def LayC (S : St) (most : Nat) (R : PL → PL → Prop) : Prop :=
  (∀ P, nxt S P.tk P.la (S_no S) = 0 → R P P) ∧
  (∀ P F o, nxt S P.tk P.la (S_no S) = o + 1 → ful S most P o → R (closP P) F → R P F) ∧
  (∀ P F o, nxt S P.tk P.la (S_no S) = o + 1 → ¬ ful S most P o → R (pushP S P o) F → R P F)
def Lay (S : St) (most : Nat) (P F : PL) : Prop := ∀ R, LayC S most R → R P F
theorem Lay.stop {S : St} {most : Nat} {P : PL} (h : nxt S P.tk P.la (S_no S) = 0) : Lay S most P P := fun _ hR => hR.1 P h
theorem Lay.close {S : St} {most : Nat} {P F : PL} {o : Nat} (h : nxt S P.tk P.la (S_no S) = o + 1) (hf : ful S most P o) (hL : Lay S most (closP P) F) : Lay S most P F := fun R hR => hR.2.1 P F o h hf (hL R hR)
theorem Lay.push {S : St} {most : Nat} {P F : PL} {o : Nat} (h : nxt S P.tk P.la (S_no S) = o + 1) (hf : ¬ ful S most P o) (hL : Lay S most (pushP S P o) F) : Lay S most P F := fun R hR => hR.2.2 P F o h hf (hL R hR)
def fre (S : St) (tk : Nat → Bool) : Nat → Nat := cntN (fun i => wts S i && !tk i)
theorem cntN_congr {P P' : Nat → Bool} : ∀ {m}, (∀ j, j < m → P j = P' j) → cntN P m = cntN P' m
  | 0, _ => rfl
  | m + 1, h => by unfold cntN; rw [cntN_congr (fun j hj => h j (by omega)), h m (by omega)]
theorem cntN_set {P P' : Nat → Bool} {o : Nat} (h1 : P o = false) (h2 : P' o = true) (h3 : ∀ j, j ≠ o → P' j = P j) : ∀ m, o < m → cntN P' m = cntN P m + 1
  | 0, h => by omega
  | m + 1, h => by
    unfold cntN
    by_cases e : o = m
    · subst e
      rw [cntN_congr (P' := P) (fun j hj => h3 j (by omega)), h1, h2]; simp
    · rw [cntN_set h1 h2 h3 m (by omega), h3 m (fun z => e z.symm)]; omega
theorem cntN_lt {P : Nat → Bool} {o : Nat} (h1 : P o = false) : ∀ m, o < m → cntN P m < m
  | 0, h => by omega
  | m + 1, h => by
    unfold cntN
    by_cases e : o = m
    · subst e
      have := cntN_le P o
      rw [h1]; simp; omega
    · have := cntN_lt h1 m (by omega)
      split <;> omega
theorem fre_push {S : St} {P : PL} {o m : Nat} (hw : wts S o = true) (ht : P.tk o = false) (ho : o < m) : fre S P.tk m = fre S (pushP S P o).tk m + 1 := by
  refine cntN_set (o := o) ?_ ?_ ?_ m ho
  · simp [pushP, PL.tk]
  · simp [hw, ht]
  · intro j hj; simp [pushP, PL.tk, hj]
theorem Lay_total {S : St} {most : Nat} : ∀ m P, 2 * fre S P.tk (S_no S) + (if P.la = 0 then 0 else 1) < m → ∃ F, Lay S most P F
  | 0, P, h => by omega
  | m + 1, P, h => by
    cases hn : nxt S P.tk P.la (S_no S) with
    | zero => exact ⟨P, .stop hn⟩
    | succ o =>
      obtain ⟨h1, h2, h3⟩ := nxt_some hn
      by_cases hf : ful S most P o
      · have hx : 2 * fre S (closP P).tk (S_no S) + (if (closP P).la = 0 then 0 else 1) < m := by
          have hl := hf.1
          rw [if_neg hl] at h
          show 2 * fre S P.tk (S_no S) + (if (0 : Nat) = 0 then 0 else 1) < m
          rw [if_pos rfl]; omega
        obtain ⟨F, hF⟩ := Lay_total m (closP P) hx
        exact ⟨F, .close hn hf hF⟩
      · have hp := fre_push (m := S_no S) h2 h3 h1
        have hx : 2 * fre S (pushP S P o).tk (S_no S) + (if (pushP S P o).la = 0 then 0 else 1) < m := by
          rw [hp] at h
          have : (if (pushP S P o).la = 0 then 0 else 1) = 1 := if_neg (by show o + 1 ≠ 0; omega)
          rw [this]; split at h <;> omega
        obtain ⟨F, hF⟩ := Lay_total m (pushP S P o) hx
        exact ⟨F, .push hn hf hF⟩
/-- where pack k of the plan begins -/
def stt (en : Nat → Nat) (k : Nat) : Nat := if k = 0 then 0 else en (k - 1)
/-- the latest one when number i of the order is written, in a pack that begins at s -/
def lai (od : Nat → Nat) (s i : Nat) : Nat := if i = s then 0 else od (i - 1) + 1
def plc (S : St) (od : Nat → Nat) (s : Nat) : Nat → Nat
  | 0 => 0
  | m + 1 => plc S od s m + (2 + un S (lai od s (s + m)) (od (s + m)))
theorem plc_congr {S : St} {od od' : Nat → Nat} {s : Nat} : ∀ {m}, (∀ i, s ≤ i → i < s + m → od' i = od i) → plc S od' s m = plc S od s m
  | 0, _ => rfl
  | m + 1, h => by
    unfold plc
    rw [plc_congr (fun i h1 h2 => h i h1 (by omega)), h (s + m) (by omega) (by omega)]
    have : lai od' s (s + m) = lai od s (s + m) := by
      unfold lai
      split
      · rfl
      · rw [h (s + m - 1) (by omega) (by omega)]
    rw [this]
def INV (S : St) (most : Nat) (P : PL) : Prop :=
  (P.dn = cntN P.tk (S_no S)) ∧
  (∀ i, i < P.dn → P.od i < S_no S ∧ wts S (P.od i) = true ∧ P.tk (P.od i) = true) ∧
  (∀ i j, i < j → j < P.dn → P.od i ≠ P.od j) ∧
  (∀ k, k < P.md → stt P.en k < P.en k ∧ P.en k ≤ P.dn ∧ P.en k - stt P.en k ≤ most ∧ 4 * (P.en k - stt P.en k) + plc S P.od (stt P.en k) (P.en k - stt P.en k) ≤ 600) ∧
  ((P.md = 0 → P.dn = 0) ∧ (0 < P.md → P.en (P.md - 1) = P.dn)) ∧
  (∀ k, k < P.md → ∀ i, stt P.en k ≤ i → i < P.en k → P.ok i = k) ∧
  (P.la ≠ 0 → 0 < P.md ∧ 0 < P.dn ∧ P.la = P.od (P.dn - 1) + 1 ∧ P.mn = P.dn - stt P.en (P.md - 1) ∧ P.sz = 4 * (P.dn - stt P.en (P.md - 1)) + plc S P.od (stt P.en (P.md - 1)) (P.dn - stt P.en (P.md - 1)))
section
variable {S : St} {most : Nat} {P : PL}
theorem INV.cnt (h : INV S most P) : P.dn = cntN P.tk (S_no S) := h.1
theorem INV.ord (h : INV S most P) : ∀ i, i < P.dn → P.od i < S_no S ∧ wts S (P.od i) = true ∧ P.tk (P.od i) = true := h.2.1
theorem INV.dis (h : INV S most P) : ∀ i j, i < j → j < P.dn → P.od i ≠ P.od j := h.2.2.1
theorem INV.pks (h : INV S most P) : ∀ k, k < P.md → stt P.en k < P.en k ∧ P.en k ≤ P.dn ∧ P.en k - stt P.en k ≤ most ∧ 4 * (P.en k - stt P.en k) + plc S P.od (stt P.en k) (P.en k - stt P.en k) ≤ 600 := h.2.2.2.1
theorem INV.las (h : INV S most P) : (P.md = 0 → P.dn = 0) ∧ (0 < P.md → P.en (P.md - 1) = P.dn) := h.2.2.2.2.1
theorem INV.oks (h : INV S most P) : ∀ k, k < P.md → ∀ i, stt P.en k ≤ i → i < P.en k → P.ok i = k := h.2.2.2.2.2.1
theorem INV.cur (h : INV S most P) : P.la ≠ 0 → 0 < P.md ∧ 0 < P.dn ∧ P.la = P.od (P.dn - 1) + 1 ∧ P.mn = P.dn - stt P.en (P.md - 1) ∧ P.sz = 4 * (P.dn - stt P.en (P.md - 1)) + plc S P.od (stt P.en (P.md - 1)) (P.dn - stt P.en (P.md - 1)) := h.2.2.2.2.2.2
end
theorem INV.clos {S : St} {most : Nat} {P : PL} (h : INV S most P) : INV S most (closP P) :=
  ⟨h.cnt, h.ord, h.dis, h.pks, h.las, h.oks, fun z => absurd rfl z⟩
theorem un_le {S : St} {la o : Nat} : un S la o ≤ S_sz S o := Nat.sub_le _ _
theorem INV.push {S : St} {most : Nat} {P : PL} (h : INV S most P) (hm1 : 1 ≤ most) {o : Nat} (ho : o < S_no S) (hw : wts S o = true) (ht : P.tk o = false) (hz : S_sz S o ≤ 60) (hf : ¬ ful S most P o) : INV S most (pushP S P o) := by
  have hne : ∀ i, i < P.dn → P.od i ≠ o := fun i hi e => by
    have := (h.ord i hi).2.2
    rw [e, ht] at this; cases this
  have hcnt : (pushP S P o).dn = cntN (pushP S P o).tk (S_no S) := by
    show P.dn + 1 = _
    rw [h.cnt]
    refine (cntN_set (o := o) ht ?_ ?_ _ ho).symm
    · simp [pushP, PL.tk]
    · intro j hj; simp [pushP, PL.tk, hj]
  have hord : ∀ i, i < P.dn + 1 → updN P.od P.dn o i < S_no S ∧ wts S (updN P.od P.dn o i) = true ∧ (pushP S P o).tk (updN P.od P.dn o i) = true := fun i hi => by
    by_cases e : i = P.dn
    · subst e; rw [updN_s]; exact ⟨ho, hw, by simp [pushP, PL.tk]⟩
    · rw [updN_n e]
      obtain ⟨a, b, c⟩ := h.ord i (by omega)
      exact ⟨a, b, by rw [pushP_tk, c]; simp⟩
  have hdis : ∀ i j, i < j → j < P.dn + 1 → updN P.od P.dn o i ≠ updN P.od P.dn o j := fun i j h1 h2 => by
    rw [updN_n (show i ≠ P.dn by omega)]
    by_cases e : j = P.dn
    · subst e; rw [updN_s]; exact hne i h1
    · rw [updN_n e]; exact h.dis i j h1 (by omega)
  have hpl : ∀ s m, s + m ≤ P.dn → plc S (updN P.od P.dn o) s m = plc S P.od s m := fun s m hsm => plc_congr (fun i _ h2 => updN_n (by omega))
  by_cases hl : P.la = 0
  · -- a new pack
    have e : pushP S P o = ((P.dn + 1, P.md + 1, o + 1, 1, 0 + (6 + un S P.la o), updN P.od P.dn o, updN P.en P.md (P.dn + 1), updN P.ok P.dn P.md, (pushP S P o).tk) : PL) := by
      simp only [pushP, if_pos hl, Nat.add_sub_cancel, Nat.zero_add]; rfl
    have hst : ∀ k, k < P.md → stt (updN P.en P.md (P.dn + 1)) k = stt P.en k := fun k hk => by
      unfold stt
      split
      · rfl
      · exact updN_n (by omega)
    have hst2 : stt (updN P.en P.md (P.dn + 1)) P.md = P.dn := by
      unfold stt
      split
      · rename_i z; exact (h.las.1 z).symm
      · rw [updN_n (by omega)]; exact h.las.2 (by omega)
    have p1 : plc S (updN P.od P.dn o) P.dn 1 = 2 + S_sz S o := by
      simp [plc, lai, updN_s, un, sam]
    rw [e] at hcnt ⊢
    refine ⟨hcnt, hord, hdis, fun k hk => ?_, ⟨fun z => absurd z (by show P.md + 1 ≠ 0; omega), fun _ => ?_⟩, fun k hk i h1 h2 => ?_, fun _ => ⟨?_, ?_, ?_, ?_, ?_⟩⟩
    · have hk : k < P.md + 1 := hk
      show stt (updN P.en P.md (P.dn + 1)) k < updN P.en P.md (P.dn + 1) k ∧ updN P.en P.md (P.dn + 1) k ≤ P.dn + 1 ∧ updN P.en P.md (P.dn + 1) k - stt (updN P.en P.md (P.dn + 1)) k ≤ most ∧ 4 * (updN P.en P.md (P.dn + 1) k - stt (updN P.en P.md (P.dn + 1)) k) + plc S (updN P.od P.dn o) (stt (updN P.en P.md (P.dn + 1)) k) (updN P.en P.md (P.dn + 1) k - stt (updN P.en P.md (P.dn + 1)) k) ≤ 600
      by_cases ek : k = P.md
      · subst ek
        rw [hst2, updN_s, Nat.add_sub_cancel_left, p1]
        exact ⟨by omega, by omega, hm1, by omega⟩
      · rw [hst k (by omega), updN_n ek]
        obtain ⟨a, b, c, d⟩ := h.pks k (by omega)
        exact ⟨a, by omega, c, by rw [hpl _ _ (by omega)]; exact d⟩
    · show updN P.en P.md (P.dn + 1) (P.md + 1 - 1) = P.dn + 1
      exact updN_s
    · have hk : k < P.md + 1 := hk
      have h1 : stt (updN P.en P.md (P.dn + 1)) k ≤ i := h1
      have h2 : i < updN P.en P.md (P.dn + 1) k := h2
      show updN P.ok P.dn P.md i = k
      by_cases ek : k = P.md
      · subst ek
        rw [hst2] at h1
        rw [updN_s] at h2
        obtain rfl : i = P.dn := by omega
        exact updN_s
      · rw [hst k (by omega)] at h1
        rw [updN_n ek] at h2
        have := (h.pks k (by omega)).2.1
        rw [updN_n (by omega)]
        exact h.oks k (by omega) i h1 h2
    · show 0 < P.md + 1; omega
    · show 0 < P.dn + 1; omega
    · show o + 1 = updN P.od P.dn o (P.dn + 1 - 1) + 1
      rw [Nat.add_sub_cancel, updN_s]
    · show 1 = P.dn + 1 - stt (updN P.en P.md (P.dn + 1)) (P.md + 1 - 1)
      rw [Nat.add_sub_cancel, hst2]; omega
    · show 0 + (6 + un S P.la o) = 4 * (P.dn + 1 - stt (updN P.en P.md (P.dn + 1)) (P.md + 1 - 1)) + plc S (updN P.od P.dn o) (stt (updN P.en P.md (P.dn + 1)) (P.md + 1 - 1)) (P.dn + 1 - stt (updN P.en P.md (P.dn + 1)) (P.md + 1 - 1))
      rw [Nat.add_sub_cancel P.md, hst2, Nat.add_sub_cancel_left, p1, hl]
      show 0 + (6 + (S_sz S o - 0)) = _
      omega
  · -- into the same pack
    obtain ⟨c1, c2, c3, c4, c5⟩ := h.cur hl
    obtain ⟨a, b, c, d⟩ := h.pks (P.md - 1) (by omega)
    have hen := h.las.2 c1
    have e : pushP S P o = ((P.dn + 1, P.md, o + 1, P.mn + 1, P.sz + (6 + un S P.la o), updN P.od P.dn o, updN P.en (P.md - 1) (P.dn + 1), updN P.ok P.dn (P.md - 1), (pushP S P o).tk) : PL) := by
      simp only [pushP, if_neg hl]; rfl
    have hst : ∀ k, k < P.md → stt (updN P.en (P.md - 1) (P.dn + 1)) k = stt P.en k := fun k hk => by
      unfold stt
      split
      · rfl
      · exact updN_n (by omega)
    have p1 : plc S (updN P.od P.dn o) (stt P.en (P.md - 1)) (P.dn + 1 - stt P.en (P.md - 1)) = plc S P.od (stt P.en (P.md - 1)) (P.dn - stt P.en (P.md - 1)) + (2 + un S P.la o) := by
      rw [show P.dn + 1 - stt P.en (P.md - 1) = (P.dn - stt P.en (P.md - 1)) + 1 by omega]
      rw [show plc S (updN P.od P.dn o) (stt P.en (P.md - 1)) (P.dn - stt P.en (P.md - 1) + 1) = plc S (updN P.od P.dn o) (stt P.en (P.md - 1)) (P.dn - stt P.en (P.md - 1)) + (2 + un S (lai (updN P.od P.dn o) (stt P.en (P.md - 1)) (stt P.en (P.md - 1) + (P.dn - stt P.en (P.md - 1)))) (updN P.od P.dn o (stt P.en (P.md - 1) + (P.dn - stt P.en (P.md - 1))))) from rfl]
      rw [hpl _ _ (by omega), show stt P.en (P.md - 1) + (P.dn - stt P.en (P.md - 1)) = P.dn by omega, updN_s]
      have : lai (updN P.od P.dn o) (stt P.en (P.md - 1)) P.dn = P.la := by
        unfold lai
        rw [if_neg (by omega), updN_n (by omega), c3]
      rw [this]
    have hnf : P.mn ≠ most ∧ P.sz + (6 + un S P.la o) ≤ 600 := by
      constructor
      · exact fun z => hf ⟨hl, Or.inl z⟩
      · exact Nat.le_of_not_lt (fun z => hf ⟨hl, Or.inr z⟩)
    rw [e] at hcnt ⊢
    refine ⟨hcnt, hord, hdis, fun k hk => ?_, ⟨fun z => absurd z (by show P.md ≠ 0; omega), fun _ => ?_⟩, fun k hk i h1 h2 => ?_, fun _ => ⟨c1, ?_, ?_, ?_, ?_⟩⟩
    · have hk : k < P.md := hk
      show stt (updN P.en (P.md - 1) (P.dn + 1)) k < updN P.en (P.md - 1) (P.dn + 1) k ∧ updN P.en (P.md - 1) (P.dn + 1) k ≤ P.dn + 1 ∧ updN P.en (P.md - 1) (P.dn + 1) k - stt (updN P.en (P.md - 1) (P.dn + 1)) k ≤ most ∧ 4 * (updN P.en (P.md - 1) (P.dn + 1) k - stt (updN P.en (P.md - 1) (P.dn + 1)) k) + plc S (updN P.od P.dn o) (stt (updN P.en (P.md - 1) (P.dn + 1)) k) (updN P.en (P.md - 1) (P.dn + 1) k - stt (updN P.en (P.md - 1) (P.dn + 1)) k) ≤ 600
      rw [hst k hk]
      by_cases ek : k = P.md - 1
      · subst ek
        rw [updN_s, p1]
        exact ⟨by omega, by omega, by show P.dn + 1 - stt P.en (P.md - 1) ≤ most; omega, by omega⟩
      · rw [updN_n ek]
        obtain ⟨a, b, c, d⟩ := h.pks k (by omega)
        exact ⟨a, by omega, c, by rw [hpl _ _ (by omega)]; exact d⟩
    · exact updN_s
    · have hk : k < P.md := hk
      have h1 : stt (updN P.en (P.md - 1) (P.dn + 1)) k ≤ i := h1
      have h2 : i < updN P.en (P.md - 1) (P.dn + 1) k := h2
      show updN P.ok P.dn (P.md - 1) i = k
      rw [hst k hk] at h1
      by_cases ek : k = P.md - 1
      · subst ek
        rw [updN_s] at h2
        by_cases ei : i = P.dn
        · subst ei; exact updN_s
        · rw [updN_n ei]; exact h.oks _ (by omega) i h1 (by omega)
      · rw [updN_n ek] at h2
        have := (h.pks k (by omega)).2.1
        rw [updN_n (by omega)]
        exact h.oks k (by omega) i h1 h2
    · show 0 < P.dn + 1; omega
    · show o + 1 = updN P.od P.dn o (P.dn + 1 - 1) + 1
      rw [Nat.add_sub_cancel, updN_s]
    · show P.mn + 1 = P.dn + 1 - stt (updN P.en (P.md - 1) (P.dn + 1)) (P.md - 1)
      rw [hst _ (by omega)]; omega
    · show P.sz + (6 + un S P.la o) = 4 * (P.dn + 1 - stt (updN P.en (P.md - 1) (P.dn + 1)) (P.md - 1)) + plc S (updN P.od P.dn o) (stt (updN P.en (P.md - 1) (P.dn + 1)) (P.md - 1)) (P.dn + 1 - stt (updN P.en (P.md - 1) (P.dn + 1)) (P.md - 1))
      rw [hst _ (by omega), p1]; omega
def PL0 : PL := (0, 0, 0, 0, 0, fun _ => 0, fun _ => 0, fun _ => 0, fun _ => false)
theorem cntN_false : ∀ m, cntN (fun _ => false) m = 0
  | 0 => rfl
  | m + 1 => by unfold cntN; rw [cntN_false m]; rfl
theorem INV0 {S : St} {most : Nat} : INV S most PL0 :=
  ⟨(cntN_false _).symm, fun i hi => absurd hi (Nat.not_lt_zero _), fun i j _ hj => absurd hj (Nat.not_lt_zero _), fun k hk => absurd hk (Nat.not_lt_zero _), ⟨fun _ => rfl, fun z => absurd z (Nat.lt_irrefl _)⟩, fun k hk => absurd hk (Nat.not_lt_zero _), fun z => absurd rfl z⟩
theorem Lay.inv {S : St} {most : Nat} (hm1 : 1 ≤ most) (hz : ∀ i, i < S_no S → S_sz S i ≤ 60) {P F : PL} (hL : Lay S most P F) : INV S most P → INV S most F := by
  refine hL (fun P F => INV S most P → INV S most F) ⟨fun P h => id, fun P F o h hf ih z => ih z.clos, fun P F o h hf ih z => ?_⟩
  obtain ⟨h1, h2, h3⟩ := nxt_some h
  exact ih (z.push hm1 h1 h2 h3 (hz _ h1) hf)
/-- what the class plans for one pack, from a latest one on -/
def InnC (S : St) (most : Nat) (R : PL → PL → Prop) : Prop :=
  (∀ P, nxt S P.tk P.la (S_no S) = 0 → R P (closP P)) ∧
  (∀ P o, nxt S P.tk P.la (S_no S) = o + 1 → ful S most P o → R P (closP P)) ∧
  (∀ P F o, nxt S P.tk P.la (S_no S) = o + 1 → ¬ ful S most P o → R (pushP S P o) F → R P F)
def Inn (S : St) (most : Nat) (P F : PL) : Prop := ∀ R, InnC S most R → R P F
def OutC (S : St) (most : Nat) (R : PL → PL → Prop) : Prop :=
  (∀ P, P.la = 0 → nxt S P.tk 0 (S_no S) = 0 → R P P) ∧
  (∀ P P' F o, P.la = 0 → nxt S P.tk 0 (S_no S) = o + 1 → Inn S most (pushP S P o) P' → R P' F → R P F)
def Out (S : St) (most : Nat) (P F : PL) : Prop := ∀ R, OutC S most R → R P F
/-- the same plan, whatever the latest one is when nothing waits -/
def smP (F F' : PL) : Prop := F'.dn = F.dn ∧ F'.md = F.md ∧ F'.od = F.od ∧ F'.en = F.en
theorem Lay.out {S : St} {most : Nat} {P F : PL} (hL : Lay S most P F) : (P.la = 0 → ∃ F', Out S most P F' ∧ smP F F') ∧ (P.la ≠ 0 → ∃ P' F', Inn S most P P' ∧ Out S most P' F' ∧ smP F F') := by
  refine hL (fun P F => (P.la = 0 → ∃ F', Out S most P F' ∧ smP F F') ∧ (P.la ≠ 0 → ∃ P' F', Inn S most P P' ∧ Out S most P' F' ∧ smP F F')) ⟨fun P h => ?_, fun P F o h hf ih => ?_, fun P F o h hf ih => ?_⟩
  · refine ⟨fun hl => ⟨P, fun R hR => hR.1 P hl (by rw [hl] at h; exact h), rfl, rfl, rfl, rfl⟩, fun hl => ⟨closP P, closP P, fun R hR => hR.1 P h, fun R hR => hR.1 _ rfl ?_, rfl, rfl, rfl, rfl⟩⟩
    exact nxt_zero (fun o ho hw => nxt_none h o ho hw)
  · refine ⟨fun hl => absurd hl hf.1, fun hl => ?_⟩
    obtain ⟨F', h1, h2⟩ := ih.1 rfl
    exact ⟨closP P, F', fun R hR => hR.2.1 P o h hf, h1, h2⟩
  · obtain ⟨P', F', h1, h2, h3⟩ := ih.2 (by show o + 1 ≠ 0; omega)
    exact ⟨fun hl => ⟨F', fun R hR => hR.2 P P' F' o hl (by rw [hl] at h; exact h) h1 (h2 R hR), h3⟩, fun hl => ⟨P', F', fun R hR => hR.2.2 P P' o h hf (h1 R hR), h2, h3⟩⟩
