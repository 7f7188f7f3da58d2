/-! ===== class and reference side by side ===== -/
abbrev scC (len : Nat) (g : Nat → Int32) : mj_C := .inl (.short, len, .inl g)
abbrev ouC (g : Nat → Int64) : mj_C := .inl (.long, 1, .inr (.inl g))
/-- the class holds S', the reference S -/
def GX (S S' : St) (n : Nat) (h : mj_H) (AD : Ad) (len : Nat) (sg : Nat → Int32) (X : Nat → Int32) (A : Nat → Nat → Int32) (og : Nat → Int64) (C : Ct) : Prop :=
  MEM h n AD (VS S') C ∧ CC S' AD C ∧ C 6 0 = MOc AD X ∧ (∀ j, 1 ≤ j → j < 17 → C 6 j = MAc j (A j)) ∧ CM S X A ∧ C 7 0 = scC len sg ∧ C 8 0 = ouC og
section
variable {S S' : St} {n : Nat} {h : mj_H} {AD : Ad} {len : Nat} {sg : Nat → Int32} {X : Nat → Int32} {A : Nat → Nat → Int32} {og : Nat → Int64} {C : Ct}
theorem GX.mem (hG : GX S S' n h AD len sg X A og C) : MEM h n AD (VS S') C := hG.1
theorem GX.cc (hG : GX S S' n h AD len sg X A og C) : CC S' AD C := hG.2.1
theorem GX.sc (hG : GX S S' n h AD len sg X A og C) : h (AD 7 0) = some (scC len sg) := by rw [hG.1.1 7 0 rfl, hG.2.2.2.2.2.1]
theorem GX.ou (hG : GX S S' n h AD len sg X A og C) : h (AD 8 0) = some (ouC og) := by rw [hG.1.1 8 0 rfl, hG.2.2.2.2.2.2]
theorem GX.os (hG : GX S S' n h AD len sg X A og C) : ∃ fs, h (AD 5 0) = some (.inr (2, fs)) := by
  obtain ⟨plc, e⟩ := hG.2.1.os hG.1
  exact ⟨_, e⟩
theorem GX.rf (hG : GX S S' n h AD len sg X A og C) : h (AD 6 0) = some (MOc AD X) := by rw [hG.1.1 6 0 (show 0 < 17 by omega), hG.2.2.1]
theorem GX.cls (hG : GX S S' n h AD len sg X A og C) {S2 : St} {h' : mj_H} (hK : KEEP AD S2 C n h') : ∃ C', GX S S2 n h' AD len sg X A og C' := by
  obtain ⟨C', a, b, c⟩ := hK
  refine ⟨C', a, b, ?_, fun j h1 h2 => ?_, hG.2.2.2.2.1, ?_, ?_⟩
  · rw [c 6 0 (by omega)]; exact hG.2.2.1
  · rw [c 6 j (by omega)]; exact hG.2.2.2.1 j h1 h2
  · rw [c 7 0 (by omega)]; exact hG.2.2.2.2.2.1
  · rw [c 8 0 (by omega)]; exact hG.2.2.2.2.2.2
theorem GX.clsA (hG : GX S S' n h AD len sg X A og C) {S2 : St} {h' : mj_H} {n' : Nat} {AD' : Ad} (hK : KEEPA AD S' S2 C n' h' AD') : (∃ C', GX S S2 n' h' AD' len sg X A og C') ∧ AD' 5 0 = AD 5 0 ∧ AD' 6 0 = AD 6 0 ∧ AD' 7 0 = AD 7 0 ∧ AD' 8 0 = AD 8 0 := by
  obtain ⟨e, C', a, b, c⟩ := hK
  have e6 : ∀ j, j < 17 → AD' 6 j = AD 6 j := fun j hj => e 6 j hj
  refine ⟨⟨C', a, b, ?_, fun j h1 h2 => ?_, hG.2.2.2.2.1, ?_, ?_⟩, e 5 0 rfl, e 6 0 (show 0 < 17 by omega), e 7 0 rfl, e 8 0 rfl⟩
  · rw [c 6 0 (by omega), hG.2.2.1]
    simp only [MOc, e6 1 (by omega), e6 2 (by omega), e6 3 (by omega), e6 4 (by omega), e6 5 (by omega), e6 6 (by omega), e6 7 (by omega), e6 8 (by omega), e6 9 (by omega), e6 10 (by omega), e6 11 (by omega), e6 12 (by omega), e6 13 (by omega), e6 14 (by omega), e6 15 (by omega), e6 16 (by omega)]
  · rw [c 6 j (by omega)]; exact hG.2.2.2.1 j h1 h2
  · rw [c 7 0 (by omega)]; exact hG.2.2.2.2.2.1
  · rw [c 8 0 (by omega)]; exact hG.2.2.2.2.2.2
theorem GX.mhf (hG : GX S S' n h AD len sg X A og C) : MHF h h AD X A := by
  refine ⟨hG.rf, fun j h1 h2 => ?_, fun i j hi hj e => ?_, fun _ _ => rfl⟩
  · rw [hG.1.1 6 j h2, hG.2.2.2.1 j h1 h2]
  · exact (hG.1.2.1 6 i 6 j hi hj e).2
theorem GX.cm (hG : GX S S' n h AD len sg X A og C) : CM S X A := hG.2.2.2.2.1
theorem GX.ref (hG : GX S S' n h AD len sg X A og C) {S2 : St} {c : Int32} {h' : mj_H} (hK : RK h AD S2 c h') : ∃ X' A' C', GX S2 S' n h' AD len sg X' A' og C' ∧ X' 0 = c := by
  obtain ⟨X', A', hM, hR, hx⟩ := hK
  have hm := hG.1
  refine ⟨X', A', fun a b => if a = 6 then (if b = 0 then MOc AD X' else MAc b (A' b)) else C a b, ⟨⟨fun k i hv => ?_, hm.2.1, hm.2.2⟩, ?_, ?_, fun j h1 h2 => ?_, hR, ?_, ?_⟩, hx⟩
  · by_cases e : k = 6
    · subst e
      have hv : i < 17 := hv
      show h' (AD 6 i) = some (if (6 : Nat) = 6 then (if i = 0 then MOc AD X' else MAc i (A' i)) else C 6 i)
      rw [if_pos rfl]
      by_cases e0 : i = 0
      · subst e0; rw [if_pos rfl]; exact hM.1
      · rw [if_neg e0]; exact hM.2.1 i (by omega) hv
    · show h' (AD k i) = some (if k = 6 then _ else C k i)
      rw [if_neg e, hM.2.2.2 _ (fun j hj q => e (hm.2.1 k i 6 j hv hj q).1)]
      exact hm.1 k i hv
  · have hne : ∀ a b, a ≠ 6 → (fun a b => if a = 6 then (if b = 0 then MOc AD X' else MAc b (A' b)) else C a b) a b = C a b := fun a b q => if_neg q
    obtain ⟨c1, c2, c3, c4, c5, c6, c7, c8, c9, c10, c11⟩ := hG.2.1
    exact ⟨c1, c2, c3, c4, c5, c6, c7, c8, c9, c10, c11⟩
  · rfl
  · show (if (6 : Nat) = 6 then (if j = 0 then MOc AD X' else MAc j (A' j)) else C 6 j) = _
    rw [if_pos rfl, if_neg (by omega)]
  · exact hG.2.2.2.2.2.1
  · exact hG.2.2.2.2.2.2
end
theorem byte_of (x : Int32) : ∃ c : Nat, c < 256 ∧ x.toInt8.toInt32 = bS c := by
  refine ⟨x.toBitVec.toNat % 256, Nat.mod_lt _ (by decide), ?_⟩
  unfold bS
  have : (nI (x.toBitVec.toNat % 256)).toInt8 = x.toInt8 := by
    apply Int8.toBitVec_inj.mp
    rw [Int32.toBitVec_toInt8, Int32.toBitVec_toInt8, BitVec.signExtend_eq_setWidth_of_le _ (by decide), BitVec.signExtend_eq_setWidth_of_le _ (by decide)]
    apply BitVec.eq_of_toNat_eq
    rw [BitVec.toNat_setWidth, BitVec.toNat_setWidth]
    show (Int32.ofNat (x.toBitVec.toNat % 256)).toBitVec.toNat % 2 ^ 8 = _
    rw [Int32.toBitVec_ofNat', BitVec.toNat_ofNat]
    omega
  rw [this]
