/-! ===== what is known at the law's entry ===== -/
def fwCa (s : State) : FieldType → ClassId := fun ty => (s.vm.findClass ("[" ++ ty.toString)).getD 0
theorem fw_arr {s : State} {args : Array Value} {ty : FieldType} (h : (Cond.arrayClass ty).before args s = true) (hp : ∀ C, ty ≠ .object C) : ArrOfT s (fwCa s ty) ty ∧ va_RA s (fwCa s ty) ty := by
  obtain ⟨c, k, comp, h1, h2, h3⟩ := Cond.arrayClass_spec h
  have e : fwCa s ty = c := by simp only [fwCa, h1, Option.getD_some]
  rw [e]
  refine ⟨fun n z => ⟨fun k h => (by cases h), k, h2, comp, h3⟩, ?_⟩
  cases ty with
  | object C => exact absurd rfl (hp C)
  | _ => exact h1
theorem fw_arrO {s : State} {args : Array Value} {C : String} (h : (Cond.arrayOver (.object C)).before args s = true) : ArrOfT s (fwCa s (.object C)) (.object C) ∧ va_RA s (fwCa s (.object C)) (.object C) := by
  obtain ⟨comp, c, k, h1, -, h2, h3, h4⟩ := Cond.arrayOver_spec h
  have e : fwCa s (.object C) = c := by simp only [fwCa, h4, Option.getD_some]
  rw [e]
  exact ⟨fun n z => ⟨fun k h => (by cases h), k, h2, comp, h3⟩, k, comp, h2, h3, h1, h4⟩
theorem fw_ao : decide (Cond.arrayOver (.object RX0) ∈ lw_tbl) && decide (Cond.arrayOver (.object RX1) ∈ lw_tbl) = true := by decide +kernel
theorem fw_known {s : State} {args : Array Value} (hts : ∀ w ∈ lw_tbl, w.before args s = true) : ∃ (D : va_G) (ca : FieldType → ClassId), mj_Kn D ca s := by
  have hT : ∀ w ∈ mj_T, w.before args s = true := fun w hw => hts w (mj_T_tbl hw)
  obtain ⟨c0, i0, k0⟩ := u_known (C := RX0) (T := TX0) (N := 7) hT mj_ws0 (hT _ (mj_cls_spec (own := 2) (idx := 9) (ci := 0) rfl).2.2.1)
  obtain ⟨c1, i1, k1⟩ := u_known (C := RX1) (T := TX1) (N := 6) hT mj_ws1 (hT _ (mj_cls_spec (own := 2) (idx := 19) (ci := 1) rfl).2.2.1)
  obtain ⟨c2, i2, k2⟩ := u_known (C := RX2) (T := TX2) (N := 10) hT mj_ws2 (hT _ (mj_cls_spec (own := 4) (idx := 8) (ci := 2) rfl).2.2.1)
  obtain ⟨c3, i3, k3⟩ := u_known (C := RX3) (T := TX3) (N := 22) hT mj_ws3 (hT _ (mj_cls_spec (own := 4) (idx := 19) (ci := 3) rfl).2.2.1)
  have ao := fw_ao
  simp only [Bool.and_eq_true, decide_eq_true_eq] at ao
  refine ⟨(fun c => match c with
    | 0 => c0
    | 1 => c1
    | 2 => c2
    | _ => c3, fun c => match c with
    | 0 => i0
    | 1 => i1
    | 2 => i2
    | _ => i3), fwCa s, ⟨fun c q hq => ?_, fun k q hk => ?_⟩, va_AO.of (hts _ ao.1), va_AO.of (hts _ ao.2)⟩
  · match c, hq with
    | 0, hq => cases hq; exact k0
    | 1, hq => cases hq; exact k1
    | 2, hq => cases hq; exact k2
    | 3, hq => cases hq; exact k3
    | c + 4, hq => simp [mj_cl] at hq
  · match k, hk with
    | 0, hk => cases hk; exact fw_arr (hT _ (mj_in_T mj_acI)) (fun C h => by cases h)
    | 1, hk => cases hk; exact fw_arr (hT _ (mj_in_T mj_acB)) (fun C h => by cases h)
    | 2, hk => cases hk; exact fw_arr (hT _ (mj_in_T mj_acZ)) (fun C h => by cases h)
    | 3, hk => cases hk; exact fw_arr (hT _ (mj_in_T mj_acL)) (fun C h => by cases h)
    | 4, hk => cases hk; exact fw_arrO (hts _ ao.1)
    | 5, hk => cases hk; exact fw_arrO (hts _ ao.2)
    | k + 6, hk => simp [mj_tys] at hk
theorem fw_thP {s : State} {args : Array Value} (hts : ∀ w ∈ lw_tbl, w.before args s = true) (hr : ∀ w ∈ thRef, w.before args s = true) : thP s.heap.size s := by
  refine ⟨s, args, rfl, Vm.Alike.refl _, fun _ _ => rfl, fun w hw => ?_⟩
  have hi := List.all_eq_true.mp th_in w hw
  simp only [Bool.or_eq_true, decide_eq_true_eq] at hi
  rcases hi with h | h
  · exact hts w h
  · exact hr w h
theorem fw_thS {s : State} {args : Array Value} {k : Nat} {tx : String} (h1 : (Cond.stringRef "ObjectStreams" k tx).before args s = true) (h2 : (Cond.exactly (.string "ObjectStreams" k) "java/lang/String").before args s = true) : thS k s := by
  obtain ⟨a, c, cA, kA, q1, -⟩ := Cond.exactly_spec (args := args) (first := s) (o := none) (s := s) (idx := []) (t := .string "ObjectStreams" k) (cls := "java/lang/String") h2
  exact ⟨tx, a, vk_R.of h1 q1⟩
/-- the script's cell alone -/
def fw_h (b L : Nat) (xs : Nat → Int32) : mj_H := fun a => if a = b then some (scC L xs) else none
theorem fw_HP {D : va_G} {ca : FieldType → ClassId} {s : State} {b L : Nat} {xs : Nat → Int32} (hX : va_X b L xs s s.heap) (hb : b < s.heap.size) : mj_HP D ca s.heap.size s (fw_h b L xs) s.heap := by
  intro a c h
  unfold fw_h at h
  split at h
  · rename_i e
    subst e
    cases h
    exact ⟨hb, xs, rfl, hX⟩
  · cases h
/-- the array that law.at writes -/
theorem GX.out {S S' : St} {n : Nat} {h : mj_H} {AD : Ad} {len : Nat} {sg : Nat → Int32} {X : Nat → Int32} {A : Nat → Nat → Int32} {og : Nat → Int64} {C : Ct} (hG : GX S S' n h AD len sg X A og C) (og' : Nat → Int64) : ∃ C', GX S S' n (mj_up h (AD 8 0) (ouC og')) AD len sg X A og' C' := by
  have hm := hG.1
  refine ⟨fun a b => if a = 8 then ouC og' else C a b, ⟨fun k i hv => ?_, hm.2.1, hm.2.2⟩, ?_, hG.2.2.1, hG.2.2.2.1, hG.2.2.2.2.1, hG.2.2.2.2.2.1, rfl⟩
  · by_cases e : k = 8
    · subst e
      have e0 : i = 0 := hv
      subst e0
      show mj_up h (AD 8 0) (ouC og') (AD 8 0) = some (if (8 : Nat) = 8 then ouC og' else C 8 0)
      rw [mj_up_s, if_pos rfl]
    · show mj_up h (AD 8 0) (ouC og') (AD k i) = some (if k = 8 then ouC og' else C k i)
      rw [if_neg e, mj_up_n (fun q => e (hm.2.1 k i 8 0 hv rfl q).1)]
      exact hm.1 k i hv
  · obtain ⟨c1, c2, c3, c4, c5, c6, c7, c8, c9, c10, c11⟩ := hG.2.1
    exact ⟨c1, c2, c3, c4, c5, c6, c7, c8, c9, c10, c11⟩
theorem GX.up {S S' : St} {n n' : Nat} {h : mj_H} {AD : Ad} {len : Nat} {sg : Nat → Int32} {X : Nat → Int32} {A : Nat → Nat → Int32} {og : Nat → Int64} {C : Ct} (hG : GX S S' n h AD len sg X A og C) (hn : n ≤ n') : GX S S' n' h AD len sg X A og C :=
  ⟨⟨hG.1.1, hG.1.2.1, fun k i hv => Nat.lt_of_lt_of_le (hG.1.2.2 k i hv) hn⟩, hG.2⟩
