/-! ===== the small machine's heap and locals, and the real ones ===== -/
def mj_okb (v : Value) : Bool := match v with
  | .int _ => true
  | .null => true
  | .ref _ => true
  | _ => false
theorem mj_ok_cat {v : Value} (h : mj_okb v = true) : v.category = 1 := by
  cases v <;> first | rfl | (simp [mj_okb] at h; done)
theorem mj_ok_ref {v : Value} (h : v.isRef = true) : mj_okb v = true := by
  cases v <;> first | rfl | (simp [Value.isRef] at h; done)
theorem mj_ref_cases {v : Value} (h : v.isRef = true) : v = .null ∨ ∃ a, v = .ref a := by
  cases v <;> first | (simp [Value.isRef] at h; done) | exact Or.inl rfl | exact Or.inr ⟨_, rfl⟩
/-- locals: what the small machine knows of them -/
def mj_lv (arr : Array Slot) (nL : Nat) (ls : List Value) : Prop := arr.size = nL ∧ lv_wf arr ∧ ls.length = nL ∧ ∀ (i : Nat) (v : Value), ls[i]? = some v → mj_okb v = true → arr[i]? = some (.val v)
def mj_prs (ls : List Value) : List (Nat × Value) := (List.range ls.length).filterMap (fun i => (ls[i]?).bind (fun v => if mj_okb v then some (i, v) else none))
theorem mj_prs_mem {ls : List Value} {q : Nat × Value} : q ∈ mj_prs ls ↔ ls[q.1]? = some q.2 ∧ mj_okb q.2 = true := by
  unfold mj_prs
  rw [List.mem_filterMap]
  constructor
  · rintro ⟨i, -, h⟩
    cases hv : ls[i]? with
    | none => rw [hv] at h; cases h
    | some v =>
      rw [hv] at h
      simp only [Option.bind_some] at h
      split at h
      · cases h; exact ⟨hv, by assumption⟩
      · cases h
  · rintro ⟨h1, h2⟩
    refine ⟨q.1, List.mem_range.mpr (List.getElem?_eq_some_iff.mp h1).1, ?_⟩
    rw [h1]
    simp [h2]
theorem mj_lv.has {arr : Array Slot} {nL : Nat} {ls : List Value} (h : mj_lv arr nL ls) : lv_has arr nL (mj_prs ls) :=
  ⟨h.1, h.2.1, fun q hq => h.2.2.2 q.1 q.2 (mj_prs_mem.mp hq).1 (mj_prs_mem.mp hq).2⟩
theorem mj_lv.set {arr arr' : Array Slot} {nL : Nat} {ls : List Value} {i : Nat} {v : Value} (h : mj_lv arr nL ls) (h' : lv_has arr' nL ((i, v) :: (mj_prs ls).filter (fun q => !(q.1 == i) && !(q.1 + 1 == i && q.2.category == 2)))) : mj_lv arr' nL (ls.set i v) := by
  refine ⟨h'.1, h'.2.1, by rw [List.length_set]; exact h.2.2.1, fun j u hj hu => ?_⟩
  rw [List.getElem?_set] at hj
  split at hj
  · split at hj
    · cases hj
      rename_i e _
      subst e
      exact h'.2.2 _ List.mem_cons_self
    · cases hj
  · rename_i e
    refine h'.2.2 (j, u) (List.mem_cons_of_mem _ (List.mem_filter.mpr ⟨mj_prs_mem.mpr ⟨hj, hu⟩, ?_⟩))
    have e2 : ¬ j = i := fun q => e q.symm
    simp [e2, mj_ok_cat hu]
theorem mj_lv.entry {vs : List Value} {nL : Nat} (hl : vs.length ≤ nL) (hc : ∀ v ∈ vs, v.category = 1) : mj_lv ((lg_sl vs ++ List.replicate (nL - (lg_sl vs).length) Slot.unset).toArray) nL (vs ++ List.replicate (nL - vs.length) (.retAddr 0)) := by
  have e : lg_sl vs = vs.map Slot.val := by
    clear hl
    induction vs with
    | nil => rfl
    | cons v vs ih =>
      have h1 := hc v List.mem_cons_self
      have h2 := ih (fun u hu => hc u (List.mem_cons_of_mem _ hu))
      unfold lg_sl at h2 ⊢
      simp [h1, h2]
  have hh := lv_entry vs (n := nL) (by rw [e, List.length_map]; exact hl)
  refine ⟨hh.1, hh.2.1, by simp; omega, fun i v hv ho => ?_⟩
  rw [e]
  by_cases hi : i < vs.length
  · rw [List.getElem?_append_left hi] at hv
    have e3 := (List.getElem?_eq_some_iff.mp hv).2
    simp [hi, List.getElem?_append_left]
    exact e3
  · rw [List.getElem?_append_right (by omega), List.getElem?_replicate] at hv
    split at hv
    · cases hv; simp [mj_okb] at ho
    · cases hv
/-- a cell of the small heap in the real one -/
def mj_at (D : va_G) (ca : FieldType → ClassId) (base : Nat) (U : State) (H : Heap) (a : Nat) (c : mj_C) : Prop := match c with
  | .inl q => if q.1 = .short then a < base ∧ ∃ g, q.2.2 = .inl g ∧ va_X a q.2.1 g U H else base ≤ a ∧ H[a]? = some (vp_cell (ca q.1) q.2)
  | .inr o => base ≤ a ∧ va_at D mj_cl (a, .inr o) H
def mj_HP (D : va_G) (ca : FieldType → ClassId) (base : Nat) (U : State) (h : mj_H) (H : Heap) : Prop := ∀ a c, h a = some c → mj_at D ca base U H a c
def mj_tys (ca : FieldType → ClassId) : List (ClassId × FieldType) := [(ca .int, .int), (ca .byte, .byte), (ca .boolean, .boolean), (ca .long, .long), (ca (.object RX0), .object RX0), (ca (.object RX1), .object RX1)]
def mj_Kn (D : va_G) (ca : FieldType → ClassId) (U : State) : Prop := va_K D mj_cl (mj_tys ca) U ∧ va_AO RX0 U ∧ va_AO RX1 U
theorem mj_Kn.moved {D : va_G} {ca : FieldType → ClassId} {u U : State} (hvm : u.vm.Alike U.vm) (h : mj_Kn D ca u) : mj_Kn D ca U := ⟨va_K.moved hvm h.1, va_AO.moved hvm h.2.1, va_AO.moved hvm h.2.2⟩
theorem mj_at.kept {D : va_G} {ca : FieldType → ClassId} {base : Nat} {U : State} {H H1 : Heap} {a : Nat} {c : mj_C} (h : mj_at D ca base U H a c) (hq : H1[a]? = H[a]?) : mj_at D ca base U H1 a c := by
  cases c with
  | inl q =>
    simp only [mj_at] at h ⊢
    split
    · rename_i e
      rw [if_pos e] at h
      obtain ⟨h1, g, h2, h3⟩ := h
      exact ⟨h1, g, h2, h3.kept hq⟩
    · rename_i e
      rw [if_neg e] at h
      exact ⟨h.1, by rw [hq]; exact h.2⟩
  | inr o => exact ⟨h.1, h.2.kept hq⟩
theorem mj_at.lt {D : va_G} {ca : FieldType → ClassId} {base : Nat} {U : State} {H : Heap} {a : Nat} {c : mj_C} (h : mj_at D ca base U H a c) : a < H.size := by
  cases c with
  | inl q =>
    simp only [mj_at] at h
    split at h
    · obtain ⟨h1, g, h2, scr, h3, -⟩ := h
      exact (Array.getElem?_eq_some_iff.mp h3).1
    · exact (Array.getElem?_eq_some_iff.mp h.2).1
  | inr o => exact va_at.lt h.2
theorem mj_at.moved {D : va_G} {ca : FieldType → ClassId} {base : Nat} {u U : State} {H : Heap} {a : Nat} {c : mj_C} (hvm : u.vm.Alike U.vm) (h : mj_at D ca base u H a c) : mj_at D ca base U H a c := by
  cases c with
  | inl q =>
    simp only [mj_at] at h ⊢
    split
    · rename_i e
      rw [if_pos e] at h
      obtain ⟨h1, g, h2, h3⟩ := h
      exact ⟨h1, g, h2, h3.moved hvm⟩
    · rename_i e
      rw [if_neg e] at h
      exact h
  | inr o => exact h
theorem mj_HP.moved {D : va_G} {ca : FieldType → ClassId} {base : Nat} {u U : State} {h : mj_H} {H : Heap} (hvm : u.vm.Alike U.vm) (hh : mj_HP D ca base u h H) : mj_HP D ca base U h H := fun a c e => (hh a c e).moved hvm
theorem mj_HP.put {D : va_G} {ca : FieldType → ClassId} {base : Nat} {U : State} {h : mj_H} {H H1 : Heap} {a : Nat} {c : mj_C} (hh : mj_HP D ca base U h H) (oq : ∀ q : Nat, q ≠ a → H1[q]? = H[q]?) (hc : mj_at D ca base U H1 a c) : mj_HP D ca base U (mj_up h a c) H1 := by
  intro b d hb
  unfold mj_up at hb
  split at hb
  · rename_i e; subst e; cases hb; exact hc
  · rename_i e; exact (hh b d hb).kept (oq b e)
theorem mj_HP.push {D : va_G} {ca : FieldType → ClassId} {base : Nat} {U : State} {h : mj_H} {H H1 : Heap} {c : mj_C} (hh : mj_HP D ca base U h H) (oq : ∀ q : Nat, q < H.size → H1[q]? = H[q]?) (hc : mj_at D ca base U H1 H.size c) : mj_HP D ca base U (mj_up h H.size c) H1 := by
  intro b d hb
  unfold mj_up at hb
  split at hb
  · rename_i e; subst e; cases hb; exact hc
  · exact (hh b d hb).kept (oq b (hh b d hb).lt)
theorem mj_arr {D : va_G} {ca : FieldType → ClassId} {base : Nat} {U : State} {h : mj_H} {H : Heap} {a : Nat} {ty : FieldType} {x : vp_A} (hh : mj_HP D ca base U h H) (e : h a = some (.inl (ty, x))) (hs : ty ≠ .short) : base ≤ a ∧ H[a]? = some (vp_cell (ca ty) x) := by
  have h1 := hh a _ e
  simp only [mj_at] at h1
  rwa [if_neg hs] at h1
theorem mj_scr {D : va_G} {ca : FieldType → ClassId} {base : Nat} {U : State} {h : mj_H} {H : Heap} {a : Nat} {x : vp_A} (hh : mj_HP D ca base U h H) (e : h a = some (.inl (.short, x))) : a < base ∧ ∃ g, x.2 = .inl g ∧ va_X a x.1 g U H := by
  have h1 := hh a _ e
  simpa only [mj_at, if_true] using h1
theorem mj_obj {D : va_G} {ca : FieldType → ClassId} {base : Nat} {U : State} {h : mj_H} {H : Heap} {a ci : Nat} {fs : List Value} (hh : mj_HP D ca base U h H) (e : h a = some (.inr (ci, fs))) : base ≤ a ∧ va_at D mj_cl (a, .inr (ci, fs)) H := hh a _ e
