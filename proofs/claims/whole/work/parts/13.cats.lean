/-! ===== small words for the printed steps ===== -/
theorem mj_tA {q : Prop} : (true = true ∧ q) = q := propext ⟨fun h => h.2, fun h => ⟨rfl, h⟩⟩
theorem mj_t1 {q : Prop} : ((1 : Nat) = 1 ∧ q) = q := propext ⟨fun h => h.2, fun h => ⟨rfl, h⟩⟩
theorem mj_tN {a : Nat} {p q : Prop} : ((Value.ref a).isRef = true ∧ ((Value.ref a) = .null → p) ∧ (¬ (Value.ref a) = .null → q)) = q := propext ⟨fun h => h.2.2 (fun e => by cases e), fun h => ⟨rfl, (fun e => by cases e), fun _ => h⟩⟩
theorem mj_tN2 {p q : Prop} : (Value.null.isRef = true ∧ (Value.null = .null → p) ∧ (¬ Value.null = .null → q)) = p := propext ⟨fun h => h.2.1 rfl, fun h => ⟨rfl, fun _ => h, fun e => absurd rfl e⟩⟩
theorem mj_tM {a : Nat} {p q : Prop} : ((Value.ref a).isRef = true ∧ (¬ (Value.ref a) = .null → p) ∧ ((Value.ref a) = .null → q)) = p := propext ⟨fun h => h.2.1 (fun e => by cases e), fun h => ⟨rfl, fun _ => h, fun e => by cases e⟩⟩
theorem mj_tM2 {p q : Prop} : (Value.null.isRef = true ∧ (¬ Value.null = .null → p) ∧ (Value.null = .null → q)) = q := propext ⟨fun h => h.2.2 rfl, fun h => ⟨rfl, fun e => absurd rfl e, fun _ => h⟩⟩
def mj_cats (st : List Value) : Bool := st.all mj_okb && decide (st.length ≤ 8)
theorem mj_catsH {st : List Value} (h : mj_cats st = true) : ∀ v ∈ st, v.category = 1 := by
  simp only [mj_cats, Bool.and_eq_true, List.all_eq_true] at h
  exact fun v hv => mj_ok_cat (h.1 v hv)
theorem mj_catsL {st : List Value} {na : Nat} (h : mj_cats st = true) : st.length ≤ na + 8 := by
  simp only [mj_cats, Bool.and_eq_true, decide_eq_true_eq] at h
  omega
theorem mj_up_s {h : mj_H} {a : Nat} {c : mj_C} : mj_up h a c a = some c := by simp [mj_up]
theorem mj_up_n {h : mj_H} {a b : Nat} {c : mj_C} (hn : b ≠ a) : mj_up h a c b = h b := by simp [mj_up, hn]
