/-! ===== what the tables say, entry by entry, decided by program ===== -/
/-- the words that a call hands on -/
def mj_T : List Cond := lw_tbl.filter goodWord
def mj_in (w : Cond) : Bool := decide (w ∈ lw_tbl) && goodWord w
theorem mj_in_T {w : Cond} (h : mj_in w = true) : w ∈ mj_T := by
  simp only [mj_in, Bool.and_eq_true, decide_eq_true_eq] at h
  exact List.mem_filter.mpr h
theorem mj_T_tbl {w : Cond} (h : w ∈ mj_T) : w ∈ lw_tbl := (List.mem_filter.mp h).1
theorem mj_T_good {w : Cond} (h : w ∈ mj_T) : goodWord w = true := (List.mem_filter.mp h).2
def mj_fOk (q : (Nat × Nat) × (Nat × Nat)) : Bool := match mj_cl[q.2.1]? with
  | some r => decide (q.2.2 < r.2.2) && mj_in (Cond.fieldLink (mj_R q.1.1) q.1.2 (r.2.1 q.2.2).1 (r.2.1 q.2.2).2.1 (r.2.1 q.2.2).2.2.1) && decide ((r.2.1 q.2.2).1 = r.1)
  | none => false
theorem mj_F_ok : mj_F.all mj_fOk = true := by decide +kernel
theorem mj_find {α : Type} {l : List ((Nat × Nat) × α)} {p : ((Nat × Nat) × α) → Bool} (h : l.all p = true) {own idx : Nat} {v : α} (hf : (l.find? (fun q => q.1 == (own, idx))).map (fun q => q.2) = some v) : p ((own, idx), v) = true := by
  cases he : l.find? (fun q => q.1 == (own, idx)) with
  | none => rw [he] at hf; cases hf
  | some q =>
    rw [he] at hf
    obtain ⟨k, w⟩ := q
    cases hf
    have h1 := List.find?_some he
    have h2 := List.mem_of_find?_eq_some he
    have h3 : k = (own, idx) := by simpa using h1
    subst h3
    exact List.all_eq_true.mp h _ h2
theorem mj_fld_spec {own idx ci k : Nat} (h : mj_fld own idx = some (ci, k)) : ∃ C T N, mj_cl[ci]? = some (C, T, N) ∧ k < N ∧ Cond.fieldLink (mj_R own) idx (T k).1 (T k).2.1 (T k).2.2.1 ∈ mj_T ∧ (T k).1 = C := by
  have h1 := mj_find mj_F_ok h
  simp only [mj_fOk] at h1
  cases hc : mj_cl[ci]? with
  | none => rw [hc] at h1; cases h1
  | some r =>
    rw [hc] at h1
    obtain ⟨C, T, N⟩ := r
    simp only [Bool.and_eq_true, decide_eq_true_eq] at h1
    exact ⟨C, T, N, rfl, h1.1.1, mj_in_T h1.1.2, h1.2⟩
def mj_mOk (q : (Nat × Nat) × Nat) : Bool := decide (q.2 < mj_n) && mj_in (Cond.methodLink (mj_R q.1.1) q.1.2 (mj_y q.2))
theorem mj_M_ok : mj_M.all mj_mOk = true := by decide +kernel
theorem mj_mth_spec {own idx y : Nat} (h : mj_mth own idx = some y) : y < mj_n ∧ Cond.methodLink (mj_R own) idx (mj_y y) ∈ mj_T := by
  have h1 := mj_find mj_M_ok h
  simp only [mj_mOk, Bool.and_eq_true, decide_eq_true_eq] at h1
  exact ⟨h1.1, mj_in_T h1.2⟩
def mj_kOk (q : (Nat × Nat) × Nat) : Bool := decide (q.2 < 4) && mj_in (Cond.classLink (mj_R q.1.1) q.1.2 (mj_R q.2)) && mj_in (Cond.instantiable (mj_R q.2) (mj_N q.2)) && mj_in (Cond.initialized (mj_R q.2))
theorem mj_Kl_ok : mj_Kl.all mj_kOk = true := by decide +kernel
theorem mj_cls_spec {own idx ci : Nat} (h : mj_cls own idx = some ci) : ci < 4 ∧ Cond.classLink (mj_R own) idx (mj_R ci) ∈ mj_T ∧ Cond.instantiable (mj_R ci) (mj_N ci) ∈ mj_T ∧ Cond.initialized (mj_R ci) ∈ mj_T := by
  have h1 := mj_find mj_Kl_ok h
  simp only [mj_kOk, Bool.and_eq_true, decide_eq_true_eq] at h1
  obtain ⟨⟨⟨h1, h2⟩, h3⟩, h4⟩ := h1
  exact ⟨h1, mj_in_T h2, mj_in_T h3, mj_in_T h4⟩
def mj_yOk (y : Nat) : Bool := decide ((mj_y y).cls = mj_R (mj_own y)) && plainName (mj_y y).cls && decide ((mj_y y).cls ≠ "java/lang/invoke/MethodHandle") && decide ((mj_y y).cls ≠ "java/lang/invoke/VarHandle") && decide ((parseMethodDescriptor (mj_y y).desc).map (fun d => d.parameters.length) = some (mj_na y)) && mj_in (Cond.initialized (mj_y y).cls) &&
  (match mj_kind y with
  | 0 => mj_in (Cond.static (mj_y y))
  | 1 => mj_in (Cond.instanceMethod (mj_y y)) && mj_in (Cond.selects (mj_y y).cls (mj_y y) (mj_y y))
  | _ => mj_in (Cond.instanceMethod (mj_y y)) && decide ((mj_y y).name = "<init>") && decide (mj_ret y = none)) && decide (mj_kind y < 3) && decide (mj_own y < 4)
set_option maxRecDepth 20000 in
theorem mj_Y_ok : (List.range mj_n).all mj_yOk = true := by decide +kernel
theorem mj_y_spec {y : Nat} (h : y < mj_n) : (mj_y y).cls = mj_R (mj_own y) ∧ plainName (mj_y y).cls = true ∧ (mj_y y).cls ≠ "java/lang/invoke/MethodHandle" ∧ (mj_y y).cls ≠ "java/lang/invoke/VarHandle" ∧ (parseMethodDescriptor (mj_y y).desc).map (fun d => d.parameters.length) = some (mj_na y) ∧ Cond.initialized (mj_y y).cls ∈ mj_T ∧ mj_own y < 4 ∧
    (mj_kind y = 0 → Cond.static (mj_y y) ∈ mj_T) ∧ (mj_kind y = 1 → Cond.instanceMethod (mj_y y) ∈ mj_T ∧ Cond.selects (mj_y y).cls (mj_y y) (mj_y y) ∈ mj_T) ∧ (mj_kind y = 2 → Cond.instanceMethod (mj_y y) ∈ mj_T ∧ (mj_y y).name = "<init>" ∧ mj_ret y = none) := by
  have h1 := List.all_eq_true.mp mj_Y_ok y (List.mem_range.mpr h)
  simp only [mj_yOk, Bool.and_eq_true, decide_eq_true_eq] at h1
  obtain ⟨⟨⟨⟨⟨⟨⟨⟨a1, a2⟩, a3⟩, a4⟩, a5⟩, a6⟩, a7⟩, a8⟩, a9⟩ := h1
  refine ⟨a1, a2, a3, a4, a5, mj_in_T a6, a9, fun e => ?_, fun e => ?_, fun e => ?_⟩
  · rw [e] at a7; exact mj_in_T a7
  · rw [e] at a7
    simp only [Bool.and_eq_true] at a7
    exact ⟨mj_in_T a7.1, mj_in_T a7.2⟩
  · rw [e] at a7
    simp only [Bool.and_eq_true, decide_eq_true_eq] at a7
    exact ⟨mj_in_T a7.1.1, a7.1.2, a7.2⟩
theorem mj_cl_cases {ci : Nat} {q : vw_C} {P : Nat → vw_C → Prop} (h0 : P 0 (RX0, TX0, 7)) (h1 : P 1 (RX1, TX1, 6)) (h2 : P 2 (RX2, TX2, 10)) (h3 : P 3 (RX3, TX3, 22)) (h : mj_cl[ci]? = some q) : P ci q := by
  match ci, h with
  | 0, h => cases h; exact h0
  | 1, h => cases h; exact h1
  | 2, h => cases h; exact h2
  | 3, h => cases h; exact h3
  | k + 4, h => simp [mj_cl] at h
theorem mj_ws0b : (u_ws RX0 TX0 7).all mj_in = true := by decide +kernel
theorem mj_ws0 : ∀ w ∈ u_ws RX0 TX0 7, w ∈ mj_T := fun w h => mj_in_T (List.all_eq_true.mp mj_ws0b w h)
theorem mj_ws1b : (u_ws RX1 TX1 6).all mj_in = true := by decide +kernel
theorem mj_ws1 : ∀ w ∈ u_ws RX1 TX1 6, w ∈ mj_T := fun w h => mj_in_T (List.all_eq_true.mp mj_ws1b w h)
theorem mj_ws2b : (u_ws RX2 TX2 10).all mj_in = true := by decide +kernel
theorem mj_ws2 : ∀ w ∈ u_ws RX2 TX2 10, w ∈ mj_T := fun w h => mj_in_T (List.all_eq_true.mp mj_ws2b w h)
theorem mj_ws3b : (u_ws RX3 TX3 22).all mj_in = true := by decide +kernel
theorem mj_ws3 : ∀ w ∈ u_ws RX3 TX3 22, w ∈ mj_T := fun w h => mj_in_T (List.all_eq_true.mp mj_ws3b w h)
theorem mj_wsIn {ci : Nat} {q : vw_C} (h : mj_cl[ci]? = some q) : ∀ w ∈ u_ws q.1 q.2.1 q.2.2, w ∈ mj_T :=
  mj_cl_cases (P := fun _ q => ∀ w ∈ u_ws q.1 q.2.1 q.2.2, w ∈ mj_T) mj_ws0 mj_ws1 mj_ws2 mj_ws3 h
theorem mj_tyOk {ci : Nat} {q : vw_C} (h : mj_cl[ci]? = some q) : ∀ k, k < q.2.2 → parseFieldDescriptor (q.2.1 k).2.2.1 = some (mj_ty ci k) :=
  mj_cl_cases (P := fun ci q => ∀ k, k < q.2.2 → parseFieldDescriptor (q.2.1 k).2.2.1 = some (mj_ty ci k)) tyX0_ok tyX1_ok tyX2_ok tyX3_ok h
theorem mj_nmOk {ci : Nat} {q : vw_C} (h : mj_cl[ci]? = some q) : ∀ a, a < q.2.2 → ∀ b, b < q.2.2 → a ≠ b → (q.2.1 a).2.1 ≠ (q.2.1 b).2.1 :=
  mj_cl_cases (P := fun _ q => ∀ a, a < q.2.2 → ∀ b, b < q.2.2 → a ≠ b → (q.2.1 a).2.1 ≠ (q.2.1 b).2.1) nmX0 nmX1 nmX2 nmX3 h
theorem mj_clR {ci : Nat} {q : vw_C} (h : mj_cl[ci]? = some q) : q.1 = mj_R ci ∧ q.2.2 = mj_N ci ∧ ∀ k, (q.2.1 k).2.2.2 = mj_fin ci k :=
  mj_cl_cases (P := fun ci q => q.1 = mj_R ci ∧ q.2.2 = mj_N ci ∧ ∀ k, (q.2.1 k).2.2.2 = mj_fin ci k) ⟨rfl, rfl, fun _ => rfl⟩ ⟨rfl, rfl, fun _ => rfl⟩ ⟨rfl, rfl, fun _ => rfl⟩ ⟨rfl, rfl, fun _ => rfl⟩ h
theorem mj_cl_some {ci : Nat} (h : ci < 4) : ∃ T N, mj_cl[ci]? = some (mj_R ci, T, N) ∧ N = mj_N ci := by
  match ci, h with
  | 0, _ => exact ⟨_, _, rfl, rfl⟩
  | 1, _ => exact ⟨_, _, rfl, rfl⟩
  | 2, _ => exact ⟨_, _, rfl, rfl⟩
  | 3, _ => exact ⟨_, _, rfl, rfl⟩
def mj_ws (y : Nat) : List Cond := Cond.code (mj_y y) (mj_code y) (mj_maxL y) (mj_ret y) :: mj_T
theorem mj_wsGood {y : Nat} (h : y < mj_n) : GoodIn mj_T (mj_ws y) := by
  intro w hw
  have hm : w ∈ mj_T := by
    rcases List.mem_cons.mp hw with e | e
    · rw [e]; exact List.mem_filter.mpr ⟨mj_code_in y h, rfl⟩
    · exact e
  exact ⟨hm, good_of_word (mj_T_good hm)⟩
