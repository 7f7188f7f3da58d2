/-! ===== the state as numbers ===== -/
/-- S f i j: register f at i, j -/
abbrev St : Type := Nat → Nat → Nat → Nat
def S_no (S : St) : Nat := S 0 0 0
def S_kd (S : St) (i : Nat) : Nat := S 1 i 0
def S_sz (S : St) (i : Nat) : Nat := S 2 i 0
def S_by (S : St) (i j : Nat) : Nat := S 3 i j
/-- 0: OWN; p + 1: IN pack p -/
def S_pk (S : St) (i : Nat) : Nat := S 4 i 0
def S_ix (S : St) (i : Nat) : Nat := S 5 i 0
def S_np (S : St) : Nat := S 6 0 0
def S_ct (S : St) (p : Nat) : Nat := S 7 p 0
def S_fs (S : St) (p : Nat) : Nat := S 8 p 0
/-- 0: extends none; q + 1: extends q -/
def S_ex (S : St) (p : Nat) : Nat := S 9 p 0
def S_pz (S : St) (p : Nat) : Nat := S 10 p 0
def S_pb (S : St) (p j : Nat) : Nat := S 11 p j
def S_nt (S : St) : Nat := S 12 0 0
def S_tf (S : St) (i : Nat) : Nat := S 13 i 0
def S_tp (S : St) (i : Nat) : Nat := S 14 i 0
def S_up (S : St) (f i j v : Nat) : St := fun g a b => if g = f ∧ a = i ∧ b = j then v else S g a b
/-- a byte as Java has it -/
def bS (c : Nat) : Int32 := (nI c).toInt8.toInt32
theorem bS_and : ∀ c, c < 256 → bS c &&& 255 = nI c := by decide +kernel
theorem bS_nar (c : Nat) : vp_nar .byte (bS c) = bS c := pk_vb (nI c)
theorem bS_narrow (c : Nat) : narrow .byte (.int (bS c)) = .int (bS c) := pk_nb _
theorem nar_b0 : narrow .boolean (.int 0) = .int 0 := rfl
theorem nar_b1 : narrow .boolean (.int 1) = .int 1 := rfl
theorem nar_y0 : narrow .byte (.int 0) = .int 0 := rfl
/-- PAIR k of pack p is THERE -/
def S_th (S : St) (p k : Nat) : Bool := decide (k < S_ct S p) && decide (4 * k + 4 ≤ S_pz S p) && decide (4 * k + 4 ≤ S_fs S p)
theorem S_th_iff {S : St} {p k : Nat} : S_th S p k = true ↔ k < S_ct S p ∧ 4 * k + 4 ≤ S_pz S p ∧ 4 * k + 4 ≤ S_fs S p := by
  simp only [S_th, Bool.and_eq_true, decide_eq_true_eq, and_assoc]
/-- of a number that may be none of a PAIR's -/
def S_thI (S : St) (p : Nat) (k : Int32) : Bool := decide (0 ≤ k) && S_th S p k.toNatClampNeg
def S_num (S : St) (p k which : Nat) : Nat := 256 * S_pb S p (4 * k + 2 * which) + S_pb S p (4 * k + 2 * which + 1)
/-- a pack's numbers in their bounds -/
def S_pok (S : St) (p : Nat) : Prop := S_ct S p ≤ 99 ∧ S_fs S p ≤ 600 ∧ S_pz S p ≤ 600 ∧ ∀ j, S_pb S p j < 256
/-- a pack of the class -/
def PK (h : mj_H) (a p : Nat) (S : St) : Prop := ∃ q g b, h a = some (.inr (1, [.int (nI p), .int (nI (S_ct S p)), .int (nI (S_fs S p)), .ref q, .int (nI (S_pz S p)), b])) ∧ h q = some (.inl (.byte, 600, .inl g)) ∧ (∀ j, j < S_pz S p → g j = bS (S_pb S p j)) ∧ S_pok S p
theorem rf_some {a : Nat} : va_rf (some a) = .ref a := rfl
theorem rf_none : va_rf none = .null := rfl
theorem b10 : ((1 : Int32) = 0) = False := by decide
theorem i32_0 : (0 : Int32).toInt = 0 := rfl
theorem i32_m1 : (-1 : Int32).toInt = -1 := rfl
theorem i32_600 : (600 : Int32).toInt = 600 := rfl
theorem i32_60 : (60 : Int32).toInt = 60 := rfl
theorem i32_20 : (20 : Int32).toInt = 20 := rfl
theorem i32_99 : (99 : Int32).toInt = 99 := rfl
theorem i32_10 : (10 : Int32).toInt = 10 := rfl
theorem i32_1 : (1 : Int32).toInt = 1 := rfl
theorem i32_2 : (2 : Int32).toInt = 2 := rfl
theorem i32_eq {x y : Int32} : x = y ↔ x.toInt = y.toInt := ⟨fun h => by rw [h], fun h => Int32.toInt_inj.mp h⟩
theorem nI_cl {n : Nat} (h : n < 2147483648) : (nI n).toNatClampNeg = n := nI_clamp h
theorem nI_tI {n : Nat} (h : n < 2147483648) : (nI n).toInt = (n : Int) := nI_toInt h
theorem i32_of {x : Int32} (h : 0 ≤ x.toInt) : ∃ j : Nat, j < 2147483648 ∧ x = nI j ∧ x.toInt = (j : Int) := by
  obtain ⟨j, h1, h2⟩ := nI_of (x := x) (by simp only [Int32.lt_iff_toInt_lt, i32_0]; omega)
  exact ⟨j, h1, h2, by rw [h2]; exact nI_toInt h1⟩
theorem i32_cl {x : Int32} (h : 0 ≤ x.toInt) : (x.toNatClampNeg : Int) = x.toInt := by
  obtain ⟨j, h1, h2, h3⟩ := i32_of h
  rw [h3, h2, nI_clamp h1]
theorem bS_two {x y : Nat} (hx : x < 256) (hy : y < 256) : (nI x <<< ((8 : Int32) &&& 31)) ||| nI y = nI (256 * x + y) := by
  have h1 : nI x <<< ((8 : Int32) &&& 31) = nI (x * 2 ^ 8) := pk_shlN _ 8 (by decide +kernel) (by omega)
  rw [h1]
  have h2 : x * 2 ^ 8 ||| y = 256 * x + y := by
    have h3 := Nat.shiftLeft_add_eq_or_of_lt (i := 8) (b := y) (by omega) x
    rw [Nat.shiftLeft_eq] at h3
    omega
  rw [← h2]
  apply Int32.toBitVec_inj.mp
  show BitVec.ofNat 32 _ ||| BitVec.ofNat 32 _ = BitVec.ofNat 32 _
  rw [BitVec.ofNat_or]
/-- arguments that a call may have -/
def mj_aOk (y : Nat) (a : List Value) : Bool := decide (a.length ≤ mj_maxL y) && a.all mj_okb
theorem mj_begin {f w y : Nat} {a : List Value} {h : mj_H} {n mc ms : Nat} {Q : mj_Q} (hf : 1 ≤ f) (hy : y < mj_n) (hw : 19 + mj_maxL y ≤ w) (ho : mj_aOk y a = true) (hb : mj_W (f - 1) (w - (19 + mj_maxL y)) y mj_noZ Q 0 (mj_entry y a) [] h n mc ms) : mj_bk f w y a h n mc ms Q := by
  simp only [mj_aOk, Bool.and_eq_true, decide_eq_true_eq, List.all_eq_true] at ho
  exact mj_in_call hf hy hw ho.1 (fun v hv => mj_ok_cat (ho.2 v hv)) hb
