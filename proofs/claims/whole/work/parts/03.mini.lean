/-! ===== the small machine: the instructions that class, reference and law use, over a heap of named cells; what it says of a method is proved of the real machine once (part 04) ===== -/
abbrev mj_C : Type := (FieldType × vp_A) ⊕ (Nat × List Value)
abbrev mj_H : Type := Nat → Option mj_C
abbrev mj_Q : Type := Option Value → mj_H → Nat → Prop
/-- where it goes on: pc, locals, stack, heap, its size, cells left, slots left -/
abbrev mj_K : Type := Nat → List Value → List Value → mj_H → Nat → Nat → Nat → Prop
/-- a call: method, arguments, heap, its size, cells and slots that it may take, what holds behind it -/
abbrev mj_B : Type := Nat → List Value → mj_H → Nat → Nat → Nat → mj_Q → Prop
def mj_up (h : mj_H) (a : Nat) (c : mj_C) : mj_H := fun b => if b = a then some c else h b
def mj_N (ci : Nat) : Nat := match mj_cl[ci]? with
  | some q => q.2.2
  | none => 0
def mj_new (ci : Nat) : List Value := (List.range (mj_N ci)).map (fun k => defaultValue (mj_ty ci k))
def mj_fin (ci k : Nat) : Bool := match mj_cl[ci]? with
  | some q => (q.2.1 k).2.2.2
  | none => false
def mj_c0 (c : ClassFile.Cond) (x : Int32) : Prop := match c with
  | .eq => x = 0
  | .ne => ¬ x = 0
  | .lt => x < 0
  | .ge => 0 ≤ x
  | .gt => 0 < x
  | .le => x ≤ 0
def mj_c2 (c : ClassFile.Cond) (x y : Int32) : Prop := match c with
  | .eq => x = y
  | .ne => ¬ x = y
  | .lt => x < y
  | .ge => y ≤ x
  | .gt => y < x
  | .le => x ≤ y
def mj_tg (pc : Nat) (off : Int) : Nat := ((pc : Int) + off).toNat
def mj_lenOk (i : Instr) (len : Nat) : Bool := match i with
  | .tableswitch .. => true
  | .bipush _ | .iload _ | .aload _ | .istore _ | .astore _ | .newarray _ => len == 2
  | .sipush _ | .iinc _ _ | .goto _ | .ifCond _ _ | .if_icmp _ _ | .ifnull _ | .ifnonnull _ | .getfield _ | .putfield _ | .invokevirtual _ | .invokespecial _ | .invokestatic _ | .new _ | .anewarray _ => len == 3
  | _ => len == 1
def mj_zero (ty : FieldType) : (Nat → Int32) ⊕ (Nat → Int64) ⊕ (Nat → UInt32) ⊕ (Nat → UInt64) ⊕ (Nat → Option Nat) := match ty with
  | .long => .inr (.inl (fun _ => 0))
  | _ => .inl (fun _ => 0)
/-- the cells a method's instructions may hold: int arrays by .int, the script (never written) by .short -/
def mj_call (B : mj_B) (y na : Nat) (K : mj_K) (recv : Bool) (pc : Nat) (ls st : List Value) (h : mj_H) (n rc rs : Nat) : Prop :=
  (∀ v ∈ st, v.category = 1) ∧ st.length ≤ na + 8 ∧ ∃ mc ms, mc ≤ rc ∧ ms ≤ rs ∧
    (if recv then ∃ b fs, st[na]? = some (.ref b) ∧ h b = some (.inr (mj_own y, fs)) ∧ B y (.ref b :: (st.take na).reverse) h n mc ms (fun r h' n' => K (pc + 3) ls (r.toList ++ st.drop (na + 1)) h' n' (rc - mc) (rs - ms))
    else na ≤ st.length ∧ B y (st.take na).reverse h n mc ms (fun r h' n' => K (pc + 3) ls (r.toList ++ st.drop na) h' n' (rc - mc) (rs - ms)))
def mj_step (B : mj_B) (me f w : Nat) (Q : mj_Q) (K : mj_K) (i : Instr) (pc : Nat) (ls st : List Value) (h : mj_H) (n rc rs : Nat) : Prop :=
  match i with
  | .iconst k => K (pc + 1) ls (.int (Int32.ofInt k) :: st) h n rc rs
  | .bipush k => K (pc + 2) ls (.int (Int8.ofInt k).toInt32 :: st) h n rc rs
  | .sipush k => K (pc + 3) ls (.int (Int16.ofInt k).toInt32 :: st) h n rc rs
  | .aconst_null => K (pc + 1) ls (.null :: st) h n rc rs
  | .iload_n k => ∃ x, ls[k.val]? = some (.int x) ∧ K (pc + 1) ls (.int x :: st) h n rc rs
  | .iload k => ∃ x, ls[k]? = some (.int x) ∧ K (pc + 2) ls (.int x :: st) h n rc rs
  | .aload_n k => ∃ v, ls[k.val]? = some v ∧ v.isRef = true ∧ K (pc + 1) ls (v :: st) h n rc rs
  | .aload k => ∃ v, ls[k]? = some v ∧ v.isRef = true ∧ K (pc + 2) ls (v :: st) h n rc rs
  | .istore_n k => ∃ x r, st = .int x :: r ∧ k.val < ls.length ∧ K (pc + 1) (ls.set k.val (.int x)) r h n rc rs
  | .istore k => ∃ x r, st = .int x :: r ∧ k < ls.length ∧ K (pc + 2) (ls.set k (.int x)) r h n rc rs
  | .astore_n k => ∃ v r, st = v :: r ∧ v.isRef = true ∧ k.val < ls.length ∧ K (pc + 1) (ls.set k.val v) r h n rc rs
  | .astore k => ∃ v r, st = v :: r ∧ v.isRef = true ∧ k < ls.length ∧ K (pc + 2) (ls.set k v) r h n rc rs
  | .iinc k c => ∃ x, ls[k]? = some (.int x) ∧ K (pc + 3) (ls.set k (.int (x + Int32.ofInt c))) st h n rc rs
  | .iadd => ∃ x y r, st = .int y :: .int x :: r ∧ K (pc + 1) ls (.int (x + y) :: r) h n rc rs
  | .isub => ∃ x y r, st = .int y :: .int x :: r ∧ K (pc + 1) ls (.int (x - y) :: r) h n rc rs
  | .imul => ∃ x y r, st = .int y :: .int x :: r ∧ K (pc + 1) ls (.int (x * y) :: r) h n rc rs
  | .iand => ∃ x y r, st = .int y :: .int x :: r ∧ K (pc + 1) ls (.int (x &&& y) :: r) h n rc rs
  | .ior => ∃ x y r, st = .int y :: .int x :: r ∧ K (pc + 1) ls (.int (x ||| y) :: r) h n rc rs
  | .ishl => ∃ x y r, st = .int y :: .int x :: r ∧ K (pc + 1) ls (.int (x <<< (y &&& 31)) :: r) h n rc rs
  | .ishr => ∃ x y r, st = .int y :: .int x :: r ∧ K (pc + 1) ls (.int (x >>> (y &&& 31)) :: r) h n rc rs
  | .i2b => ∃ x r, st = .int x :: r ∧ K (pc + 1) ls (.int x.toInt8.toInt32 :: r) h n rc rs
  | .i2l => ∃ x r, st = .int x :: r ∧ K (pc + 1) ls (.long x.toInt64 :: r) h n rc rs
  | .lcmp => ∃ x y r, st = .long y :: .long x :: r ∧ K (pc + 1) ls (.int (lg_cmp x y) :: r) h n rc rs
  | .dup => ∃ v r, st = v :: r ∧ v.category = 1 ∧ K (pc + 1) ls (v :: v :: r) h n rc rs
  | .dup2 => ∃ v u r, st = v :: u :: r ∧ v.category = 1 ∧ u.category = 1 ∧ K (pc + 1) ls (v :: u :: v :: u :: r) h n rc rs
  | .pop => ∃ v r, st = v :: r ∧ v.category = 1 ∧ K (pc + 1) ls r h n rc rs
  | .goto off => 0 ≤ (pc : Int) + off ∧ K (mj_tg pc off) ls st h n rc rs
  | .ifCond c off => ∃ x r, st = .int x :: r ∧ 0 ≤ (pc : Int) + off ∧ (mj_c0 c x → K (mj_tg pc off) ls r h n rc rs) ∧ (¬ mj_c0 c x → K (pc + 3) ls r h n rc rs)
  | .if_icmp c off => ∃ x y r, st = .int y :: .int x :: r ∧ 0 ≤ (pc : Int) + off ∧ (mj_c2 c x y → K (mj_tg pc off) ls r h n rc rs) ∧ (¬ mj_c2 c x y → K (pc + 3) ls r h n rc rs)
  | .ifnull off => ∃ v r, st = v :: r ∧ v.isRef = true ∧ 0 ≤ (pc : Int) + off ∧ (v = .null → K (mj_tg pc off) ls r h n rc rs) ∧ (¬ v = .null → K (pc + 3) ls r h n rc rs)
  | .ifnonnull off => ∃ v r, st = v :: r ∧ v.isRef = true ∧ 0 ≤ (pc : Int) + off ∧ (¬ v = .null → K (mj_tg pc off) ls r h n rc rs) ∧ (v = .null → K (pc + 3) ls r h n rc rs)
  | .tableswitch d lo hi offs => ∃ x r, st = .int x :: r ∧ 0 ≤ (pc : Int) + d ∧ ((x.toInt < lo ∨ hi < x.toInt) → K (mj_tg pc d) ls r h n rc rs) ∧ (¬ (x.toInt < lo ∨ hi < x.toInt) → ∃ off, offs[(x.toInt - lo).toNat]? = some off ∧ 0 ≤ (pc : Int) + off ∧ K (mj_tg pc off) ls r h n rc rs)
  | .getfield idx => ∃ a r ci k fs v, st = .ref a :: r ∧ mj_fld (mj_own me) idx = some (ci, k) ∧ h a = some (.inr (ci, fs)) ∧ fs[k]? = some v ∧ K (pc + 3) ls (v :: r) h n rc rs
  | .putfield idx => ∃ v a r ci k fs, st = v :: .ref a :: r ∧ mj_fld (mj_own me) idx = some (ci, k) ∧ h a = some (.inr (ci, fs)) ∧ k < fs.length ∧ narrow (mj_ty ci k) v = v ∧ fits (mj_ty ci k) v = true ∧ (mj_fin ci k = true → mj_kind me = 2 ∧ mj_own me = ci) ∧ K (pc + 3) ls r (mj_up h a (.inr (ci, fs.set k v))) n rc rs
  | .new idx => ∃ ci, mj_cls (mj_own me) idx = some ci ∧ 1 ≤ rc ∧ mj_N ci ≤ rs ∧ K (pc + 3) ls (.ref n :: st) (mj_up h n (.inr (ci, mj_new ci))) (n + 1) (rc - 1) (rs - mj_N ci)
  | .newarray ty => ∃ x r, st = .int x :: r ∧ ¬ x < 0 ∧ x.toNatClampNeg ≤ 60000 ∧ 1 ≤ rc ∧ x.toNatClampNeg ≤ rs ∧ (newarray.typeOf ty = .int ∨ newarray.typeOf ty = .byte ∨ newarray.typeOf ty = .boolean ∨ newarray.typeOf ty = .long) ∧ K (pc + 2) ls (.ref n :: r) (mj_up h n (.inl (newarray.typeOf ty, x.toNatClampNeg, mj_zero (newarray.typeOf ty)))) (n + 1) (rc - 1) (rs - x.toNatClampNeg)
  | .anewarray idx => ∃ x r ci, st = .int x :: r ∧ mj_cls (mj_own me) idx = some ci ∧ ci < 2 ∧ ¬ x < 0 ∧ x.toNatClampNeg ≤ 60000 ∧ 1 ≤ rc ∧ x.toNatClampNeg ≤ rs ∧ K (pc + 3) ls (.ref n :: r) (mj_up h n (.inl (.object (mj_R ci), x.toNatClampNeg, .inr (.inr (.inr (.inr (fun _ => none))))))) (n + 1) (rc - 1) (rs - x.toNatClampNeg)
  | .arraylength => ∃ a r ty x, st = .ref a :: r ∧ h a = some (.inl (ty, x)) ∧ (ty = .int ∨ ty = .short ∨ ty = .byte) ∧ K (pc + 1) ls (.int (Int32.ofNat x.1) :: r) h n rc rs
  | .iaload => ∃ j a r ty m g, st = .int j :: .ref a :: r ∧ h a = some (.inl (ty, m, .inl g)) ∧ (ty = .int ∨ ty = .short) ∧ vp_in j m ∧ K (pc + 1) ls (.int (g j.toNatClampNeg) :: r) h n rc rs
  | .baload => ∃ j a r ty m g, st = .int j :: .ref a :: r ∧ h a = some (.inl (ty, m, .inl g)) ∧ (ty = .byte ∨ ty = .boolean) ∧ vp_in j m ∧ K (pc + 1) ls (.int (g j.toNatClampNeg) :: r) h n rc rs
  | .laload => ∃ j a r m g, st = .int j :: .ref a :: r ∧ h a = some (.inl (.long, m, .inr (.inl g))) ∧ vp_in j m ∧ K (pc + 1) ls (.long (g j.toNatClampNeg) :: r) h n rc rs
  | .aaload => ∃ j a r ci m g, st = .int j :: .ref a :: r ∧ h a = some (.inl (.object (mj_R ci), m, .inr (.inr (.inr (.inr g))))) ∧ ci < 2 ∧ vp_in j m ∧ K (pc + 1) ls (va_rf (g j.toNatClampNeg) :: r) h n rc rs
  | .iastore => ∃ x j a r m g, st = .int x :: .int j :: .ref a :: r ∧ h a = some (.inl (.int, m, .inl g)) ∧ vp_in j m ∧ K (pc + 1) ls r (mj_up h a (.inl (.int, m, .inl (upd g j.toNatClampNeg x)))) n rc rs
  | .bastore => ∃ x j a r ty m g, st = .int x :: .int j :: .ref a :: r ∧ h a = some (.inl (ty, m, .inl g)) ∧ (ty = .byte ∨ ty = .boolean) ∧ vp_in j m ∧ K (pc + 1) ls r (mj_up h a (.inl (ty, m, .inl (upd g j.toNatClampNeg (vp_nar ty x))))) n rc rs
  | .lastore => ∃ x j a r m g, st = .long x :: .int j :: .ref a :: r ∧ h a = some (.inl (.long, m, .inr (.inl g))) ∧ vp_in j m ∧ K (pc + 1) ls r (mj_up h a (.inl (.long, m, .inr (.inl (vp_updL g j.toNatClampNeg x))))) n rc rs
  | .aastore => ∃ v j a r ci fs m g, st = .ref v :: .int j :: .ref a :: r ∧ h a = some (.inl (.object (mj_R ci), m, .inr (.inr (.inr (.inr g))))) ∧ ci < 2 ∧ h v = some (.inr (ci, fs)) ∧ vp_in j m ∧ K (pc + 1) ls r (mj_up h a (.inl (.object (mj_R ci), m, .inr (.inr (.inr (.inr (va_up g j.toNatClampNeg (some v)))))))) n rc rs
  | .invokevirtual idx => ∃ y, mj_mth (mj_own me) idx = some y ∧ mj_kind y = 1 ∧ mj_call B y (mj_na y) K true pc ls st h n rc rs
  | .invokestatic idx => (∃ y, mj_mth (mj_own me) idx = some y ∧ mj_kind y = 0 ∧ mj_own y = mj_own me ∧ mj_call B y (mj_na y) K false pc ls st h n rc rs) ∨
      (∃ x y r, st = .int y :: .int x :: r ∧ 1 ≤ f ∧ (r.map fun v => v.category).sum + 13 ≤ w ∧
        (((mj_own me, idx) ∈ mj_Mx ∧ K (pc + 3) ls (.int (if x < y then y else x) :: r) h n rc rs) ∨ ((mj_own me, idx) ∈ mj_Mi ∧ K (pc + 3) ls (.int (if y < x then y else x) :: r) h n rc rs)))
  | .invokespecial idx => if (mj_own me, idx) ∈ mj_Oi then ∃ a r, st = .ref a :: r ∧ 1 ≤ f ∧ (r.map fun v => v.category).sum + 12 ≤ w ∧ K (pc + 3) ls r h n rc rs
      else ∃ y, mj_mth (mj_own me) idx = some y ∧ mj_kind y = 2 ∧ mj_call B y (mj_na y) K true pc ls st h n rc rs
  | .ireturn => ∃ x ty, st = [.int x] ∧ mj_ret me = some ty ∧ narrow ty (.int x) = .int x ∧ Q (some (.int x)) h n
  | .areturn => ∃ v C, st = [v] ∧ v.isRef = true ∧ mj_ret me = some (.object C) ∧ Q (some v) h n
  | .return_ => st = [] ∧ mj_ret me = none ∧ Q none h n
  | _ => False
def mj_one (B : mj_B) (me f w : Nat) (Q : mj_Q) (Z K : mj_K) : mj_K := fun pc ls st h n rc rs => Z pc ls st h n rc rs ∨ ∃ i len, decode (mj_code me) pc = .ok (i, len) ∧ mj_lenOk i len = true ∧ mj_step B me f w Q K i pc ls st h n rc rs
/-- the least K that its own step gives: it comes to a cut (Z) or to its end (Q) -/
def mj_wp (B : mj_B) (me f w : Nat) (Q : mj_Q) (Z : mj_K) : mj_K := fun pc ls st h n rc rs =>
  ∀ P : mj_K, (∀ pc ls st h n rc rs, mj_one B me f w Q Z P pc ls st h n rc rs → P pc ls st h n rc rs) → P pc ls st h n rc rs
def mj_entry (y : Nat) (args : List Value) : List Value := args ++ List.replicate (mj_maxL y - args.length) (.retAddr 0)
def mj_noZ : mj_K := fun _ _ _ _ _ _ _ => False
/-- calls with so many frames and so many words of locals left -/
def mj_bk : Nat → Nat → mj_B
  | 0, _ => fun _ _ _ _ _ _ _ => False
  | f + 1, w => fun y a h n mc ms Q => y < mj_n ∧ 19 + mj_maxL y ≤ w ∧ a.length ≤ mj_maxL y ∧ (∀ v ∈ a, v.category = 1) ∧ mj_wp (mj_bk f (w - (19 + mj_maxL y))) y f (w - (19 + mj_maxL y)) Q mj_noZ 0 (mj_entry y a) [] h n mc ms
