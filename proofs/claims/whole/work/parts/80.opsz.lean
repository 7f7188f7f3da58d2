/-! ===== the small machine with cuts: before a turn of the law's loop, where law.at and law.octet are called, where at (22) and octet (18) make what they throw ===== -/
def mj_Zc (pc : Nat) : Bool := pc == 23 || pc == 273 || pc == 442 || pc == 22 || pc == 18
def mj_Zl (Z : mj_K) : mj_K := fun pc ls st h n rc rs => mj_Zc pc = true ∧ Z pc ls st h n rc rs
theorem mj_goZ {f w me : Nat} {Z : mj_K} {Q : mj_Q} {pc : Nat} {i : Instr} {len : Nat} (hd : decode (mj_code me) pc = .ok (i, len)) (hz : mj_Zc pc = false) (hl : mj_lenOk i len = true) {ls st : List Value} {h : mj_H} {n rc rs : Nat} :
    mj_W f w me (mj_Zl Z) Q pc ls st h n rc rs = mj_step (mj_bk f w) me f w Q (mj_W f w me (mj_Zl Z) Q) i pc ls st h n rc rs := by
  rw [mj_go hd hl]
  exact propext ⟨fun q => q.elim (fun z => by have := z.1; rw [hz] at this; cases this) id, Or.inr⟩
theorem mj_cut {f w me : Nat} {Z : mj_K} {Q : mj_Q} {pc : Nat} {ls st : List Value} {h : mj_H} {n rc rs : Nat} (hz : mj_Zc pc = true) (hq : Z pc ls st h n rc rs) : mj_W f w me (mj_Zl Z) Q pc ls st h n rc rs :=
  mj_fold (mj_bk_mono f w) (Or.inl ⟨hz, hq⟩)
section MJO
variable {Z : mj_K} {f w me : Nat} {Q : mj_Q} {pc : Nat} {ls st : List Value} {h : mj_H} {n rc rs : Nat}
theorem z_iconst {j : Int} {x : Int32} (hd : decode (mj_code me) pc = .ok (.iconst j, 1)) (hz : mj_Zc pc = false) (hx : Int32.ofInt j = x) : mj_W f w me (mj_Zl Z) Q pc ls st h n rc rs = mj_W f w me (mj_Zl Z) Q (pc + 1) ls (.int x :: st) h n rc rs := by
  subst hx; rw [mj_goZ hd hz rfl]; rfl
theorem z_bipush {j : Int} {x : Int32} (hd : decode (mj_code me) pc = .ok (.bipush j, 2)) (hz : mj_Zc pc = false) (hx : (Int8.ofInt j).toInt32 = x) : mj_W f w me (mj_Zl Z) Q pc ls st h n rc rs = mj_W f w me (mj_Zl Z) Q (pc + 2) ls (.int x :: st) h n rc rs := by
  subst hx; rw [mj_goZ hd hz rfl]; rfl
theorem z_sipush {j : Int} {x : Int32} (hd : decode (mj_code me) pc = .ok (.sipush j, 3)) (hz : mj_Zc pc = false) (hx : (Int16.ofInt j).toInt32 = x) : mj_W f w me (mj_Zl Z) Q pc ls st h n rc rs = mj_W f w me (mj_Zl Z) Q (pc + 3) ls (.int x :: st) h n rc rs := by
  subst hx; rw [mj_goZ hd hz rfl]; rfl
theorem z_null (hd : decode (mj_code me) pc = .ok (.aconst_null, 1)) (hz : mj_Zc pc = false) : mj_W f w me (mj_Zl Z) Q pc ls st h n rc rs = mj_W f w me (mj_Zl Z) Q (pc + 1) ls (.null :: st) h n rc rs := by
  rw [mj_goZ hd hz rfl]; rfl
theorem z_iload_n {k : Fin 4} {x : Int32} (hd : decode (mj_code me) pc = .ok (.iload_n k, 1)) (hz : mj_Zc pc = false) (hx : ls[k.val]? = some (.int x)) : mj_W f w me (mj_Zl Z) Q pc ls st h n rc rs = mj_W f w me (mj_Zl Z) Q (pc + 1) ls (.int x :: st) h n rc rs := by
  rw [mj_goZ hd hz rfl]
  exact propext ⟨fun ⟨y, e, hk⟩ => by cases hx.symm.trans e; exact hk, fun hk => ⟨x, hx, hk⟩⟩
theorem z_iload {k : Nat} {x : Int32} (hd : decode (mj_code me) pc = .ok (.iload k, 2)) (hz : mj_Zc pc = false) (hx : ls[k]? = some (.int x)) : mj_W f w me (mj_Zl Z) Q pc ls st h n rc rs = mj_W f w me (mj_Zl Z) Q (pc + 2) ls (.int x :: st) h n rc rs := by
  rw [mj_goZ hd hz rfl]
  exact propext ⟨fun ⟨y, e, hk⟩ => by cases hx.symm.trans e; exact hk, fun hk => ⟨x, hx, hk⟩⟩
theorem z_aload_n {k : Fin 4} {v : Value} (hd : decode (mj_code me) pc = .ok (.aload_n k, 1)) (hz : mj_Zc pc = false) (hx : ls[k.val]? = some v) : mj_W f w me (mj_Zl Z) Q pc ls st h n rc rs = (v.isRef = true ∧ mj_W f w me (mj_Zl Z) Q (pc + 1) ls (v :: st) h n rc rs) := by
  rw [mj_goZ hd hz rfl]
  exact propext ⟨fun ⟨y, e, hk⟩ => by cases hx.symm.trans e; exact hk, fun hk => ⟨v, hx, hk⟩⟩
theorem z_aload {k : Nat} {v : Value} (hd : decode (mj_code me) pc = .ok (.aload k, 2)) (hz : mj_Zc pc = false) (hx : ls[k]? = some v) : mj_W f w me (mj_Zl Z) Q pc ls st h n rc rs = (v.isRef = true ∧ mj_W f w me (mj_Zl Z) Q (pc + 2) ls (v :: st) h n rc rs) := by
  rw [mj_goZ hd hz rfl]
  exact propext ⟨fun ⟨y, e, hk⟩ => by cases hx.symm.trans e; exact hk, fun hk => ⟨v, hx, hk⟩⟩
theorem z_istore_n {k : Fin 4} {x : Int32} {ls' : List Value} (hd : decode (mj_code me) pc = .ok (.istore_n k, 1)) (hz : mj_Zc pc = false) (hl : k.val < ls.length) (hs : ls.set k.val (.int x) = ls') : mj_W f w me (mj_Zl Z) Q pc ls (.int x :: st) h n rc rs = mj_W f w me (mj_Zl Z) Q (pc + 1) ls' st h n rc rs := by
  subst hs; rw [mj_goZ hd hz rfl]
  exact propext ⟨fun ⟨y, r, e, _, hk⟩ => by cases e; exact hk, fun hk => ⟨x, st, rfl, hl, hk⟩⟩
theorem z_istore {k : Nat} {x : Int32} {ls' : List Value} (hd : decode (mj_code me) pc = .ok (.istore k, 2)) (hz : mj_Zc pc = false) (hl : k < ls.length) (hs : ls.set k (.int x) = ls') : mj_W f w me (mj_Zl Z) Q pc ls (.int x :: st) h n rc rs = mj_W f w me (mj_Zl Z) Q (pc + 2) ls' st h n rc rs := by
  subst hs; rw [mj_goZ hd hz rfl]
  exact propext ⟨fun ⟨y, r, e, _, hk⟩ => by cases e; exact hk, fun hk => ⟨x, st, rfl, hl, hk⟩⟩
theorem z_astore_n {k : Fin 4} {v : Value} {ls' : List Value} (hd : decode (mj_code me) pc = .ok (.astore_n k, 1)) (hz : mj_Zc pc = false) (hl : k.val < ls.length) (hs : ls.set k.val v = ls') : mj_W f w me (mj_Zl Z) Q pc ls (v :: st) h n rc rs = (v.isRef = true ∧ mj_W f w me (mj_Zl Z) Q (pc + 1) ls' st h n rc rs) := by
  subst hs; rw [mj_goZ hd hz rfl]
  exact propext ⟨fun ⟨y, r, e, h1, _, hk⟩ => by cases e; exact ⟨h1, hk⟩, fun hk => ⟨v, st, rfl, hk.1, hl, hk.2⟩⟩
theorem z_astore {k : Nat} {v : Value} {ls' : List Value} (hd : decode (mj_code me) pc = .ok (.astore k, 2)) (hz : mj_Zc pc = false) (hl : k < ls.length) (hs : ls.set k v = ls') : mj_W f w me (mj_Zl Z) Q pc ls (v :: st) h n rc rs = (v.isRef = true ∧ mj_W f w me (mj_Zl Z) Q (pc + 2) ls' st h n rc rs) := by
  subst hs; rw [mj_goZ hd hz rfl]
  exact propext ⟨fun ⟨y, r, e, h1, _, hk⟩ => by cases e; exact ⟨h1, hk⟩, fun hk => ⟨v, st, rfl, hk.1, hl, hk.2⟩⟩
theorem z_iinc {k : Nat} {j : Int} {c x : Int32} {ls' : List Value} (hd : decode (mj_code me) pc = .ok (.iinc k j, 3)) (hz : mj_Zc pc = false) (hc : Int32.ofInt j = c) (hx : ls[k]? = some (.int x)) (hs : ls.set k (.int (x + c)) = ls') : mj_W f w me (mj_Zl Z) Q pc ls st h n rc rs = mj_W f w me (mj_Zl Z) Q (pc + 3) ls' st h n rc rs := by
  subst hc; subst hs; rw [mj_goZ hd hz rfl]
  exact propext ⟨fun ⟨y, e, hk⟩ => by cases hx.symm.trans e; exact hk, fun hk => ⟨x, hx, hk⟩⟩
theorem z_iadd {x y : Int32} (hd : decode (mj_code me) pc = .ok (.iadd, 1)) (hz : mj_Zc pc = false) : mj_W f w me (mj_Zl Z) Q pc ls (.int y :: .int x :: st) h n rc rs = mj_W f w me (mj_Zl Z) Q (pc + 1) ls (.int (x + y) :: st) h n rc rs := by
  rw [mj_goZ hd hz rfl]
  exact propext ⟨fun ⟨_, _, _, e, hk⟩ => by cases e; exact hk, fun hk => ⟨x, y, st, rfl, hk⟩⟩
theorem z_isub {x y : Int32} (hd : decode (mj_code me) pc = .ok (.isub, 1)) (hz : mj_Zc pc = false) : mj_W f w me (mj_Zl Z) Q pc ls (.int y :: .int x :: st) h n rc rs = mj_W f w me (mj_Zl Z) Q (pc + 1) ls (.int (x - y) :: st) h n rc rs := by
  rw [mj_goZ hd hz rfl]
  exact propext ⟨fun ⟨_, _, _, e, hk⟩ => by cases e; exact hk, fun hk => ⟨x, y, st, rfl, hk⟩⟩
theorem z_imul {x y : Int32} (hd : decode (mj_code me) pc = .ok (.imul, 1)) (hz : mj_Zc pc = false) : mj_W f w me (mj_Zl Z) Q pc ls (.int y :: .int x :: st) h n rc rs = mj_W f w me (mj_Zl Z) Q (pc + 1) ls (.int (x * y) :: st) h n rc rs := by
  rw [mj_goZ hd hz rfl]
  exact propext ⟨fun ⟨_, _, _, e, hk⟩ => by cases e; exact hk, fun hk => ⟨x, y, st, rfl, hk⟩⟩
theorem z_iand {x y : Int32} (hd : decode (mj_code me) pc = .ok (.iand, 1)) (hz : mj_Zc pc = false) : mj_W f w me (mj_Zl Z) Q pc ls (.int y :: .int x :: st) h n rc rs = mj_W f w me (mj_Zl Z) Q (pc + 1) ls (.int (x &&& y) :: st) h n rc rs := by
  rw [mj_goZ hd hz rfl]
  exact propext ⟨fun ⟨_, _, _, e, hk⟩ => by cases e; exact hk, fun hk => ⟨x, y, st, rfl, hk⟩⟩
theorem z_ior {x y : Int32} (hd : decode (mj_code me) pc = .ok (.ior, 1)) (hz : mj_Zc pc = false) : mj_W f w me (mj_Zl Z) Q pc ls (.int y :: .int x :: st) h n rc rs = mj_W f w me (mj_Zl Z) Q (pc + 1) ls (.int (x ||| y) :: st) h n rc rs := by
  rw [mj_goZ hd hz rfl]
  exact propext ⟨fun ⟨_, _, _, e, hk⟩ => by cases e; exact hk, fun hk => ⟨x, y, st, rfl, hk⟩⟩
theorem z_ishl {x y : Int32} (hd : decode (mj_code me) pc = .ok (.ishl, 1)) (hz : mj_Zc pc = false) : mj_W f w me (mj_Zl Z) Q pc ls (.int y :: .int x :: st) h n rc rs = mj_W f w me (mj_Zl Z) Q (pc + 1) ls (.int (x <<< (y &&& 31)) :: st) h n rc rs := by
  rw [mj_goZ hd hz rfl]
  exact propext ⟨fun ⟨_, _, _, e, hk⟩ => by cases e; exact hk, fun hk => ⟨x, y, st, rfl, hk⟩⟩
theorem z_ishr {x y : Int32} (hd : decode (mj_code me) pc = .ok (.ishr, 1)) (hz : mj_Zc pc = false) : mj_W f w me (mj_Zl Z) Q pc ls (.int y :: .int x :: st) h n rc rs = mj_W f w me (mj_Zl Z) Q (pc + 1) ls (.int (x >>> (y &&& 31)) :: st) h n rc rs := by
  rw [mj_goZ hd hz rfl]
  exact propext ⟨fun ⟨_, _, _, e, hk⟩ => by cases e; exact hk, fun hk => ⟨x, y, st, rfl, hk⟩⟩
theorem z_i2b {x : Int32} (hd : decode (mj_code me) pc = .ok (.i2b, 1)) (hz : mj_Zc pc = false) : mj_W f w me (mj_Zl Z) Q pc ls (.int x :: st) h n rc rs = mj_W f w me (mj_Zl Z) Q (pc + 1) ls (.int x.toInt8.toInt32 :: st) h n rc rs := by
  rw [mj_goZ hd hz rfl]
  exact propext ⟨fun ⟨_, _, e, hk⟩ => by cases e; exact hk, fun hk => ⟨x, st, rfl, hk⟩⟩
theorem z_dup {v : Value} (hd : decode (mj_code me) pc = .ok (.dup, 1)) (hz : mj_Zc pc = false) : mj_W f w me (mj_Zl Z) Q pc ls (v :: st) h n rc rs = (v.category = 1 ∧ mj_W f w me (mj_Zl Z) Q (pc + 1) ls (v :: v :: st) h n rc rs) := by
  rw [mj_goZ hd hz rfl]
  exact propext ⟨fun ⟨_, _, e, hk⟩ => by cases e; exact hk, fun hk => ⟨v, st, rfl, hk⟩⟩
theorem z_dup2 {v u : Value} (hd : decode (mj_code me) pc = .ok (.dup2, 1)) (hz : mj_Zc pc = false) : mj_W f w me (mj_Zl Z) Q pc ls (v :: u :: st) h n rc rs = (v.category = 1 ∧ u.category = 1 ∧ mj_W f w me (mj_Zl Z) Q (pc + 1) ls (v :: u :: v :: u :: st) h n rc rs) := by
  rw [mj_goZ hd hz rfl]
  exact propext ⟨fun ⟨_, _, _, e, hk⟩ => by cases e; exact hk, fun hk => ⟨v, u, st, rfl, hk⟩⟩
theorem z_pop {v : Value} (hd : decode (mj_code me) pc = .ok (.pop, 1)) (hz : mj_Zc pc = false) : mj_W f w me (mj_Zl Z) Q pc ls (v :: st) h n rc rs = (v.category = 1 ∧ mj_W f w me (mj_Zl Z) Q (pc + 1) ls st h n rc rs) := by
  rw [mj_goZ hd hz rfl]
  exact propext ⟨fun ⟨_, _, e, hk⟩ => by cases e; exact hk, fun hk => ⟨v, st, rfl, hk⟩⟩
theorem z_goto {off : Int} {t : Nat} (hd : decode (mj_code me) pc = .ok (.goto off, 3)) (hz : mj_Zc pc = false) (ht : (pc : Int) + off = (t : Int)) : mj_W f w me (mj_Zl Z) Q pc ls st h n rc rs = mj_W f w me (mj_Zl Z) Q t ls st h n rc rs := by
  have e : mj_tg pc off = t := by unfold mj_tg; omega
  rw [mj_goZ hd hz rfl, ← e]
  exact propext ⟨fun hk => hk.2, fun hk => ⟨by omega, hk⟩⟩
theorem z_ifCond {cd : ClassFile.Cond} {off : Int} {t : Nat} {x : Int32} (hd : decode (mj_code me) pc = .ok (.ifCond cd off, 3)) (hz : mj_Zc pc = false) (ht : (pc : Int) + off = (t : Int)) : mj_W f w me (mj_Zl Z) Q pc ls (.int x :: st) h n rc rs = ((mj_c0 cd x → mj_W f w me (mj_Zl Z) Q t ls st h n rc rs) ∧ (¬ mj_c0 cd x → mj_W f w me (mj_Zl Z) Q (pc + 3) ls st h n rc rs)) := by
  have e : mj_tg pc off = t := by unfold mj_tg; omega
  rw [mj_goZ hd hz rfl, ← e]
  exact propext ⟨fun ⟨_, _, e, _, hk⟩ => by cases e; exact hk, fun hk => ⟨x, st, rfl, by omega, hk⟩⟩
theorem z_icmp {cd : ClassFile.Cond} {off : Int} {t : Nat} {x y : Int32} (hd : decode (mj_code me) pc = .ok (.if_icmp cd off, 3)) (hz : mj_Zc pc = false) (ht : (pc : Int) + off = (t : Int)) : mj_W f w me (mj_Zl Z) Q pc ls (.int y :: .int x :: st) h n rc rs = ((mj_c2 cd x y → mj_W f w me (mj_Zl Z) Q t ls st h n rc rs) ∧ (¬ mj_c2 cd x y → mj_W f w me (mj_Zl Z) Q (pc + 3) ls st h n rc rs)) := by
  have e : mj_tg pc off = t := by unfold mj_tg; omega
  rw [mj_goZ hd hz rfl, ← e]
  exact propext ⟨fun ⟨_, _, _, e, _, hk⟩ => by cases e; exact hk, fun hk => ⟨x, y, st, rfl, by omega, hk⟩⟩
theorem z_ifnull {off : Int} {t : Nat} {v : Value} (hd : decode (mj_code me) pc = .ok (.ifnull off, 3)) (hz : mj_Zc pc = false) (ht : (pc : Int) + off = (t : Int)) : mj_W f w me (mj_Zl Z) Q pc ls (v :: st) h n rc rs = (v.isRef = true ∧ (v = .null → mj_W f w me (mj_Zl Z) Q t ls st h n rc rs) ∧ (¬ v = .null → mj_W f w me (mj_Zl Z) Q (pc + 3) ls st h n rc rs)) := by
  have e : mj_tg pc off = t := by unfold mj_tg; omega
  rw [mj_goZ hd hz rfl, ← e]
  exact propext ⟨fun ⟨_, _, e, h1, _, hk⟩ => by cases e; exact ⟨h1, hk⟩, fun hk => ⟨v, st, rfl, hk.1, by omega, hk.2⟩⟩
theorem z_ifnonnull {off : Int} {t : Nat} {v : Value} (hd : decode (mj_code me) pc = .ok (.ifnonnull off, 3)) (hz : mj_Zc pc = false) (ht : (pc : Int) + off = (t : Int)) : mj_W f w me (mj_Zl Z) Q pc ls (v :: st) h n rc rs = (v.isRef = true ∧ (¬ v = .null → mj_W f w me (mj_Zl Z) Q t ls st h n rc rs) ∧ (v = .null → mj_W f w me (mj_Zl Z) Q (pc + 3) ls st h n rc rs)) := by
  have e : mj_tg pc off = t := by unfold mj_tg; omega
  rw [mj_goZ hd hz rfl, ← e]
  exact propext ⟨fun ⟨_, _, e, h1, _, hk⟩ => by cases e; exact ⟨h1, hk⟩, fun hk => ⟨v, st, rfl, hk.1, by omega, hk.2⟩⟩
theorem z_get {idx ci k a : Nat} (hd : decode (mj_code me) pc = .ok (.getfield idx, 3)) (hz : mj_Zc pc = false) (hf : mj_fld (mj_own me) idx = some (ci, k)) : mj_W f w me (mj_Zl Z) Q pc ls (.ref a :: st) h n rc rs = ∃ fs v, h a = some (.inr (ci, fs)) ∧ fs[k]? = some v ∧ mj_W f w me (mj_Zl Z) Q (pc + 3) ls (v :: st) h n rc rs := by
  rw [mj_goZ hd hz rfl]
  exact propext ⟨fun ⟨_, _, _, _, fs, v, e, e2, h1, hk⟩ => by cases e; rw [hf] at e2; cases e2; exact ⟨fs, v, h1, hk⟩, fun ⟨fs, v, h1, hk⟩ => ⟨a, st, ci, k, fs, v, rfl, hf, h1, hk⟩⟩
theorem z_put {idx ci k a : Nat} {v : Value} (hd : decode (mj_code me) pc = .ok (.putfield idx, 3)) (hz : mj_Zc pc = false) (hf : mj_fld (mj_own me) idx = some (ci, k)) (hfin : mj_fin ci k = true → mj_kind me = 2 ∧ mj_own me = ci) : mj_W f w me (mj_Zl Z) Q pc ls (v :: .ref a :: st) h n rc rs = ∃ fs, h a = some (.inr (ci, fs)) ∧ k < fs.length ∧ narrow (mj_ty ci k) v = v ∧ fits (mj_ty ci k) v = true ∧ mj_W f w me (mj_Zl Z) Q (pc + 3) ls st (mj_up h a (.inr (ci, fs.set k v))) n rc rs := by
  rw [mj_goZ hd hz rfl]
  exact propext ⟨fun ⟨_, _, _, _, _, fs, e, e2, h1, h2, h3, h4, _, hk⟩ => by cases e; rw [hf] at e2; cases e2; exact ⟨fs, h1, h2, h3, h4, hk⟩, fun ⟨fs, h1, h2, h3, h4, hk⟩ => ⟨v, a, st, ci, k, fs, rfl, hf, h1, h2, h3, h4, hfin, hk⟩⟩
theorem z_new {idx ci : Nat} (hd : decode (mj_code me) pc = .ok (.new idx, 3)) (hz : mj_Zc pc = false) (hc : mj_cls (mj_own me) idx = some ci) : mj_W f w me (mj_Zl Z) Q pc ls st h n rc rs = (1 ≤ rc ∧ mj_N ci ≤ rs ∧ mj_W f w me (mj_Zl Z) Q (pc + 3) ls (.ref n :: st) (mj_up h n (.inr (ci, mj_new ci))) (n + 1) (rc - 1) (rs - mj_N ci)) := by
  rw [mj_goZ hd hz rfl]
  exact propext ⟨fun ⟨_, e, hk⟩ => by cases hc.symm.trans e; exact hk, fun hk => ⟨ci, hc, hk⟩⟩
theorem z_newarray {aty : ArrayType} {ty : FieldType} {x : Int32} {N : Nat} (hd : decode (mj_code me) pc = .ok (.newarray aty, 2)) (hz : mj_Zc pc = false) (hty : newarray.typeOf aty = ty) (hok : ty = .int ∨ ty = .byte ∨ ty = .boolean ∨ ty = .long) (h0 : ¬ x < 0) (hN : x.toNatClampNeg = N) (hN2 : N ≤ 60000) : mj_W f w me (mj_Zl Z) Q pc ls (.int x :: st) h n rc rs = (1 ≤ rc ∧ N ≤ rs ∧ mj_W f w me (mj_Zl Z) Q (pc + 2) ls (.ref n :: st) (mj_up h n (.inl (ty, N, mj_zero ty))) (n + 1) (rc - 1) (rs - N)) := by
  subst hty; subst hN; rw [mj_goZ hd hz rfl]
  exact propext ⟨fun ⟨_, _, e, _, _, h1, h2, _, hk⟩ => by cases e; exact ⟨h1, h2, hk⟩, fun hk => ⟨x, st, rfl, h0, hN2, hk.1, hk.2.1, hok, hk.2.2⟩⟩
theorem z_anewarray {idx ci : Nat} {x : Int32} {N : Nat} (hd : decode (mj_code me) pc = .ok (.anewarray idx, 3)) (hz : mj_Zc pc = false) (hc : mj_cls (mj_own me) idx = some ci) (hci : ci < 2) (h0 : ¬ x < 0) (hN : x.toNatClampNeg = N) (hN2 : N ≤ 60000) : mj_W f w me (mj_Zl Z) Q pc ls (.int x :: st) h n rc rs = (1 ≤ rc ∧ N ≤ rs ∧ mj_W f w me (mj_Zl Z) Q (pc + 3) ls (.ref n :: st) (mj_up h n (.inl (.object (mj_R ci), N, .inr (.inr (.inr (.inr (fun _ => none))))))) (n + 1) (rc - 1) (rs - N)) := by
  subst hN; rw [mj_goZ hd hz rfl]
  exact propext ⟨fun ⟨_, _, _, e, e2, _, _, _, h1, h2, hk⟩ => by cases e; cases hc.symm.trans e2; exact ⟨h1, h2, hk⟩, fun hk => ⟨x, st, ci, rfl, hc, hci, h0, hN2, hk.1, hk.2.1, hk.2.2⟩⟩
theorem z_iald {j : Int32} {a : Nat} (hd : decode (mj_code me) pc = .ok (.iaload, 1)) (hz : mj_Zc pc = false) : mj_W f w me (mj_Zl Z) Q pc ls (.int j :: .ref a :: st) h n rc rs = ∃ ty m g, h a = some (.inl (ty, m, .inl g)) ∧ (ty = .int ∨ ty = .short) ∧ vp_in j m ∧ mj_W f w me (mj_Zl Z) Q (pc + 1) ls (.int (g j.toNatClampNeg) :: st) h n rc rs := by
  rw [mj_goZ hd hz rfl]
  exact propext ⟨fun ⟨_, _, _, ty, m, g, e, hk⟩ => by cases e; exact ⟨ty, m, g, hk⟩, fun ⟨ty, m, g, hk⟩ => ⟨j, a, st, ty, m, g, rfl, hk⟩⟩
theorem z_bald {j : Int32} {a : Nat} (hd : decode (mj_code me) pc = .ok (.baload, 1)) (hz : mj_Zc pc = false) : mj_W f w me (mj_Zl Z) Q pc ls (.int j :: .ref a :: st) h n rc rs = ∃ ty m g, h a = some (.inl (ty, m, .inl g)) ∧ (ty = .byte ∨ ty = .boolean) ∧ vp_in j m ∧ mj_W f w me (mj_Zl Z) Q (pc + 1) ls (.int (g j.toNatClampNeg) :: st) h n rc rs := by
  rw [mj_goZ hd hz rfl]
  exact propext ⟨fun ⟨_, _, _, ty, m, g, e, hk⟩ => by cases e; exact ⟨ty, m, g, hk⟩, fun ⟨ty, m, g, hk⟩ => ⟨j, a, st, ty, m, g, rfl, hk⟩⟩
theorem z_aald {j : Int32} {a : Nat} (hd : decode (mj_code me) pc = .ok (.aaload, 1)) (hz : mj_Zc pc = false) : mj_W f w me (mj_Zl Z) Q pc ls (.int j :: .ref a :: st) h n rc rs = ∃ ci m g, h a = some (.inl (.object (mj_R ci), m, .inr (.inr (.inr (.inr g))))) ∧ ci < 2 ∧ vp_in j m ∧ mj_W f w me (mj_Zl Z) Q (pc + 1) ls (va_rf (g j.toNatClampNeg) :: st) h n rc rs := by
  rw [mj_goZ hd hz rfl]
  exact propext ⟨fun ⟨_, _, _, ci, m, g, e, hk⟩ => by cases e; exact ⟨ci, m, g, hk⟩, fun ⟨ci, m, g, hk⟩ => ⟨j, a, st, ci, m, g, rfl, hk⟩⟩
theorem z_iast {x j : Int32} {a : Nat} (hd : decode (mj_code me) pc = .ok (.iastore, 1)) (hz : mj_Zc pc = false) : mj_W f w me (mj_Zl Z) Q pc ls (.int x :: .int j :: .ref a :: st) h n rc rs = ∃ m g, h a = some (.inl (.int, m, .inl g)) ∧ vp_in j m ∧ mj_W f w me (mj_Zl Z) Q (pc + 1) ls st (mj_up h a (.inl (.int, m, .inl (upd g j.toNatClampNeg x)))) n rc rs := by
  rw [mj_goZ hd hz rfl]
  exact propext ⟨fun ⟨_, _, _, _, m, g, e, hk⟩ => by cases e; exact ⟨m, g, hk⟩, fun ⟨m, g, hk⟩ => ⟨x, j, a, st, m, g, rfl, hk⟩⟩
theorem z_bast {x j : Int32} {a : Nat} (hd : decode (mj_code me) pc = .ok (.bastore, 1)) (hz : mj_Zc pc = false) : mj_W f w me (mj_Zl Z) Q pc ls (.int x :: .int j :: .ref a :: st) h n rc rs = ∃ ty m g, h a = some (.inl (ty, m, .inl g)) ∧ (ty = .byte ∨ ty = .boolean) ∧ vp_in j m ∧ mj_W f w me (mj_Zl Z) Q (pc + 1) ls st (mj_up h a (.inl (ty, m, .inl (upd g j.toNatClampNeg (vp_nar ty x))))) n rc rs := by
  rw [mj_goZ hd hz rfl]
  exact propext ⟨fun ⟨_, _, _, _, ty, m, g, e, hk⟩ => by cases e; exact ⟨ty, m, g, hk⟩, fun ⟨ty, m, g, hk⟩ => ⟨x, j, a, st, ty, m, g, rfl, hk⟩⟩
theorem z_aast {v j : Int32} {a u : Nat} (hd : decode (mj_code me) pc = .ok (.aastore, 1)) (hz : mj_Zc pc = false) : mj_W f w me (mj_Zl Z) Q pc ls (.ref u :: .int j :: .ref a :: st) h n rc rs = ∃ ci fs m g, h a = some (.inl (.object (mj_R ci), m, .inr (.inr (.inr (.inr g))))) ∧ ci < 2 ∧ h u = some (.inr (ci, fs)) ∧ vp_in j m ∧ mj_W f w me (mj_Zl Z) Q (pc + 1) ls st (mj_up h a (.inl (.object (mj_R ci), m, .inr (.inr (.inr (.inr (va_up g j.toNatClampNeg (some u)))))))) n rc rs := by
  rw [mj_goZ hd hz rfl]
  exact propext ⟨fun ⟨_, _, _, _, ci, fs, m, g, e, hk⟩ => by cases e; exact ⟨ci, fs, m, g, hk⟩, fun ⟨ci, fs, m, g, hk⟩ => ⟨u, j, a, st, ci, fs, m, g, rfl, hk⟩⟩
theorem z_objInit {idx a : Nat} (hd : decode (mj_code me) pc = .ok (.invokespecial idx, 3)) (hz : mj_Zc pc = false) (hi : (mj_own me, idx) ∈ mj_Oi) : mj_W f w me (mj_Zl Z) Q pc ls (.ref a :: st) h n rc rs = (1 ≤ f ∧ (st.map fun v => v.category).sum + 12 ≤ w ∧ mj_W f w me (mj_Zl Z) Q (pc + 3) ls st h n rc rs) := by
  rw [mj_goZ hd hz rfl]
  simp only [mj_step]
  rw [if_pos hi]
  exact propext ⟨fun ⟨_, _, e, hk⟩ => by cases e; exact hk, fun hk => ⟨a, st, rfl, hk⟩⟩
theorem z_mmax {idx : Nat} {x y : Int32} (hd : decode (mj_code me) pc = .ok (.invokestatic idx, 3)) (hz : mj_Zc pc = false) (hi : (mj_own me, idx) ∈ mj_Mx) (hf : 1 ≤ f) (hw : (st.map fun v => v.category).sum + 13 ≤ w) (hk : mj_W f w me (mj_Zl Z) Q (pc + 3) ls (.int (if x < y then y else x) :: st) h n rc rs) : mj_W f w me (mj_Zl Z) Q pc ls (.int y :: .int x :: st) h n rc rs := by
  rw [mj_goZ hd hz rfl]
  exact Or.inr ⟨x, y, st, rfl, hf, hw, Or.inl ⟨hi, hk⟩⟩
theorem z_mmin {idx : Nat} {x y : Int32} (hd : decode (mj_code me) pc = .ok (.invokestatic idx, 3)) (hz : mj_Zc pc = false) (hi : (mj_own me, idx) ∈ mj_Mi) (hf : 1 ≤ f) (hw : (st.map fun v => v.category).sum + 13 ≤ w) (hk : mj_W f w me (mj_Zl Z) Q (pc + 3) ls (.int (if y < x then y else x) :: st) h n rc rs) : mj_W f w me (mj_Zl Z) Q pc ls (.int y :: .int x :: st) h n rc rs := by
  rw [mj_goZ hd hz rfl]
  exact Or.inr ⟨x, y, st, rfl, hf, hw, Or.inr ⟨hi, hk⟩⟩
theorem z_callV {idx y na b : Nat} {fs : List Value} (mc ms : Nat) (hd : decode (mj_code me) pc = .ok (.invokevirtual idx, 3)) (hz : mj_Zc pc = false) (hy : mj_mth (mj_own me) idx = some y) (hkd : mj_kind y = 1) (hna : mj_na y = na) (hc : ∀ v ∈ st, v.category = 1) (hl : st.length ≤ na + 8) (hmc : mc ≤ rc) (hms : ms ≤ rs) (hb : st[na]? = some (.ref b)) (hfs : h b = some (.inr (mj_own y, fs))) {as rest : List Value} (has : (st.take na).reverse = as) (hre : st.drop (na + 1) = rest)
    (k : mj_bk f w y (.ref b :: as) h n mc ms (fun r h' n' => mj_W f w me (mj_Zl Z) Q (pc + 3) ls (r.toList ++ rest) h' n' (rc - mc) (rs - ms))) : mj_W f w me (mj_Zl Z) Q pc ls st h n rc rs := by
  subst has; subst hre; subst hna
  rw [mj_goZ hd hz rfl]
  exact ⟨y, hy, hkd, hc, hl, mc, ms, hmc, hms, by rw [if_pos rfl]; exact ⟨b, fs, hb, hfs, k⟩⟩
theorem z_callI {idx y na b : Nat} {fs : List Value} (mc ms : Nat) (hd : decode (mj_code me) pc = .ok (.invokespecial idx, 3)) (hz : mj_Zc pc = false) (hoi : (mj_own me, idx) ∉ mj_Oi) (hy : mj_mth (mj_own me) idx = some y) (hkd : mj_kind y = 2) (hna : mj_na y = na) (hc : ∀ v ∈ st, v.category = 1) (hl : st.length ≤ na + 8) (hmc : mc ≤ rc) (hms : ms ≤ rs) (hb : st[na]? = some (.ref b)) (hfs : h b = some (.inr (mj_own y, fs))) {as rest : List Value} (has : (st.take na).reverse = as) (hre : st.drop (na + 1) = rest)
    (k : mj_bk f w y (.ref b :: as) h n mc ms (fun r h' n' => mj_W f w me (mj_Zl Z) Q (pc + 3) ls (r.toList ++ rest) h' n' (rc - mc) (rs - ms))) : mj_W f w me (mj_Zl Z) Q pc ls st h n rc rs := by
  subst has; subst hre; subst hna
  rw [mj_goZ hd hz rfl]
  simp only [mj_step]
  rw [if_neg hoi]
  exact ⟨y, hy, hkd, hc, hl, mc, ms, hmc, hms, by rw [if_pos rfl]; exact ⟨b, fs, hb, hfs, k⟩⟩
theorem z_callS {idx y na : Nat} (mc ms : Nat) (hd : decode (mj_code me) pc = .ok (.invokestatic idx, 3)) (hz : mj_Zc pc = false) (hy : mj_mth (mj_own me) idx = some y) (hkd : mj_kind y = 0) (ho : mj_own y = mj_own me) (hna : mj_na y = na) (hc : ∀ v ∈ st, v.category = 1) (hl : st.length ≤ na + 8) (hl2 : na ≤ st.length) (hmc : mc ≤ rc) (hms : ms ≤ rs) {as rest : List Value} (has : (st.take na).reverse = as) (hre : st.drop na = rest)
    (k : mj_bk f w y as h n mc ms (fun r h' n' => mj_W f w me (mj_Zl Z) Q (pc + 3) ls (r.toList ++ rest) h' n' (rc - mc) (rs - ms))) : mj_W f w me (mj_Zl Z) Q pc ls st h n rc rs := by
  subst has; subst hre; subst hna
  rw [mj_goZ hd hz rfl]
  exact Or.inl ⟨y, hy, hkd, ho, hc, hl, mc, ms, hmc, hms, by rw [if_neg (by decide)]; exact ⟨hl2, k⟩⟩
theorem z_iret {x : Int32} {ty : FieldType} (hd : decode (mj_code me) pc = .ok (.ireturn, 1)) (hz : mj_Zc pc = false) (hr : mj_ret me = some ty) : mj_W f w me (mj_Zl Z) Q pc ls [.int x] h n rc rs = (narrow ty (.int x) = .int x ∧ Q (some (.int x)) h n) := by
  rw [mj_goZ hd hz rfl]
  exact propext ⟨fun ⟨_, _, e, e2, hk⟩ => by cases e; cases hr.symm.trans e2; exact hk, fun hk => ⟨x, ty, rfl, hr, hk⟩⟩
theorem z_iretI {x : Int32} (hd : decode (mj_code me) pc = .ok (.ireturn, 1)) (hz : mj_Zc pc = false) (hr : mj_ret me = some .int) : mj_W f w me (mj_Zl Z) Q pc ls [.int x] h n rc rs = Q (some (.int x)) h n := by
  rw [z_iret hd hz hr]
  exact propext ⟨fun hk => hk.2, fun hk => ⟨rfl, hk⟩⟩
theorem z_aret {v : Value} {C : String} (hd : decode (mj_code me) pc = .ok (.areturn, 1)) (hz : mj_Zc pc = false) (hr : mj_ret me = some (.object C)) : mj_W f w me (mj_Zl Z) Q pc ls [v] h n rc rs = (v.isRef = true ∧ Q (some v) h n) := by
  rw [mj_goZ hd hz rfl]
  exact propext ⟨fun ⟨_, _, e, h1, e2, hk⟩ => by cases e; exact ⟨h1, hk⟩, fun hk => ⟨v, C, rfl, hk.1, hr, hk.2⟩⟩
theorem z_vret (hd : decode (mj_code me) pc = .ok (.return_, 1)) (hz : mj_Zc pc = false) (hr : mj_ret me = none) : mj_W f w me (mj_Zl Z) Q pc ls [] h n rc rs = Q none h n := by
  rw [mj_goZ hd hz rfl]
  exact propext ⟨fun hk => hk.2.2, fun hk => ⟨rfl, hr, hk⟩⟩
theorem z_table {d lo hi : Int} {offs : Array Int} {len : Nat} {x : Int32} (hd : decode (mj_code me) pc = .ok (.tableswitch d lo hi offs, len)) (hz : mj_Zc pc = false) : mj_W f w me (mj_Zl Z) Q pc ls (.int x :: st) h n rc rs = (0 ≤ (pc : Int) + d ∧ ((x.toInt < lo ∨ hi < x.toInt) → mj_W f w me (mj_Zl Z) Q (mj_tg pc d) ls st h n rc rs) ∧ (¬ (x.toInt < lo ∨ hi < x.toInt) → ∃ off, offs[(x.toInt - lo).toNat]? = some off ∧ 0 ≤ (pc : Int) + off ∧ mj_W f w me (mj_Zl Z) Q (mj_tg pc off) ls st h n rc rs)) := by
  rw [mj_goZ hd hz rfl]
  exact propext ⟨fun ⟨_, _, e, hk⟩ => by cases e; exact hk, fun hk => ⟨x, st, rfl, hk⟩⟩
theorem z_alen {a : Nat} (hd : decode (mj_code me) pc = .ok (.arraylength, 1)) (hz : mj_Zc pc = false) : mj_W f w me (mj_Zl Z) Q pc ls (.ref a :: st) h n rc rs = ∃ ty x, h a = some (.inl (ty, x)) ∧ (ty = .int ∨ ty = .short ∨ ty = .byte) ∧ mj_W f w me (mj_Zl Z) Q (pc + 1) ls (.int (Int32.ofNat x.1) :: st) h n rc rs := by
  rw [mj_goZ hd hz rfl]
  exact propext ⟨fun ⟨_, _, ty, x, e, h1, h2, hk⟩ => by cases e; exact ⟨ty, x, h1, h2, hk⟩, fun ⟨ty, x, h1, h2, hk⟩ => ⟨a, st, ty, x, rfl, h1, h2, hk⟩⟩
theorem z_i2l {x : Int32} (hd : decode (mj_code me) pc = .ok (.i2l, 1)) (hz : mj_Zc pc = false) : mj_W f w me (mj_Zl Z) Q pc ls (.int x :: st) h n rc rs = mj_W f w me (mj_Zl Z) Q (pc + 1) ls (.long x.toInt64 :: st) h n rc rs := by
  rw [mj_goZ hd hz rfl]
  exact propext ⟨fun ⟨_, _, e, hk⟩ => by cases e; exact hk, fun hk => ⟨x, st, rfl, hk⟩⟩
theorem z_lcmp {x y : Int64} (hd : decode (mj_code me) pc = .ok (.lcmp, 1)) (hz : mj_Zc pc = false) : mj_W f w me (mj_Zl Z) Q pc ls (.long y :: .long x :: st) h n rc rs = mj_W f w me (mj_Zl Z) Q (pc + 1) ls (.int (lg_cmp x y) :: st) h n rc rs := by
  rw [mj_goZ hd hz rfl]
  exact propext ⟨fun ⟨_, _, _, e, hk⟩ => by cases e; exact hk, fun hk => ⟨x, y, st, rfl, hk⟩⟩
theorem z_laload {j : Int32} {a : Nat} (hd : decode (mj_code me) pc = .ok (.laload, 1)) (hz : mj_Zc pc = false) : mj_W f w me (mj_Zl Z) Q pc ls (.int j :: .ref a :: st) h n rc rs = ∃ m g, h a = some (.inl (.long, m, .inr (.inl g))) ∧ vp_in j m ∧ mj_W f w me (mj_Zl Z) Q (pc + 1) ls (.long (g j.toNatClampNeg) :: st) h n rc rs := by
  rw [mj_goZ hd hz rfl]
  exact propext ⟨fun ⟨_, _, _, m, g, e, h1, h2, hk⟩ => by cases e; exact ⟨m, g, h1, h2, hk⟩, fun ⟨m, g, h1, h2, hk⟩ => ⟨j, a, st, m, g, rfl, h1, h2, hk⟩⟩
theorem z_tsw {d lo hi : Int} {offs : Array Int} {x : Int32} {len : Nat} (hd : decode (mj_code me) pc = .ok (.tableswitch d lo hi offs, len)) (hz : mj_Zc pc = false) (hlen : mj_lenOk (.tableswitch d lo hi offs) len = true) : mj_W f w me (mj_Zl Z) Q pc ls (.int x :: st) h n rc rs = (0 ≤ (pc : Int) + d ∧ ((x.toInt < lo ∨ hi < x.toInt) → mj_W f w me (mj_Zl Z) Q (mj_tg pc d) ls st h n rc rs) ∧ (¬ (x.toInt < lo ∨ hi < x.toInt) → ∃ off, offs[(x.toInt - lo).toNat]? = some off ∧ 0 ≤ (pc : Int) + off ∧ mj_W f w me (mj_Zl Z) Q (mj_tg pc off) ls st h n rc rs)) := by
  rw [mj_goZ hd hz hlen]
  exact propext ⟨fun ⟨_, _, e, h1, h2, h3⟩ => by cases e; exact ⟨h1, h2, h3⟩, fun ⟨h1, h2, h3⟩ => ⟨x, st, rfl, h1, h2, h3⟩⟩
end MJO
