/-! ===== what the small machine says of a frame holds of the real one ===== -/
theorem mj_Oi_ok : mj_Oi.all (fun q => mj_in (Cond.methodLink (mj_R q.1) q.2 objectInit)) = true := by decide +kernel
theorem mj_Mx_ok : mj_Mx.all (fun q => mj_in (Cond.methodLink (mj_R q.1) q.2 Lib.Math.max.name)) = true := by decide +kernel
theorem mj_Mi_ok : mj_Mi.all (fun q => mj_in (Cond.methodLink (mj_R q.1) q.2 Lib.Math.min.name)) = true := by decide +kernel
theorem mj_jdk1 : mj_in (Cond.instanceMethod objectInit) = true := by decide +kernel
theorem mj_jdk2 : mj_in (Cond.code objectInit ⟨#[0xb1]⟩ 1 none) = true := by decide +kernel
theorem mj_jdk3 : mj_in (Cond.static Lib.Math.max.name) = true := by decide +kernel
theorem mj_jdk4 : mj_in (Cond.static Lib.Math.min.name) = true := by decide +kernel
theorem mj_jdk5 : mj_in (Cond.initialized "java/lang/Math") = true := by decide +kernel
theorem mj_jdk6 : mj_in (Cond.code Lib.Math.max.name Lib.Math.max.code 2 (some .int)) = true := by decide +kernel
theorem mj_jdk7 : mj_in (Cond.code Lib.Math.min.name Lib.Math.min.code 2 (some .int)) = true := by decide +kernel
def mj_isRet (me pc : Nat) (st : List Value) (r : Option Value) : Prop :=
  (∃ x ty, decode (mj_code me) pc = .ok (.ireturn, 1) ∧ st = [.int x] ∧ r = some (.int x) ∧ mj_ret me = some ty ∧ narrow ty (.int x) = .int x) ∨
  (∃ v C, decode (mj_code me) pc = .ok (.areturn, 1) ∧ st = [v] ∧ r = some v ∧ v.isRef = true ∧ mj_ret me = some (.object C)) ∨
  (decode (mj_code me) pc = .ok (.return_, 1) ∧ st = [] ∧ r = none ∧ mj_ret me = none)
theorem mj_tgt {pc : Nat} {off : Int} (h : 0 ≤ (pc : Int) + off) : (pc : Int) + off = ((mj_tg pc off : Nat) : Int) := by
  unfold mj_tg; omega
section MJS
variable {p : Program} {l : Launch} {e : Env} {R : Room} {s : State} {m : MethodId} {args : Array Value} {below : List Frame} {meth : Method} {c : Code} {QW : State → Prop}
variable {D : va_G} {ca : FieldType → ClassId} {base me f w : Nat} {B : mj_B} {Q : mj_Q} {Z : mj_K}
set_option maxHeartbeats 4000000 in
theorem mj_frame (hx : p.tables.exec = Jvm.exec) (hb : c.code = mj_code me) (hml : c.maxLocals = mj_maxL me) (hts : ∀ w ∈ mj_T, w.before args s = true) (hown : s.vm.findClass (mj_R (mj_own me)) = some m.cls) (hK : mj_Kn D ca s) (hbase : base ≤ s.heap.size) (hini : mj_kind me = 2 → meth.name = "<init>") (hfr : R.frames = f) (hlo : R.locals = w)
    (HB : ∀ y a h n mc ms Q', B y a h n mc ms Q' → mj_Met l D ca base R.frames R.locals y a h n mc ms Q')
    (HR : ∀ pc arr st h n H locs cells slots r, mj_isRet me pc st r → Q r h n → mj_HP D ca base s h H → H.size = n → va_S (fun q => base ≤ q) s.heap H locs → cells ≤ R.cells → slots ≤ R.slots → W p l e R s m args below meth c H locs cells slots QW (F0 m pc arr st))
    (HZ : ∀ pc ls st h n rc rs H locs arr cells slots, Z pc ls st h n rc rs → mj_HP D ca base s h H → H.size = n → va_S (fun q => base ≤ q) s.heap H locs → mj_lv arr (mj_maxL me) ls → cells + rc ≤ R.cells → slots + rs ≤ R.slots → W p l e R s m args below meth c H locs cells slots QW (F0 m pc arr st)) :
    ∀ (pc : Nat) (ls st : List Value) (h : mj_H) (n rc rs : Nat), mj_wp B me f w Q Z pc ls st h n rc rs → ∀ (H : Heap) (locs : List Loc) (arr : Array Slot) (cells slots : Nat), mj_HP D ca base s h H → H.size = n → va_S (fun q => base ≤ q) s.heap H locs → mj_lv arr (mj_maxL me) ls → cells + rc ≤ R.cells → slots + rs ≤ R.slots → W p l e R s m args below meth c H locs cells slots QW (F0 m pc arr st) := by
  intro pc ls st h n rc rs hwp
  refine hwp (fun pc ls st h n rc rs => ∀ (H : Heap) (locs : List Loc) (arr : Array Slot) (cells slots : Nat), mj_HP D ca base s h H → H.size = n → va_S (fun q => base ≤ q) s.heap H locs → mj_lv arr (mj_maxL me) ls → cells + rc ≤ R.cells → slots + rs ≤ R.slots → W p l e R s m args below meth c H locs cells slots QW (F0 m pc arr st)) ?_
  clear hwp pc ls st h n rc rs
  · intro pc ls st h n rc rs hwp H locs arr cells slots hH hn hS hl hc hs
    rcases hwp with hz | ⟨i, len, hd, hlen, hstep⟩
    · exact HZ _ _ _ _ _ _ _ _ _ _ _ _ hz hH hn hS hl hc hs
    have hbn : base ≤ n := by rw [← hn]; exact Nat.le_trans hbase hS.1
    cases i with
    | iconst j =>
      obtain rfl : len = 1 := eq_of_beq hlen
      exact lv_iconst hx hb hd rfl (hstep _ _ _ _ _ hH hn hS hl hc hs)
    | bipush j =>
      obtain rfl : len = 2 := eq_of_beq hlen
      exact lv_bipush hx hb hd rfl (hstep _ _ _ _ _ hH hn hS hl hc hs)
    | sipush j =>
      obtain rfl : len = 3 := eq_of_beq hlen
      exact lv_sipush hx hb hd rfl (hstep _ _ _ _ _ hH hn hS hl hc hs)
    | aconst_null =>
      obtain rfl : len = 1 := eq_of_beq hlen
      exact lv_null hx hb hd (hstep _ _ _ _ _ hH hn hS hl hc hs)
    | iload_n j =>
      obtain rfl : len = 1 := eq_of_beq hlen
      obtain ⟨x, hv, hk⟩ := hstep
      exact lv_iload_n hx hb hd rfl (hl.2.2.2 _ _ hv rfl) (hk _ _ _ _ _ hH hn hS hl hc hs)
    | iload j =>
      obtain rfl : len = 2 := eq_of_beq hlen
      obtain ⟨x, hv, hk⟩ := hstep
      exact lv_iload hx hb hd (hl.2.2.2 _ _ hv rfl) (hk _ _ _ _ _ hH hn hS hl hc hs)
    | aload_n j =>
      obtain rfl : len = 1 := eq_of_beq hlen
      obtain ⟨v, hv, hr, hk⟩ := hstep
      rcases mj_ref_cases hr with rfl | ⟨a, rfl⟩
      · exact lv_aload_nN hx hb hd rfl (hl.2.2.2 _ _ hv rfl) (hk _ _ _ _ _ hH hn hS hl hc hs)
      · exact lv_aload_n hx hb hd rfl (hl.2.2.2 _ _ hv rfl) (hk _ _ _ _ _ hH hn hS hl hc hs)
    | aload j =>
      obtain rfl : len = 2 := eq_of_beq hlen
      obtain ⟨v, hv, hr, hk⟩ := hstep
      rcases mj_ref_cases hr with rfl | ⟨a, rfl⟩
      · exact lv_aloadN hx hb hd (hl.2.2.2 _ _ hv rfl) (hk _ _ _ _ _ hH hn hS hl hc hs)
      · exact lv_aload hx hb hd (hl.2.2.2 _ _ hv rfl) (hk _ _ _ _ _ hH hn hS hl hc hs)
    | istore_n j =>
      obtain rfl : len = 1 := eq_of_beq hlen
      obtain ⟨x, r, rfl, hlt, hk⟩ := hstep
      exact lv_istore_n hx hb hd rfl hl.has (by rw [← hl.2.2.1]; exact hlt) rfl (fun arr' h' => hk _ _ _ _ _ hH hn hS (hl.set h') hc hs)
    | istore j =>
      obtain rfl : len = 2 := eq_of_beq hlen
      obtain ⟨x, r, rfl, hlt, hk⟩ := hstep
      exact lv_istore hx hb hd hl.has (by rw [← hl.2.2.1]; exact hlt) rfl (fun arr' h' => hk _ _ _ _ _ hH hn hS (hl.set h') hc hs)
    | astore_n j =>
      obtain rfl : len = 1 := eq_of_beq hlen
      obtain ⟨v, r, rfl, hr, hlt, hk⟩ := hstep
      rcases mj_ref_cases hr with rfl | ⟨a, rfl⟩
      · exact lv_astore_nN hx hb hd rfl hl.has (by rw [← hl.2.2.1]; exact hlt) rfl (fun arr' h' => hk _ _ _ _ _ hH hn hS (hl.set h') hc hs)
      · exact lv_astore_n hx hb hd rfl hl.has (by rw [← hl.2.2.1]; exact hlt) rfl (fun arr' h' => hk _ _ _ _ _ hH hn hS (hl.set h') hc hs)
    | astore j =>
      obtain rfl : len = 2 := eq_of_beq hlen
      obtain ⟨v, r, rfl, hr, hlt, hk⟩ := hstep
      rcases mj_ref_cases hr with rfl | ⟨a, rfl⟩
      · exact lv_astoreN hx hb hd hl.has (by rw [← hl.2.2.1]; exact hlt) rfl (fun arr' h' => hk _ _ _ _ _ hH hn hS (hl.set h') hc hs)
      · exact lv_astore hx hb hd hl.has (by rw [← hl.2.2.1]; exact hlt) rfl (fun arr' h' => hk _ _ _ _ _ hH hn hS (hl.set h') hc hs)
    | iinc j q =>
      obtain rfl : len = 3 := eq_of_beq hlen
      obtain ⟨x, hv, hk⟩ := hstep
      obtain ⟨o, ho⟩ := List.getElem?_of_mem (mj_prs_mem (ls := ls) (q := (j, .int x)) |>.mpr ⟨hv, rfl⟩)
      exact lv_iinc hx hb hd hl.has (k := o) ho rfl (by rw [← hl.2.2.1]; exact (List.getElem?_eq_some_iff.mp hv).1) rfl (fun arr' h' => hk _ _ _ _ _ hH hn hS (hl.set h') hc hs)
    | iadd =>
      obtain rfl : len = 1 := eq_of_beq hlen
      obtain ⟨x, y, r, rfl, hk⟩ := hstep
      exact lv_iadd hx hb hd (hk _ _ _ _ _ hH hn hS hl hc hs)
    | isub =>
      obtain rfl : len = 1 := eq_of_beq hlen
      obtain ⟨x, y, r, rfl, hk⟩ := hstep
      exact lv_isub hx hb hd (hk _ _ _ _ _ hH hn hS hl hc hs)
    | imul =>
      obtain rfl : len = 1 := eq_of_beq hlen
      obtain ⟨x, y, r, rfl, hk⟩ := hstep
      exact lv_imul hx hb hd (hk _ _ _ _ _ hH hn hS hl hc hs)
    | iand =>
      obtain rfl : len = 1 := eq_of_beq hlen
      obtain ⟨x, y, r, rfl, hk⟩ := hstep
      exact lv_iand hx hb hd (hk _ _ _ _ _ hH hn hS hl hc hs)
    | ior =>
      obtain rfl : len = 1 := eq_of_beq hlen
      obtain ⟨x, y, r, rfl, hk⟩ := hstep
      exact lv_ior hx hb hd (hk _ _ _ _ _ hH hn hS hl hc hs)
    | ishl =>
      obtain rfl : len = 1 := eq_of_beq hlen
      obtain ⟨x, y, r, rfl, hk⟩ := hstep
      exact lv_ishl hx hb hd (hk _ _ _ _ _ hH hn hS hl hc hs)
    | ishr =>
      obtain rfl : len = 1 := eq_of_beq hlen
      obtain ⟨x, y, r, rfl, hk⟩ := hstep
      exact lv_ishr hx hb hd (hk _ _ _ _ _ hH hn hS hl hc hs)
    | i2b =>
      obtain rfl : len = 1 := eq_of_beq hlen
      obtain ⟨x, r, rfl, hk⟩ := hstep
      exact lv_i2b hx hb hd rfl (hk _ _ _ _ _ hH hn hS hl hc hs)
    | i2l =>
      obtain rfl : len = 1 := eq_of_beq hlen
      obtain ⟨x, r, rfl, hk⟩ := hstep
      exact lv_i2l hx hb hd rfl (hk _ _ _ _ _ hH hn hS hl hc hs)
    | lcmp =>
      obtain rfl : len = 1 := eq_of_beq hlen
      obtain ⟨x, y, r, rfl, hk⟩ := hstep
      exact W.lcmp hx hb hd (hk _ _ _ _ _ hH hn hS hl hc hs)
    | dup =>
      obtain rfl : len = 1 := eq_of_beq hlen
      obtain ⟨v, r, rfl, hv, hk⟩ := hstep
      exact lv_dup hx hb hd hv (hk _ _ _ _ _ hH hn hS hl hc hs)
    | dup2 =>
      obtain rfl : len = 1 := eq_of_beq hlen
      obtain ⟨v, u, r, rfl, hv, hu, hk⟩ := hstep
      exact lv_dup2_11 hx hb hd hv hu (hk _ _ _ _ _ hH hn hS hl hc hs)
    | pop =>
      obtain rfl : len = 1 := eq_of_beq hlen
      obtain ⟨v, r, rfl, hv, hk⟩ := hstep
      exact lv_pop hx hb hd hv (hk _ _ _ _ _ hH hn hS hl hc hs)
    | goto off =>
      obtain rfl : len = 3 := eq_of_beq hlen
      obtain ⟨ht, hk⟩ := hstep
      exact lv_goto hx hb hd (mj_tgt ht) (hk _ _ _ _ _ hH hn hS hl hc hs)
    | ifCond cd off =>
      obtain rfl : len = 3 := eq_of_beq hlen
      obtain ⟨x, r, rfl, ht, hk1, hk2⟩ := hstep
      cases cd with
      | eq => exact lv_if_eq hx hb hd (mj_tgt ht) (fun q => (hk1 q) _ _ _ _ _ hH hn hS hl hc hs) (fun q => (hk2 q) _ _ _ _ _ hH hn hS hl hc hs)
      | ne => exact lv_if_ne hx hb hd (mj_tgt ht) (fun q => (hk1 q) _ _ _ _ _ hH hn hS hl hc hs) (fun q => (hk2 (fun z => z q)) _ _ _ _ _ hH hn hS hl hc hs)
      | lt => exact lv_if_lt hx hb hd (mj_tgt ht) (fun q => (hk1 q) _ _ _ _ _ hH hn hS hl hc hs) (fun q => (hk2 q) _ _ _ _ _ hH hn hS hl hc hs)
      | ge => exact lv_if_ge hx hb hd (mj_tgt ht) (fun q => (hk1 q) _ _ _ _ _ hH hn hS hl hc hs) (fun q => (hk2 q) _ _ _ _ _ hH hn hS hl hc hs)
      | gt => exact lv_if_gt hx hb hd (mj_tgt ht) (fun q => (hk1 q) _ _ _ _ _ hH hn hS hl hc hs) (fun q => (hk2 q) _ _ _ _ _ hH hn hS hl hc hs)
      | le => exact lv_if_le hx hb hd (mj_tgt ht) (fun q => (hk1 q) _ _ _ _ _ hH hn hS hl hc hs) (fun q => (hk2 q) _ _ _ _ _ hH hn hS hl hc hs)
    | if_icmp cd off =>
      obtain rfl : len = 3 := eq_of_beq hlen
      obtain ⟨x, y, r, rfl, ht, hk1, hk2⟩ := hstep
      cases cd with
      | eq => exact lv_icmp_eq hx hb hd (mj_tgt ht) (fun q => (hk1 q) _ _ _ _ _ hH hn hS hl hc hs) (fun q => (hk2 q) _ _ _ _ _ hH hn hS hl hc hs)
      | ne => exact lv_icmp_ne hx hb hd (mj_tgt ht) (fun q => (hk1 q) _ _ _ _ _ hH hn hS hl hc hs) (fun q => (hk2 (fun z => z q)) _ _ _ _ _ hH hn hS hl hc hs)
      | lt => exact lv_icmp_lt hx hb hd (mj_tgt ht) (fun q => (hk1 q) _ _ _ _ _ hH hn hS hl hc hs) (fun q => (hk2 q) _ _ _ _ _ hH hn hS hl hc hs)
      | ge => exact lv_icmp_ge hx hb hd (mj_tgt ht) (fun q => (hk1 q) _ _ _ _ _ hH hn hS hl hc hs) (fun q => (hk2 q) _ _ _ _ _ hH hn hS hl hc hs)
      | gt => exact lv_icmp_gt hx hb hd (mj_tgt ht) (fun q => (hk1 q) _ _ _ _ _ hH hn hS hl hc hs) (fun q => (hk2 q) _ _ _ _ _ hH hn hS hl hc hs)
      | le => exact lv_icmp_le hx hb hd (mj_tgt ht) (fun q => (hk1 q) _ _ _ _ _ hH hn hS hl hc hs) (fun q => (hk2 q) _ _ _ _ _ hH hn hS hl hc hs)
    | ifnull off =>
      obtain rfl : len = 3 := eq_of_beq hlen
      obtain ⟨v, r, rfl, hr, ht, hk1, hk2⟩ := hstep
      rcases mj_ref_cases hr with rfl | ⟨a, rfl⟩
      · exact lv_ifnullN hx hb hd (mj_tgt ht) ((hk1 rfl) _ _ _ _ _ hH hn hS hl hc hs)
      · exact lv_ifnull hx hb hd ((hk2 (fun z => by cases z)) _ _ _ _ _ hH hn hS hl hc hs)
    | ifnonnull off =>
      obtain rfl : len = 3 := eq_of_beq hlen
      obtain ⟨v, r, rfl, hr, ht, hk1, hk2⟩ := hstep
      rcases mj_ref_cases hr with rfl | ⟨a, rfl⟩
      · exact lv_ifnonnullN hx hb hd ((hk2 rfl) _ _ _ _ _ hH hn hS hl hc hs)
      · exact lv_ifnonnull hx hb hd (mj_tgt ht) ((hk1 (fun z => by cases z)) _ _ _ _ _ hH hn hS hl hc hs)
    | tableswitch d lo hi offs =>
      obtain ⟨x, r, rfl, ht, hk1, hk2⟩ := hstep
      by_cases hq : x.toInt < lo ∨ hi < x.toInt
      · exact lv_tableOut hx hb hd hq (mj_tgt ht) ((hk1 hq) _ _ _ _ _ hH hn hS hl hc hs)
      · obtain ⟨off, ho, ht2, hk⟩ := hk2 hq
        exact lv_tableIn hx hb hd (fun z => hq (Or.inl z)) (fun z => hq (Or.inr z)) ho (mj_tgt ht2) (hk _ _ _ _ _ hH hn hS hl hc hs)
    | getfield idx =>
      obtain rfl : len = 3 := eq_of_beq hlen
      obtain ⟨a, r, ci, j, fs, v, rfl, hf, ha, hv, hk⟩ := hstep
      exact mj_getR hx hb hts hown hK hH hf ha hv hd (hk _ _ _ _ _ hH hn hS hl hc hs)
    | putfield idx =>
      obtain rfl : len = 3 := eq_of_beq hlen
      obtain ⟨v, a, r, ci, j, fs, rfl, hf, ha, hlt, hna, hfit, hfin, hk⟩ := hstep
      exact mj_putR hx hb hts hown hK hH hS hf ha hlt hna hfit (fun q => ⟨hini (hfin q).1, (hfin q).2⟩) hd (fun H1 locs1 z hH1 hS1 => hk _ _ _ _ _ hH1 (z.trans hn) hS1 hl hc hs)
    | new idx =>
      obtain rfl : len = 3 := eq_of_beq hlen
      obtain ⟨ci, hcl, h1, h2, hk⟩ := hstep
      subst hn
      exact mj_newR hx hb hts hown hK hH hS hbase hcl (by omega) (by omega) hd (fun H1 z hH1 hS1 => hk _ _ _ _ _ hH1 z hS1 hl (by omega) (by omega))
    | newarray aty =>
      obtain rfl : len = 2 := eq_of_beq hlen
      obtain ⟨x, r, rfl, h0, h60, h1, h2, hty, hk⟩ := hstep
      subst hn
      exact mj_newaR hx hb hts hK hH hS hbase hty h0 h60 (by omega) (by omega) hd (fun H1 z hH1 hS1 => hk _ _ _ _ _ hH1 z hS1 hl (by omega) (by omega))
    | anewarray idx =>
      obtain rfl : len = 3 := eq_of_beq hlen
      obtain ⟨x, r, ci, rfl, hcl, hci, h0, h60, h1, h2, hk⟩ := hstep
      subst hn
      exact mj_newqR hx hb hts hown hK hH hS hbase hcl hci h0 h60 (by omega) (by omega) hd (fun H1 z hH1 hS1 => hk _ _ _ _ _ hH1 z hS1 hl (by omega) (by omega))
    | arraylength =>
      obtain rfl : len = 1 := eq_of_beq hlen
      obtain ⟨a, r, ty, x, rfl, ha, hty, hk⟩ := hstep
      exact mj_alenR hx hb hK hH ha hty hd (hk _ _ _ _ _ hH hn hS hl hc hs)
    | iaload =>
      obtain rfl : len = 1 := eq_of_beq hlen
      obtain ⟨j, a, r, ty, n1, g, rfl, ha, hty, hin, hk⟩ := hstep
      exact mj_ialdR hx hb hK hH ha hty hin hd (hk _ _ _ _ _ hH hn hS hl hc hs)
    | baload =>
      obtain rfl : len = 1 := eq_of_beq hlen
      obtain ⟨j, a, r, ty, n1, g, rfl, ha, hty, hin, hk⟩ := hstep
      exact mj_baldR hx hb hK hH ha hty hin hd (hk _ _ _ _ _ hH hn hS hl hc hs)
    | laload =>
      obtain rfl : len = 1 := eq_of_beq hlen
      obtain ⟨j, a, r, n1, g, rfl, ha, hin, hk⟩ := hstep
      exact mj_laldR hx hb hK hH ha hin hd (hk _ _ _ _ _ hH hn hS hl hc hs)
    | aaload =>
      obtain rfl : len = 1 := eq_of_beq hlen
      obtain ⟨j, a, r, ci, n1, g, rfl, ha, hci, hin, hk⟩ := hstep
      exact mj_aaldR hx hb hK hH ha hci hin hd (hk _ _ _ _ _ hH hn hS hl hc hs)
    | iastore =>
      obtain rfl : len = 1 := eq_of_beq hlen
      obtain ⟨x, j, a, r, n1, g, rfl, ha, hin, hk⟩ := hstep
      exact mj_iastR hx hb hK hH hS ha hin hd (fun H1 locs1 z hH1 hS1 => hk _ _ _ _ _ hH1 (z.trans hn) hS1 hl hc hs)
    | bastore =>
      obtain rfl : len = 1 := eq_of_beq hlen
      obtain ⟨x, j, a, r, ty, n1, g, rfl, ha, hty, hin, hk⟩ := hstep
      exact mj_bastR hx hb hK hH hS ha hty hin hd (fun H1 locs1 z hH1 hS1 => hk _ _ _ _ _ hH1 (z.trans hn) hS1 hl hc hs)
    | lastore =>
      obtain rfl : len = 1 := eq_of_beq hlen
      obtain ⟨x, j, a, r, n1, g, rfl, ha, hin, hk⟩ := hstep
      exact mj_lastR hx hb hK hH hS ha hin hd (fun H1 locs1 z hH1 hS1 => hk _ _ _ _ _ hH1 (z.trans hn) hS1 hl hc hs)
    | aastore =>
      obtain rfl : len = 1 := eq_of_beq hlen
      obtain ⟨v, j, a, r, ci, fs, n1, g, rfl, ha, hci, hv, hin, hk⟩ := hstep
      exact mj_aastR hx hb hK hH hS ha hci hv hin hd (fun H1 locs1 z hH1 hS1 => hk _ _ _ _ _ hH1 (z.trans hn) hS1 hl hc hs)
    | invokevirtual idx =>
      obtain rfl : len = 3 := eq_of_beq hlen
      obtain ⟨y, hy, hkd, hc1, hle, mc, ms, h1, h2, hr⟩ := hstep
      rw [if_pos rfl] at hr
      obtain ⟨b, fs, hst, hrb, hB⟩ := hr
      exact mj_runVR hx hb (hml.trans hl.1.symm) hts hown hK hH hn hbn hS hy hkd rfl hc1 hle hst hrb (HB _ _ _ _ _ _ _ hB) (by omega) (by omega) hd (fun r h' n' H1 locs1 hq z hH1 hS1 => hq _ _ _ _ _ hH1 z hS1 hl (by omega) (by omega))
    | invokespecial idx =>
      obtain rfl : len = 3 := eq_of_beq hlen
      simp only [mj_step] at hstep
      split at hstep
      · rename_i hoi
        obtain ⟨a, r, rfl, hf1, hw1, hk⟩ := hstep
        have hm := List.all_eq_true.mp mj_Oi_ok _ hoi
        exact W.objInit hx hb hown (hts _ (mj_in_T hm)) (hts _ (mj_in_T mj_jdk1)) (hts _ (mj_in_T mj_jdk2)) rfl (hl.1.trans hml.symm) rfl hd (by omega) (by show 2 * 0 + _ + 12 ≤ _; omega) (hk _ _ _ _ _ hH hn hS hl hc hs)
      · obtain ⟨y, hy, hkd, hc1, hle, mc, ms, h1, h2, hr⟩ := hstep
        rw [if_pos rfl] at hr
        obtain ⟨b, fs, hst, hrb, hB⟩ := hr
        exact mj_runIR (fs := fs) hx hb (hml.trans hl.1.symm) hts hown hK hH hn hbn hS hy hkd rfl hc1 hle hst (HB _ _ _ _ _ _ _ hB) (by omega) (by omega) hd (fun r h' n' H1 locs1 hq z hH1 hS1 => hq _ _ _ _ _ hH1 z hS1 hl (by omega) (by omega))
    | invokestatic idx =>
      obtain rfl : len = 3 := eq_of_beq hlen
      rcases hstep with ⟨y, hy, hkd, -, hc1, hle, mc, ms, h1, h2, hr⟩ | ⟨x, y, r, rfl, hf1, hw1, hr⟩
      · rw [if_neg (by decide)] at hr
        obtain ⟨hst, hB⟩ := hr
        exact mj_runSR hx hb (hml.trans hl.1.symm) hts hown hK hH hn hbn hS hy hkd rfl hc1 hle hst (HB _ _ _ _ _ _ _ hB) (by omega) (by omega) hd (fun r h' n' H1 locs1 hq z hH1 hS1 => hq _ _ _ _ _ hH1 z hS1 hl (by omega) (by omega))
      · rcases hr with ⟨hm, hk⟩ | ⟨hm, hk⟩
        · exact va_mmax hx hb (hml.trans hl.1.symm) hown (hts _ (mj_in_T (List.all_eq_true.mp mj_Mx_ok _ hm))) (hts _ (mj_in_T mj_jdk3)) (hts _ (mj_in_T mj_jdk5)) (hts _ (mj_in_T mj_jdk6)) (by omega) (by omega) (by omega) (by omega) hd (hk _ _ _ _ _ hH hn hS hl hc hs)
        · exact va_mmin hx hb (hml.trans hl.1.symm) hown (hts _ (mj_in_T (List.all_eq_true.mp mj_Mi_ok _ hm))) (hts _ (mj_in_T mj_jdk4)) (hts _ (mj_in_T mj_jdk5)) (hts _ (mj_in_T mj_jdk7)) (by omega) (by omega) (by omega) (by omega) hd (hk _ _ _ _ _ hH hn hS hl hc hs)
    | ireturn =>
      obtain rfl : len = 1 := eq_of_beq hlen
      obtain ⟨x, ty, rfl, hr, hna, hq⟩ := hstep
      exact HR _ _ _ _ _ _ _ _ _ _ (Or.inl ⟨x, ty, hd, rfl, rfl, hr, hna⟩) hq hH hn hS (by omega) (by omega)
    | areturn =>
      obtain rfl : len = 1 := eq_of_beq hlen
      obtain ⟨v, C, rfl, hr, hrt, hq⟩ := hstep
      exact HR _ _ _ _ _ _ _ _ _ _ (Or.inr (Or.inl ⟨v, C, hd, rfl, rfl, hr, hrt⟩)) hq hH hn hS (by omega) (by omega)
    | return_ =>
      obtain rfl : len = 1 := eq_of_beq hlen
      obtain ⟨rfl, hr, hq⟩ := hstep
      exact HR _ _ _ _ _ _ _ _ _ _ (Or.inr (Or.inr ⟨hd, rfl, rfl, hr⟩)) hq hH hn hS (by omega) (by omega)
    | _ => exact hstep.elim
end MJS
