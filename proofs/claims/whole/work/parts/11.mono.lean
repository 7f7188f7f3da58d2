/-! ===== the small machine: monotone, a least fixed point ===== -/
def mj_mono (B : mj_B) : Prop := ∀ y a h n mc ms (Q Q' : mj_Q), (∀ r h n, Q r h n → Q' r h n) → B y a h n mc ms Q → B y a h n mc ms Q'
theorem mj_call_mono {B : mj_B} (hB : mj_mono B) {y na : Nat} {K K' : mj_K} (hK : ∀ pc ls st h n rc rs, K pc ls st h n rc rs → K' pc ls st h n rc rs) {recv : Bool} {pc : Nat} {ls st : List Value} {h : mj_H} {n rc rs : Nat} (hs : mj_call B y na K recv pc ls st h n rc rs) : mj_call B y na K' recv pc ls st h n rc rs := by
  obtain ⟨h1, h2, mc, ms, h3, h4, h5⟩ := hs
  refine ⟨h1, h2, mc, ms, h3, h4, ?_⟩
  split at h5
  · rename_i e
    rw [if_pos e]
    obtain ⟨b, fs, g1, g2, g3⟩ := h5
    exact ⟨b, fs, g1, g2, hB _ _ _ _ _ _ _ _ (fun r h n hq => hK _ _ _ _ _ _ _ hq) g3⟩
  · rename_i e
    rw [if_neg e]
    exact ⟨h5.1, hB _ _ _ _ _ _ _ _ (fun r h n hq => hK _ _ _ _ _ _ _ hq) h5.2⟩
theorem mj_step_mono {B : mj_B} (hB : mj_mono B) {me f w : Nat} {Q Q' : mj_Q} (hQ : ∀ r h n, Q r h n → Q' r h n) {K K' : mj_K} (hK : ∀ pc ls st h n rc rs, K pc ls st h n rc rs → K' pc ls st h n rc rs) {i : Instr} {pc : Nat} {ls st : List Value} {h : mj_H} {n rc rs : Nat} (hs : mj_step B me f w Q K i pc ls st h n rc rs) : mj_step B me f w Q' K' i pc ls st h n rc rs := by
  cases i with
  | iconst k =>
    exact hK _ _ _ _ _ _ _ hs
  | bipush k =>
    exact hK _ _ _ _ _ _ _ hs
  | sipush k =>
    exact hK _ _ _ _ _ _ _ hs
  | aconst_null =>
    exact hK _ _ _ _ _ _ _ hs
  | iload_n k =>
    obtain ⟨a0, a1, hk⟩ := hs
    exact ⟨a0, a1, hK _ _ _ _ _ _ _ hk⟩
  | iload k =>
    obtain ⟨a0, a1, hk⟩ := hs
    exact ⟨a0, a1, hK _ _ _ _ _ _ _ hk⟩
  | aload_n k =>
    obtain ⟨a0, a1, a2, hk⟩ := hs
    exact ⟨a0, a1, a2, hK _ _ _ _ _ _ _ hk⟩
  | aload k =>
    obtain ⟨a0, a1, a2, hk⟩ := hs
    exact ⟨a0, a1, a2, hK _ _ _ _ _ _ _ hk⟩
  | istore_n k =>
    obtain ⟨a0, a1, a2, a3, hk⟩ := hs
    exact ⟨a0, a1, a2, a3, hK _ _ _ _ _ _ _ hk⟩
  | istore k =>
    obtain ⟨a0, a1, a2, a3, hk⟩ := hs
    exact ⟨a0, a1, a2, a3, hK _ _ _ _ _ _ _ hk⟩
  | astore_n k =>
    obtain ⟨a0, a1, a2, a3, a4, hk⟩ := hs
    exact ⟨a0, a1, a2, a3, a4, hK _ _ _ _ _ _ _ hk⟩
  | astore k =>
    obtain ⟨a0, a1, a2, a3, a4, hk⟩ := hs
    exact ⟨a0, a1, a2, a3, a4, hK _ _ _ _ _ _ _ hk⟩
  | iinc k c =>
    obtain ⟨a0, a1, hk⟩ := hs
    exact ⟨a0, a1, hK _ _ _ _ _ _ _ hk⟩
  | iadd =>
    obtain ⟨a0, a1, a2, a3, hk⟩ := hs
    exact ⟨a0, a1, a2, a3, hK _ _ _ _ _ _ _ hk⟩
  | isub =>
    obtain ⟨a0, a1, a2, a3, hk⟩ := hs
    exact ⟨a0, a1, a2, a3, hK _ _ _ _ _ _ _ hk⟩
  | imul =>
    obtain ⟨a0, a1, a2, a3, hk⟩ := hs
    exact ⟨a0, a1, a2, a3, hK _ _ _ _ _ _ _ hk⟩
  | iand =>
    obtain ⟨a0, a1, a2, a3, hk⟩ := hs
    exact ⟨a0, a1, a2, a3, hK _ _ _ _ _ _ _ hk⟩
  | ior =>
    obtain ⟨a0, a1, a2, a3, hk⟩ := hs
    exact ⟨a0, a1, a2, a3, hK _ _ _ _ _ _ _ hk⟩
  | ishl =>
    obtain ⟨a0, a1, a2, a3, hk⟩ := hs
    exact ⟨a0, a1, a2, a3, hK _ _ _ _ _ _ _ hk⟩
  | ishr =>
    obtain ⟨a0, a1, a2, a3, hk⟩ := hs
    exact ⟨a0, a1, a2, a3, hK _ _ _ _ _ _ _ hk⟩
  | i2b =>
    obtain ⟨a0, a1, a2, hk⟩ := hs
    exact ⟨a0, a1, a2, hK _ _ _ _ _ _ _ hk⟩
  | i2l =>
    obtain ⟨a0, a1, a2, hk⟩ := hs
    exact ⟨a0, a1, a2, hK _ _ _ _ _ _ _ hk⟩
  | lcmp =>
    obtain ⟨a0, a1, a2, a3, hk⟩ := hs
    exact ⟨a0, a1, a2, a3, hK _ _ _ _ _ _ _ hk⟩
  | dup =>
    obtain ⟨a0, a1, a2, a3, hk⟩ := hs
    exact ⟨a0, a1, a2, a3, hK _ _ _ _ _ _ _ hk⟩
  | dup2 =>
    obtain ⟨a0, a1, a2, a3, a4, a5, hk⟩ := hs
    exact ⟨a0, a1, a2, a3, a4, a5, hK _ _ _ _ _ _ _ hk⟩
  | pop =>
    obtain ⟨a0, a1, a2, a3, hk⟩ := hs
    exact ⟨a0, a1, a2, a3, hK _ _ _ _ _ _ _ hk⟩
  | goto off =>
    obtain ⟨a0, hk⟩ := hs
    exact ⟨a0, hK _ _ _ _ _ _ _ hk⟩
  | ifCond c off =>
    obtain ⟨a0, a1, a2, a3, k1, k2⟩ := hs
    exact ⟨a0, a1, a2, a3, fun q => hK _ _ _ _ _ _ _ (k1 q), fun q => hK _ _ _ _ _ _ _ (k2 q)⟩
  | if_icmp c off =>
    obtain ⟨a0, a1, a2, a3, a4, k1, k2⟩ := hs
    exact ⟨a0, a1, a2, a3, a4, fun q => hK _ _ _ _ _ _ _ (k1 q), fun q => hK _ _ _ _ _ _ _ (k2 q)⟩
  | ifnull off =>
    obtain ⟨a0, a1, a2, a3, a4, k1, k2⟩ := hs
    exact ⟨a0, a1, a2, a3, a4, fun q => hK _ _ _ _ _ _ _ (k1 q), fun q => hK _ _ _ _ _ _ _ (k2 q)⟩
  | ifnonnull off =>
    obtain ⟨a0, a1, a2, a3, a4, k1, k2⟩ := hs
    exact ⟨a0, a1, a2, a3, a4, fun q => hK _ _ _ _ _ _ _ (k1 q), fun q => hK _ _ _ _ _ _ _ (k2 q)⟩
  | tableswitch d lo hi offs =>
    obtain ⟨a1, a2, a3, a4, k1, k2⟩ := hs
    refine ⟨a1, a2, a3, a4, fun q => hK _ _ _ _ _ _ _ (k1 q), fun q => ?_⟩
    obtain ⟨o1, o2, o3, o4⟩ := k2 q
    exact ⟨o1, o2, o3, hK _ _ _ _ _ _ _ o4⟩
  | getfield idx =>
    obtain ⟨a0, a1, a2, a3, a4, a5, a6, a7, a8, a9, hk⟩ := hs
    exact ⟨a0, a1, a2, a3, a4, a5, a6, a7, a8, a9, hK _ _ _ _ _ _ _ hk⟩
  | putfield idx =>
    obtain ⟨a0, a1, a2, a3, a4, a5, a6, a7, a8, a9, a10, a11, a12, hk⟩ := hs
    exact ⟨a0, a1, a2, a3, a4, a5, a6, a7, a8, a9, a10, a11, a12, hK _ _ _ _ _ _ _ hk⟩
  | new idx =>
    obtain ⟨a0, a1, a2, a3, hk⟩ := hs
    exact ⟨a0, a1, a2, a3, hK _ _ _ _ _ _ _ hk⟩
  | newarray ty =>
    obtain ⟨a0, a1, a2, a3, a4, a5, a6, a7, hk⟩ := hs
    exact ⟨a0, a1, a2, a3, a4, a5, a6, a7, hK _ _ _ _ _ _ _ hk⟩
  | anewarray idx =>
    obtain ⟨a0, a1, a2, a3, a4, a5, a6, a7, a8, a9, hk⟩ := hs
    exact ⟨a0, a1, a2, a3, a4, a5, a6, a7, a8, a9, hK _ _ _ _ _ _ _ hk⟩
  | arraylength =>
    obtain ⟨a0, a1, a2, a3, a4, a5, a6, hk⟩ := hs
    exact ⟨a0, a1, a2, a3, a4, a5, a6, hK _ _ _ _ _ _ _ hk⟩
  | iaload =>
    obtain ⟨a0, a1, a2, a3, a4, a5, a6, a7, a8, a9, hk⟩ := hs
    exact ⟨a0, a1, a2, a3, a4, a5, a6, a7, a8, a9, hK _ _ _ _ _ _ _ hk⟩
  | baload =>
    obtain ⟨a0, a1, a2, a3, a4, a5, a6, a7, a8, a9, hk⟩ := hs
    exact ⟨a0, a1, a2, a3, a4, a5, a6, a7, a8, a9, hK _ _ _ _ _ _ _ hk⟩
  | laload =>
    obtain ⟨a0, a1, a2, a3, a4, a5, a6, a7, hk⟩ := hs
    exact ⟨a0, a1, a2, a3, a4, a5, a6, a7, hK _ _ _ _ _ _ _ hk⟩
  | aaload =>
    obtain ⟨a0, a1, a2, a3, a4, a5, a6, a7, a8, a9, hk⟩ := hs
    exact ⟨a0, a1, a2, a3, a4, a5, a6, a7, a8, a9, hK _ _ _ _ _ _ _ hk⟩
  | iastore =>
    obtain ⟨a0, a1, a2, a3, a4, a5, a6, a7, a8, hk⟩ := hs
    exact ⟨a0, a1, a2, a3, a4, a5, a6, a7, a8, hK _ _ _ _ _ _ _ hk⟩
  | bastore =>
    obtain ⟨a0, a1, a2, a3, a4, a5, a6, a7, a8, a9, a10, hk⟩ := hs
    exact ⟨a0, a1, a2, a3, a4, a5, a6, a7, a8, a9, a10, hK _ _ _ _ _ _ _ hk⟩
  | lastore =>
    obtain ⟨a0, a1, a2, a3, a4, a5, a6, a7, a8, hk⟩ := hs
    exact ⟨a0, a1, a2, a3, a4, a5, a6, a7, a8, hK _ _ _ _ _ _ _ hk⟩
  | aastore =>
    obtain ⟨a0, a1, a2, a3, a4, a5, a6, a7, a8, a9, a10, a11, a12, hk⟩ := hs
    exact ⟨a0, a1, a2, a3, a4, a5, a6, a7, a8, a9, a10, a11, a12, hK _ _ _ _ _ _ _ hk⟩
  | invokevirtual idx =>
    obtain ⟨y, h1, h2, h3⟩ := hs
    exact ⟨y, h1, h2, mj_call_mono hB hK h3⟩
  | invokestatic idx =>
    rcases hs with ⟨y, h1, h2, h3, h4⟩ | ⟨x, y, r, h1, h2, h3, h4⟩
    · exact Or.inl ⟨y, h1, h2, h3, mj_call_mono hB hK h4⟩
    · refine Or.inr ⟨x, y, r, h1, h2, h3, ?_⟩
      rcases h4 with ⟨g1, g2⟩ | ⟨g1, g2⟩
      · exact Or.inl ⟨g1, hK _ _ _ _ _ _ _ g2⟩
      · exact Or.inr ⟨g1, hK _ _ _ _ _ _ _ g2⟩
  | invokespecial idx =>
    simp only [mj_step] at hs ⊢
    split at hs
    · rename_i e
      rw [if_pos e]
      obtain ⟨a, r, h1, h2, h3, h4⟩ := hs
      exact ⟨a, r, h1, h2, h3, hK _ _ _ _ _ _ _ h4⟩
    · rename_i e
      rw [if_neg e]
      obtain ⟨y, h1, h2, h3⟩ := hs
      exact ⟨y, h1, h2, mj_call_mono hB hK h3⟩
  | ireturn =>
    obtain ⟨a0, a1, a2, a3, a4, hk⟩ := hs
    exact ⟨a0, a1, a2, a3, a4, hQ _ _ _ hk⟩
  | areturn =>
    obtain ⟨a0, a1, a2, a3, a4, hk⟩ := hs
    exact ⟨a0, a1, a2, a3, a4, hQ _ _ _ hk⟩
  | return_ =>
    obtain ⟨a0, a1, hk⟩ := hs
    exact ⟨a0, a1, hQ _ _ _ hk⟩
  | _ => exact hs.elim
theorem mj_wp_mono {B : mj_B} (hB : mj_mono B) {me f w : Nat} {Q Q' : mj_Q} {Z Z' : mj_K} (hQ : ∀ r h n, Q r h n → Q' r h n) (hZ : ∀ pc ls st h n rc rs, Z pc ls st h n rc rs → Z' pc ls st h n rc rs) {pc : Nat} {ls st : List Value} {h : mj_H} {n rc rs : Nat} (hs : mj_wp B me f w Q Z pc ls st h n rc rs) : mj_wp B me f w Q' Z' pc ls st h n rc rs := by
  intro P hP
  refine hs P (fun pc ls st h n rc rs ho => hP _ _ _ _ _ _ _ ?_)
  rcases ho with hz | ⟨i, len, h1, h2, h3⟩
  · exact Or.inl (hZ _ _ _ _ _ _ _ hz)
  · exact Or.inr ⟨i, len, h1, h2, mj_step_mono hB hQ (fun _ _ _ _ _ _ _ q => q) h3⟩
theorem mj_bk_mono : ∀ f w, mj_mono (mj_bk f w)
  | 0, _ => fun _ _ _ _ _ _ _ _ _ h => h.elim
  | f + 1, w => fun y a h n mc ms Q Q' hQ hs => by
    obtain ⟨h1, h2, h3, h4, h5⟩ := hs
    exact ⟨h1, h2, h3, h4, mj_wp_mono (mj_bk_mono f _) hQ (fun _ _ _ _ _ _ _ q => q) h5⟩
theorem mj_fold {B : mj_B} (hB : mj_mono B) {me f w : Nat} {Q : mj_Q} {Z : mj_K} {pc : Nat} {ls st : List Value} {h : mj_H} {n rc rs : Nat} (hs : mj_one B me f w Q Z (mj_wp B me f w Q Z) pc ls st h n rc rs) : mj_wp B me f w Q Z pc ls st h n rc rs := by
  intro P hP
  refine hP _ _ _ _ _ _ _ ?_
  rcases hs with hz | ⟨i, len, h1, h2, h3⟩
  · exact Or.inl hz
  · exact Or.inr ⟨i, len, h1, h2, mj_step_mono hB (fun _ _ _ q => q) (fun _ _ _ _ _ _ _ q => q P hP) h3⟩
theorem mj_unfold {B : mj_B} (hB : mj_mono B) {me f w : Nat} {Q : mj_Q} {Z : mj_K} {pc : Nat} {ls st : List Value} {h : mj_H} {n rc rs : Nat} (hs : mj_wp B me f w Q Z pc ls st h n rc rs) : mj_one B me f w Q Z (mj_wp B me f w Q Z) pc ls st h n rc rs := by
  refine hs (mj_one B me f w Q Z (mj_wp B me f w Q Z)) (fun pc ls st h n rc rs ho => ?_)
  rcases ho with hz | ⟨i, len, h1, h2, h3⟩
  · exact Or.inl hz
  · exact Or.inr ⟨i, len, h1, h2, mj_step_mono hB (fun _ _ _ q => q) (fun _ _ _ _ _ _ _ q => mj_fold hB q) h3⟩
/-- a method's run from a place on, with f frames and w words left -/
def mj_W (f w me : Nat) (Z : mj_K) (Q : mj_Q) : mj_K := mj_wp (mj_bk f w) me f w Q Z
theorem mj_go {f w me : Nat} {Z : mj_K} {Q : mj_Q} {pc : Nat} {i : Instr} {len : Nat} (hd : decode (mj_code me) pc = .ok (i, len)) (hl : mj_lenOk i len = true) {ls st : List Value} {h : mj_H} {n rc rs : Nat} :
    mj_W f w me Z Q pc ls st h n rc rs = (Z pc ls st h n rc rs ∨ mj_step (mj_bk f w) me f w Q (mj_W f w me Z Q) i pc ls st h n rc rs) := by
  refine propext ⟨fun hs => ?_, fun hs => ?_⟩
  · rcases mj_unfold (mj_bk_mono f w) hs with hz | ⟨i', len', h1, h2, h3⟩
    · exact Or.inl hz
    · rw [hd] at h1
      cases h1
      exact Or.inr h3
  · refine mj_fold (mj_bk_mono f w) ?_
    rcases hs with hz | h3
    · exact Or.inl hz
    · exact Or.inr ⟨i, len, hd, hl, h3⟩
theorem mj_go0 {f w me : Nat} {Q : mj_Q} {pc : Nat} {i : Instr} {len : Nat} (hd : decode (mj_code me) pc = .ok (i, len)) (hl : mj_lenOk i len = true) {ls st : List Value} {h : mj_H} {n rc rs : Nat} :
    mj_W f w me mj_noZ Q pc ls st h n rc rs = mj_step (mj_bk f w) me f w Q (mj_W f w me mj_noZ Q) i pc ls st h n rc rs := by
  rw [mj_go hd hl]
  exact propext ⟨fun q => q.elim (fun z => z.elim) id, Or.inr⟩
/-- a call of method y: what is to be shown of its body -/
theorem mj_in_call {f w y : Nat} {a : List Value} {h : mj_H} {n mc ms : Nat} {Q : mj_Q} (hf : 1 ≤ f) (hy : y < mj_n) (hw : 19 + mj_maxL y ≤ w) (hl : a.length ≤ mj_maxL y) (hc : ∀ v ∈ a, v.category = 1) (hb : mj_W (f - 1) (w - (19 + mj_maxL y)) y mj_noZ Q 0 (mj_entry y a) [] h n mc ms) : mj_bk f w y a h n mc ms Q := by
  obtain ⟨f, rfl⟩ : ∃ g, f = g + 1 := ⟨f - 1, by omega⟩
  exact ⟨hy, hw, hl, hc, hb⟩
