/-! ===== a method of the small machine has its contract on the real one ===== -/
set_option maxHeartbeats 4000000 in
theorem mj_sound (l : Launch) (D : va_G) (ca : FieldType → ClassId) (base : Nat) : ∀ (f w y : Nat) (a : List Value) (h : mj_H) (n mc ms : Nat) (Q : mj_Q), mj_bk f w y a h n mc ms Q → mj_Met l D ca base f w y a h n mc ms Q := by
  intro f
  induction f with
  | zero => intro w y a h n mc ms Q hB; exact hB.elim
  | succ f ih =>
    intro w y a h n mc ms Q hB
    obtain ⟨hy, hlo, hlen, hcat, hk⟩ := hB
    obtain ⟨a1, a2, a3, a4, a5, a6, a7, a8, a9, a10⟩ := mj_y_spec hy
    refine ⟨hy, hlo, by omega, ?_⟩
    refine Met.ofW (cc := mj_code y) (maxL := mj_maxL y) (ret := mj_ret y) a2 rfl ?_
    intro p e s m args below meth c s₁ B hml hv
    obtain ⟨rfl, hsz, hbn, hH, hK⟩ := hv
    have hx := B.exec
    have hb := B.bytes
    have hr := B.returns
    have hts0 := atoms_spec (ws := mj_ws y) B.pre
    have hts : ∀ w ∈ mj_T, w.before a.toArray s = true := fun w hw => hts0 w (List.mem_cons_of_mem _ hw)
    have hown : s.vm.findClass (mj_R (mj_own y)) = some m.cls := by rw [← a1]; exact findClass_of_methodNamed B.named
    have hlocks := B.notSynchronized
    have hnm : meth.name = (mj_y y).name := (name_of_methodNamed B.named B.method).1
    have hbase : base ≤ s.heap.size := by rw [hsz]; exact hbn
    rw [lg_entry_eq]
    refine mj_frame (D := D) (ca := ca) (base := base) (me := y) (f := f) (w := w - (19 + mj_maxL y)) (B := mj_bk f (w - (19 + mj_maxL y))) (Q := Q) (Z := mj_noZ) hx hb hml hts hown hK hbase (fun q => hnm.trans (a10 q).2.1) rfl rfl (fun y' a' h' n' mc' ms' Q' hB' => ih _ _ _ _ _ _ _ _ hB') ?_ (fun _ _ _ _ _ _ _ _ _ _ _ _ hz => hz.elim) 0 _ _ _ _ _ _ hk s.heap [] _ 0 0 hH hsz va_S.rf (mj_lv.entry hlen hcat) (by show 0 + mc ≤ mc; omega) (by show 0 + ms ≤ ms; omega)
    intro pc arr st h1 n1 H locs cells slots r hret hq hH1 hn1 hS hc hs
    have fin : ∀ t : State, t.heap = H → s.WarmedH t.vm → mj_Qc D ca base Q a.toArray s (.returned r) t := fun t ht hW =>
      ⟨r, h1, n1, rfl, hq, by rw [ht]; exact hn1, by rw [ht]; exact hH1.moved hW.alike, hK.moved hW.alike, by rw [ht]; exact hS.1, fun q hq => by rw [ht]; exact hS.2.1 q (Nat.lt_of_lt_of_le hq hbase) (Nat.not_le.mpr hq)⟩
    refine W.widen (k := mc) (n := ms) hc hs ?_
    rcases hret with ⟨x, ty, hd, rfl, rfl, hrt, hna⟩ | ⟨v, C, hd, rfl, rfl, hv, hrt⟩ | ⟨hd, rfl, rfl, hrt⟩
    · exact W.zret hx hb (hr.trans hrt) hna fin hS.2.2 hd
    · exact W.aret hx hb (hr.trans hrt) (Or.inl ⟨C, rfl⟩) (mj_ref_cases hv) fin hS.2.2 hd
    · exact W.vret hx hb (hr.trans hrt) fin hS.2.2 hd
