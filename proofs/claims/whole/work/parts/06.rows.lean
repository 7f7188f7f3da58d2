/-! ===== the heap's instructions over mj_HP ===== -/
section MJR
variable {p : Program} {l : Launch} {e : Env} {R : Room} {s : State} {m : MethodId} {args : Array Value} {below : List Frame} {meth : Method} {c : Code} {H : Heap} {locs : List Loc} {cells slots : Nat} {QW : State → Prop}
variable {cc : ByteArray} {pc : Nat} {arr : Array Slot} {rest : List Value} {D : va_G} {ca : FieldType → ClassId} {base : Nat} {h : mj_H} {own : Nat}
theorem mj_getR (hx : p.tables.exec = Jvm.exec) (hb : c.code = cc) (hts : ∀ w ∈ mj_T, w.before args s = true) (hown : s.vm.findClass (mj_R own) = some m.cls) (hK : mj_Kn D ca s) (hH : mj_HP D ca base s h H) {idx ci k a : Nat} {fs : List Value} {v : Value} (hf : mj_fld own idx = some (ci, k)) (ha : h a = some (.inr (ci, fs))) (hv : fs[k]? = some v) (hd : decode cc pc = .ok (.getfield idx, 3))
    (kk : W p l e R s m args below meth c H locs cells slots QW (F0 m (pc + 3) arr (v :: rest))) : W p l e R s m args below meth c H locs cells slots QW (F0 m pc arr (.ref a :: rest)) := by
  obtain ⟨C, T, N, hc, hk, hl, hC⟩ := mj_fld_spec hf
  have h1 := (mj_obj hH ha).2
  exact va_get (D := D) (cl := mj_cl) (ws := [(a, .inr (ci, fs))]) (tys := mj_tys ca) (C := C) (T := T) (N := N) hx hb hts (mj_wsIn hc) hown hK.1 (fun j q hq => by
    match j, hq with
    | 0, hq => cases hq; exact h1
    | j + 1, hq => simp at hq) 0 rfl hc k hk (hts _ hl) (fun _ h => h) hv hd kk
theorem mj_putR (hx : p.tables.exec = Jvm.exec) (hb : c.code = cc) (hts : ∀ w ∈ mj_T, w.before args s = true) (hown : s.vm.findClass (mj_R own) = some m.cls) (hK : mj_Kn D ca s) (hH : mj_HP D ca base s h H) (hS0 : va_S (fun q => base ≤ q) s.heap H locs) {idx ci k a : Nat} {fs : List Value} {v : Value} (hf : mj_fld own idx = some (ci, k)) (ha : h a = some (.inr (ci, fs))) (hl : k < fs.length) (hn : narrow (mj_ty ci k) v = v) (hfit : fits (mj_ty ci k) v = true) (hfin : mj_fin ci k = true → meth.name = "<init>" ∧ own = ci) (hd : decode cc pc = .ok (.putfield idx, 3))
    (kk : ∀ (H1 : Heap) (locs1 : List Loc), H1.size = H.size → mj_HP D ca base s (mj_up h a (.inr (ci, fs.set k v))) H1 → va_S (fun q => base ≤ q) s.heap H1 locs1 → W p l e R s m args below meth c H1 locs1 cells slots QW (F0 m (pc + 3) arr rest)) : W p l e R s m args below meth c H locs cells slots QW (F0 m pc arr (v :: .ref a :: rest)) := by
  obtain ⟨C, T, N, hc, hk, hli, hC⟩ := mj_fld_spec hf
  obtain ⟨hab, hat⟩ := mj_obj hH ha
  have hap := va_apart (own := mj_R own) hts (mj_wsIn hc) (mj_ty ci) (mj_tyOk hc) (mj_nmOk hc) hK.1 hc
  have hd2 := mj_tyOk hc k hk
  have hat' := hat
  obtain ⟨r, h1, cell, q1, q2, q3, q4⟩ := hat
  have hr : r = (C, T, N) := Option.some.inj (h1.symm.trans hc)
  subst hr
  obtain ⟨hS, hfc, kC, hkC, hkind⟩ := hK.1.1 ci _ hc
  obtain ⟨cf, kf, fi, f, hi, hsl⟩ := hS k hk
  have hlay := hts _ (mj_wsIn hc _ (u_in_lay hk))
  have hst := (u_facts hfc hkC (u_lays hts (mj_wsIn hc) hk) hi).1
  have fin : ∀ (H' : Heap), H'[a]? = some (cell.setSlot (D.2 ci k) v) → H'.size = H.size → (∀ q, q ≠ a → H'[q]? = H[q]?) → W p l e R s m args below meth c H' (locs ++ [⟨a, D.2 ci k⟩]) cells slots QW (F0 m (pc + 3) arr rest) := by
    intro H' e1 e2 e3
    refine kk H' _ e2 (hH.put e3 ⟨hab, _, hc, t_OB.to (V := updV (vp_V fs) k v) ⟨_, e1, q2, q3, t_set q4 hap hk v⟩ (fun j _ => vp_updV_set hl v j)⟩) (hS0.put e2 e3 hab)
  by_cases hF : mj_fin ci k = true
  · obtain ⟨hin2, hown2⟩ := hfin hF
    have hfl : (T k).2.2.2 = true := ((mj_clR hc).2.2 k).trans hF
    unfold u_lay at hlay
    rw [if_pos hfl] at hlay
    have hcf : m.cls = cf := by
      obtain ⟨_, _, c', _, _, _, -, -, hf', -, -, -, hown3, -⟩ := Cond.laysFinal_spec hlay
      have e1 : c' = cf := by have := hi.symm.trans hf'; simp at this; exact this.1.symm
      have e2 : (T k).1 = mj_R own := by rw [hC, hown2]; exact (mj_clR hc).1
      rw [e2] at hown3
      rw [← e1]; exact Option.some.inj (hown.symm.trans hown3)
    have h6 := u_fits hfc hkC hkind (Or.inr hlay) hi hd2 hn hfit
    refine W.putFinK hx hb hown (hts _ hli) hi hst hcf hin2 (by rw [q2]; exact h6) q1 q3 (by rw [hsl]; exact k2_hasslot (q4 k hk)) rfl rfl hd fun H' e1 e2 e3 => ?_
    rw [hsl] at e1 ⊢
    exact fin H' e1 e2 e3
  · have hfl : (T k).2.2.2 = false := by
      rw [(mj_clR hc).2.2 k]; simpa using hF
    unfold u_lay at hlay
    rw [if_neg (by rw [hfl]; decide)] at hlay
    have h6 := u_store hfc hkC hkind hlay hi hd2 hn hfit
    refine W.putK hx hb (f := f) ⟨hown, hts _ hli, ⟨_, _, _, hi⟩, hst⟩ (by rw [q2]; exact h6) q1 q3 (by rw [hsl]; exact k2_hasslot (q4 k hk)) rfl rfl hd fun H' e1 e2 e3 => ?_
    rw [hsl] at e1 ⊢
    exact fin H' e1 e2 e3
theorem mj_newR (hx : p.tables.exec = Jvm.exec) (hb : c.code = cc) (hts : ∀ w ∈ mj_T, w.before args s = true) (hown : s.vm.findClass (mj_R own) = some m.cls) (hK : mj_Kn D ca s) (hH : mj_HP D ca base s h H) (hS0 : va_S (fun q => base ≤ q) s.heap H locs) (hbase : base ≤ s.heap.size) {idx ci : Nat} (hc0 : mj_cls own idx = some ci) (h1 : cells + 1 ≤ R.cells) (h2 : slots + mj_N ci ≤ R.slots) (hd : decode cc pc = .ok (.new idx, 3))
    (kk : ∀ (H1 : Heap), H1.size = H.size + 1 → mj_HP D ca base s (mj_up h H.size (.inr (ci, mj_new ci))) H1 → va_S (fun q => base ≤ q) s.heap H1 locs → W p l e R s m args below meth c H1 locs (cells + 1) (slots + mj_N ci) QW (F0 m (pc + 3) arr (.ref H.size :: rest))) : W p l e R s m args below meth c H locs cells slots QW (F0 m pc arr rest) := by
  obtain ⟨hci, hl, hi, hz⟩ := mj_cls_spec hc0
  obtain ⟨T, N, hc, hN⟩ := mj_cl_some hci
  have hKn := hK.1.1 ci _ hc
  subst hN
  refine W.newcK hx hb hown (hts _ hl) (hts _ hi) (hts _ hz) rfl hd h1 h2 hKn.2.1 rfl fun H1 kC hkC e1 z1 o1 => ?_
  refine kk H1 z1 (hH.push o1 ⟨Nat.le_trans hbase hS0.1, _, hc, (u_born (mj_ty ci) hts (mj_wsIn hc) hKn hkC e1 (mj_tyOk hc)).to (fun j hj => ?_)⟩) ⟨Nat.le_trans hS0.1 (by omega), fun x g1 g2 => (o1 x (Nat.lt_of_lt_of_le g1 hS0.1)).trans (hS0.2.1 x g1 g2), hS0.2.2⟩
  have hj' : j < mj_N ci := hj
  simp [vp_V, mj_new, List.getD_eq_getElem?_getD, hj']
end MJR
