/-! ===== arrays over mj_HP ===== -/
theorem mj_acI : mj_in (Cond.arrayClass .int) = true := by decide +kernel
theorem mj_acB : mj_in (Cond.arrayClass .byte) = true := by decide +kernel
theorem mj_acZ : mj_in (Cond.arrayClass .boolean) = true := by decide +kernel
theorem mj_acL : mj_in (Cond.arrayClass .long) = true := by decide +kernel
theorem mj_at_arr {D : va_G} {ca : FieldType → ClassId} {base : Nat} {U : State} {H : Heap} {a : Nat} {ty : FieldType} {x : vp_A} (hs : ty ≠ .short) (hab : base ≤ a) (hc : H[a]? = some (vp_cell (ca ty) x)) : mj_at D ca base U H a (.inl (ty, x)) := by
  simp only [mj_at]
  rw [if_neg hs]
  exact ⟨hab, hc⟩
theorem mj_tysAt (ca : FieldType → ClassId) : ∀ ci, ci < 2 → (mj_tys ca)[4 + ci]? = some (ca (.object (mj_R ci)), .object (mj_R ci))
  | 0, _ => rfl
  | 1, _ => rfl
theorem mj_AOat {D : va_G} {ca : FieldType → ClassId} {U : State} (h : mj_Kn D ca U) : ∀ ci, ci < 2 → va_AO (mj_R ci) U
  | 0, _ => h.2.1
  | 1, _ => h.2.2
section MJA
variable {p : Program} {l : Launch} {e : Env} {R : Room} {s : State} {m : MethodId} {args : Array Value} {below : List Frame} {meth : Method} {c : Code} {H : Heap} {locs : List Loc} {cells slots : Nat} {QW : State → Prop}
variable {cc : ByteArray} {pc : Nat} {arr : Array Slot} {rest : List Value} {D : va_G} {ca : FieldType → ClassId} {base : Nat} {h : mj_H} {own : Nat}
theorem mj_P1 {a : Nat} {x : va_E} (h1 : va_at D mj_cl (a, x) H) : va_P D mj_cl [(a, x)] H := fun j q hq => by
  match j, hq with
  | 0, hq => cases hq; exact h1
  | j + 1, hq => simp at hq
theorem mj_ialdR (hx : p.tables.exec = Jvm.exec) (hb : c.code = cc) (hK : mj_Kn D ca s) (hH : mj_HP D ca base s h H) {a n : Nat} {ty : FieldType} {f : Nat → Int32} (ha : h a = some (.inl (ty, n, .inl f))) (hty : ty = .int ∨ ty = .short) {i : Int32} (hin : vp_in i n) (hd : decode cc pc = .ok (.iaload, 1))
    (kk : W p l e R s m args below meth c H locs cells slots QW (F0 m (pc + 1) arr (.int (f i.toNatClampNeg) :: rest))) : W p l e R s m args below meth c H locs cells slots QW (F0 m pc arr (.int i :: .ref a :: rest)) := by
  rcases hty with rfl | rfl
  · exact va_iald (D := D) (cl := mj_cl) (tys := mj_tys ca) (ws := [(a, .inl (ca .int, n, .inl f))]) hx hb hK.1 (mj_P1 (mj_arr hH ha (by decide)).2) 0 0 rfl rfl hin hd kk
  · obtain ⟨-, g, hg, scr, h1, h2, h3, h4, h5⟩ := mj_scr hH ha
    cases hg
    have hlt : i.toNatClampNeg < n := Nat.not_le.mp fun q => hin (Or.inr q)
    exact W.iald (v := .int (f i.toNatClampNeg)) hx hb h1 h2 h3 (by rw [h4]; exact hin) (h5 _ hlt) rfl rfl hd kk
theorem mj_baldR (hx : p.tables.exec = Jvm.exec) (hb : c.code = cc) (hK : mj_Kn D ca s) (hH : mj_HP D ca base s h H) {a n : Nat} {ty : FieldType} {f : Nat → Int32} (ha : h a = some (.inl (ty, n, .inl f))) (hty : ty = .byte ∨ ty = .boolean) {i : Int32} (hin : vp_in i n) (hd : decode cc pc = .ok (.baload, 1))
    (kk : W p l e R s m args below meth c H locs cells slots QW (F0 m (pc + 1) arr (.int (f i.toNatClampNeg) :: rest))) : W p l e R s m args below meth c H locs cells slots QW (F0 m pc arr (.int i :: .ref a :: rest)) := by
  rcases hty with rfl | rfl
  · exact va_bald (D := D) (cl := mj_cl) (tys := mj_tys ca) (ws := [(a, .inl (ca .byte, n, .inl f))]) hx hb hK.1 (mj_P1 (mj_arr hH ha (by decide)).2) 0 1 rfl rfl hin hd kk
  · exact va_zald (D := D) (cl := mj_cl) (tys := mj_tys ca) (ws := [(a, .inl (ca .boolean, n, .inl f))]) hx hb hK.1 (mj_P1 (mj_arr hH ha (by decide)).2) 0 2 rfl rfl hin hd kk
theorem mj_laldR (hx : p.tables.exec = Jvm.exec) (hb : c.code = cc) (hK : mj_Kn D ca s) (hH : mj_HP D ca base s h H) {a n : Nat} {f : Nat → Int64} (ha : h a = some (.inl (.long, n, .inr (.inl f)))) {i : Int32} (hin : vp_in i n) (hd : decode cc pc = .ok (.laload, 1))
    (kk : W p l e R s m args below meth c H locs cells slots QW (F0 m (pc + 1) arr (.long (f i.toNatClampNeg) :: rest))) : W p l e R s m args below meth c H locs cells slots QW (F0 m pc arr (.int i :: .ref a :: rest)) := by
  exact va_lald (D := D) (cl := mj_cl) (tys := mj_tys ca) (ws := [(a, .inl (ca .long, n, .inr (.inl f)))]) hx hb hK.1 (mj_P1 (mj_arr hH ha (by decide)).2) 0 3 rfl rfl hin hd kk
theorem mj_aaldR (hx : p.tables.exec = Jvm.exec) (hb : c.code = cc) (hK : mj_Kn D ca s) (hH : mj_HP D ca base s h H) {a n ci : Nat} {f : Nat → Option Nat} (ha : h a = some (.inl (.object (mj_R ci), n, .inr (.inr (.inr (.inr f)))))) (hci : ci < 2) {i : Int32} (hin : vp_in i n) (hd : decode cc pc = .ok (.aaload, 1))
    (kk : W p l e R s m args below meth c H locs cells slots QW (F0 m (pc + 1) arr (va_rf (f i.toNatClampNeg) :: rest))) : W p l e R s m args below meth c H locs cells slots QW (F0 m pc arr (.int i :: .ref a :: rest)) := by
  have h1 := (mj_arr hH ha (by intro h; cases h)).2
  exact va_aldq (D := D) (cl := mj_cl) (tys := mj_tys ca) (C := mj_R ci) (ws := [(a, .inl (ca (.object (mj_R ci)), n, .inr (.inr (.inr (.inr f)))))]) hx hb hK.1 (mj_P1 h1) 0 (4 + ci) rfl (mj_tysAt ca ci hci) hin hd kk
theorem mj_alenR (hx : p.tables.exec = Jvm.exec) (hb : c.code = cc) (hK : mj_Kn D ca s) (hH : mj_HP D ca base s h H) {a : Nat} {ty : FieldType} {x : vp_A} (ha : h a = some (.inl (ty, x))) (hty : ty = .int ∨ ty = .short ∨ ty = .byte) (hd : decode cc pc = .ok (.arraylength, 1))
    (kk : W p l e R s m args below meth c H locs cells slots QW (F0 m (pc + 1) arr (.int (Int32.ofNat x.1) :: rest))) : W p l e R s m args below meth c H locs cells slots QW (F0 m pc arr (.ref a :: rest)) := by
  rcases hty with rfl | rfl | rfl
  · exact va_alen (D := D) (cl := mj_cl) (tys := mj_tys ca) (ws := [(a, .inl (ca .int, x))]) hx hb hK.1 (mj_P1 (mj_arr hH ha (by decide)).2) 0 0 rfl rfl rfl hd kk
  · obtain ⟨-, g, hg, scr, h1, h2, h3, h4, h5⟩ := mj_scr hH ha
    exact W.alen (n := Int32.ofNat x.1) hx hb h1 h2 (by rw [h4] <;> rfl) rfl rfl hd kk
  · exact va_alen (D := D) (cl := mj_cl) (tys := mj_tys ca) (ws := [(a, .inl (ca .byte, x))]) hx hb hK.1 (mj_P1 (mj_arr hH ha (by decide)).2) 0 1 rfl rfl rfl hd kk
theorem mj_updE {f : Nat → Int32} {k : Nat} {x : Int32} : (fun j => Value.int (upd f k x j)) = updV (fun j => .int (f j)) k (.int x) := by
  funext q
  by_cases hq : q = k
  · subst hq; simp [updV, upd]
  · simp [updV, upd, hq]
theorem mj_iastR (hx : p.tables.exec = Jvm.exec) (hb : c.code = cc) (hK : mj_Kn D ca s) (hH : mj_HP D ca base s h H) (hS0 : va_S (fun q => base ≤ q) s.heap H locs) {a n : Nat} {f : Nat → Int32} (ha : h a = some (.inl (.int, n, .inl f))) {i x : Int32} (hin : vp_in i n) (hd : decode cc pc = .ok (.iastore, 1))
    (kk : ∀ (H1 : Heap) (locs1 : List Loc), H1.size = H.size → mj_HP D ca base s (mj_up h a (.inl (.int, n, .inl (upd f i.toNatClampNeg x)))) H1 → va_S (fun q => base ≤ q) s.heap H1 locs1 → W p l e R s m args below meth c H1 locs1 cells slots QW (F0 m (pc + 1) arr rest)) : W p l e R s m args below meth c H locs cells slots QW (F0 m pc arr (.int x :: .int i :: .ref a :: rest)) := by
  obtain ⟨hab, hc⟩ := mj_arr hH ha (by decide)
  refine W.iast hx hb hc ((hK.1.2 0 _ rfl).1 n (fun j => .int (f j))) (fun q => by cases q) (by show ¬ (i < 0 ∨ (arrV _ _ _).slots.size ≤ _); rw [arrV_size]; exact hin) rfl rfl hd fun H1 e z oq => ?_
  refine kk H1 _ z (hH.put oq ?_) (hS0.put z oq hab)
  refine mj_at_arr (by decide) hab ?_
  rw [e, vp_cell_i, vp_cell_i, arrV_store, mj_updE]
theorem mj_bastR (hx : p.tables.exec = Jvm.exec) (hb : c.code = cc) (hK : mj_Kn D ca s) (hH : mj_HP D ca base s h H) (hS0 : va_S (fun q => base ≤ q) s.heap H locs) {a n : Nat} {ty : FieldType} {f : Nat → Int32} (ha : h a = some (.inl (ty, n, .inl f))) (hty : ty = .byte ∨ ty = .boolean) {i x : Int32} (hin : vp_in i n) (hd : decode cc pc = .ok (.bastore, 1))
    (kk : ∀ (H1 : Heap) (locs1 : List Loc), H1.size = H.size → mj_HP D ca base s (mj_up h a (.inl (ty, n, .inl (upd f i.toNatClampNeg (vp_nar ty x))))) H1 → va_S (fun q => base ≤ q) s.heap H1 locs1 → W p l e R s m args below meth c H1 locs1 cells slots QW (F0 m (pc + 1) arr rest)) : W p l e R s m args below meth c H locs cells slots QW (F0 m pc arr (.int x :: .int i :: .ref a :: rest)) := by
  rcases hty with rfl | rfl
  · obtain ⟨hab, hc⟩ := mj_arr hH ha (by decide)
    refine W.bast hx hb hc ((hK.1.2 1 _ rfl).1 n (fun j => .int (f j))) (fun q => by cases q) (by show ¬ (i < 0 ∨ (arrV _ _ _).slots.size ≤ _); rw [arrV_size]; exact hin) rfl rfl hd fun H1 e z oq => ?_
    refine kk H1 _ z (hH.put oq ?_) (hS0.put z oq hab)
    refine mj_at_arr (by decide) hab ?_
    rw [e, vp_cell_i, vp_cell_i, arrV_store, mj_updE]
    rfl
  · obtain ⟨hab, hc⟩ := mj_arr hH ha (by decide)
    refine W.zast hx hb hc ((hK.1.2 2 _ rfl).1 n (fun j => .int (f j))) (fun q => by cases q) (by show ¬ (i < 0 ∨ (arrV _ _ _).slots.size ≤ _); rw [arrV_size]; exact hin) rfl rfl hd fun H1 e z oq => ?_
    refine kk H1 _ z (hH.put oq ?_) (hS0.put z oq hab)
    refine mj_at_arr (by decide) hab ?_
    rw [e, vp_cell_i, vp_cell_i, arrV_store, mj_updE]
    rfl
theorem mj_lastR (hx : p.tables.exec = Jvm.exec) (hb : c.code = cc) (hK : mj_Kn D ca s) (hH : mj_HP D ca base s h H) (hS0 : va_S (fun q => base ≤ q) s.heap H locs) {a n : Nat} {f : Nat → Int64} (ha : h a = some (.inl (.long, n, .inr (.inl f)))) {i : Int32} {x : Int64} (hin : vp_in i n) (hd : decode cc pc = .ok (.lastore, 1))
    (kk : ∀ (H1 : Heap) (locs1 : List Loc), H1.size = H.size → mj_HP D ca base s (mj_up h a (.inl (.long, n, .inr (.inl (vp_updL f i.toNatClampNeg x))))) H1 → va_S (fun q => base ≤ q) s.heap H1 locs1 → W p l e R s m args below meth c H1 locs1 cells slots QW (F0 m (pc + 1) arr rest)) : W p l e R s m args below meth c H locs cells slots QW (F0 m pc arr (.long x :: .int i :: .ref a :: rest)) := by
  obtain ⟨hab, hc⟩ := mj_arr hH ha (by decide)
  refine W.last hx hb hc ((hK.1.2 3 _ rfl).1 n (fun j => .long (f j))) (fun q => by cases q) (by show ¬ (i < 0 ∨ (arrV _ _ _).slots.size ≤ _); rw [arrV_size]; exact hin) rfl rfl hd fun H1 e z oq => ?_
  refine kk H1 _ z (hH.put oq ?_) (hS0.put z oq hab)
  refine mj_at_arr (by decide) hab ?_
  rw [e, vp_cell_l, vp_cell_l, arrV_store]
  congr 2
  funext q
  by_cases hq : q = i.toNatClampNeg
  · subst hq; simp [updV, vp_updL]
  · simp [updV, vp_updL, hq]
theorem mj_aastR (hx : p.tables.exec = Jvm.exec) (hb : c.code = cc) (hK : mj_Kn D ca s) (hH : mj_HP D ca base s h H) (hS0 : va_S (fun q => base ≤ q) s.heap H locs) {a n ci v : Nat} {vs : List Value} {f : Nat → Option Nat} (ha : h a = some (.inl (.object (mj_R ci), n, .inr (.inr (.inr (.inr f)))))) (hci : ci < 2) (hv : h v = some (.inr (ci, vs))) {i : Int32} (hin : vp_in i n) (hd : decode cc pc = .ok (.aastore, 1))
    (kk : ∀ (H1 : Heap) (locs1 : List Loc), H1.size = H.size → mj_HP D ca base s (mj_up h a (.inl (.object (mj_R ci), n, .inr (.inr (.inr (.inr (va_up f i.toNatClampNeg (some v)))))))) H1 → va_S (fun q => base ≤ q) s.heap H1 locs1 → W p l e R s m args below meth c H1 locs1 cells slots QW (F0 m (pc + 1) arr rest)) : W p l e R s m args below meth c H locs cells slots QW (F0 m pc arr (.ref v :: .int i :: .ref a :: rest)) := by
  have hlt : i.toNatClampNeg < n := Nat.not_le.mp fun q => hin (Or.inr q)
  have h0 : ¬ i < 0 := fun q => hin (Or.inl q)
  obtain ⟨hab, hc⟩ := mj_arr hH ha (by intro h; cases h)
  obtain ⟨-, r', hr', cellV, g1, g2, g3, -⟩ := mj_obj hH hv
  obtain ⟨T, N, hcl, -⟩ := mj_cl_some (show ci < 4 by omega)
  have hcls := (hK.1.1 ci _ hcl).2
  have hty2 : (mj_tys ca)[4 + ci]? = some (ca (.object (mj_R ci)), .object (mj_R ci)) := mj_tysAt ca ci hci
  obtain ⟨kA, comp, k1, k2, k3, -⟩ := (hK.1.2 (4 + ci) _ hty2).2
  have hcomp : comp = D.1 ci := Option.some.inj (k3.symm.trans hcls.1)
  subst hcomp
  obtain ⟨kC, hkC, -⟩ := hcls.2
  refine W.aast hx hb hc (fun q h => by cases h) (fun h => by cases h) k1 k2 rfl hkC ⟨h0, by show _ < (arrV _ _ _).slots.size; rw [arrV_size]; exact hlt⟩ g1 (fun q h => by rw [g3] at h; cases h) (by rw [g2]; exact hkC) (by rw [g2]; exact va_assign hcls) rfl rfl hd fun H1 e z oq => ?_
  refine kk H1 _ z (hH.put oq ?_) (hS0.put z oq hab)
  refine mj_at_arr (by intro h; cases h) hab ?_
  rw [e, vp_cell_q, vp_cell_q, arrV_store]
  congr 2
  funext q
  by_cases hq : q = i.toNatClampNeg
  · subst hq; simp [updV, va_up, va_rf]
  · simp [updV, va_up, hq]
theorem mj_newaR (hx : p.tables.exec = Jvm.exec) (hb : c.code = cc) (hts : ∀ w ∈ mj_T, w.before args s = true) (hK : mj_Kn D ca s) (hH : mj_HP D ca base s h H) (hS0 : va_S (fun q => base ≤ q) s.heap H locs) (hbase : base ≤ s.heap.size) {aty : ArrayType} (hty : newarray.typeOf aty = .int ∨ newarray.typeOf aty = .byte ∨ newarray.typeOf aty = .boolean ∨ newarray.typeOf aty = .long) {x : Int32} (hx0 : ¬ x < 0) (hx1 : x.toNatClampNeg ≤ 60000) (h1 : cells + 1 ≤ R.cells) (h2 : slots + x.toNatClampNeg ≤ R.slots) (hd : decode cc pc = .ok (.newarray aty, 2))
    (kk : ∀ (H1 : Heap), H1.size = H.size + 1 → mj_HP D ca base s (mj_up h H.size (.inl (newarray.typeOf aty, x.toNatClampNeg, mj_zero (newarray.typeOf aty)))) H1 → va_S (fun q => base ≤ q) s.heap H1 locs → W p l e R s m args below meth c H1 locs (cells + 1) (slots + x.toNatClampNeg) QW (F0 m (pc + 2) arr (.ref H.size :: rest))) : W p l e R s m args below meth c H locs cells slots QW (F0 m pc arr (.int x :: rest)) := by
  have hac : (Cond.arrayClass (newarray.typeOf aty)).before args s = true := by
    rcases hty with q | q | q | q <;> rw [q]
    · exact hts _ (mj_in_T mj_acI)
    · exact hts _ (mj_in_T mj_acB)
    · exact hts _ (mj_in_T mj_acZ)
    · exact hts _ (mj_in_T mj_acL)
  have hns : newarray.typeOf aty ≠ .short := by rcases hty with q | q | q | q <;> rw [q] <;> decide
  refine va_newaK hx hb hac rfl hd rfl hx0 rfl ?_ h1 h2 rfl fun H1 cA e1 z1 o1 hAr hNm => ?_
  · rcases hty with q | q | q | q <;> rw [q] <;> simp [componentBytes] <;> omega
  have hca : cA = ca (newarray.typeOf aty) := by
    rcases hty with q | q | q | q <;> rw [q] at hNm ⊢
    · exact Option.some.inj (hNm.symm.trans (hK.1.2 0 _ rfl).2)
    · exact Option.some.inj (hNm.symm.trans (hK.1.2 1 _ rfl).2)
    · exact Option.some.inj (hNm.symm.trans (hK.1.2 2 _ rfl).2)
    · exact Option.some.inj (hNm.symm.trans (hK.1.2 3 _ rfl).2)
  subst hca
  refine kk H1 z1 (hH.push o1 ?_) ⟨Nat.le_trans hS0.1 (by omega), fun x g1 g2 => (o1 x (Nat.lt_of_lt_of_le g1 hS0.1)).trans (hS0.2.1 x g1 g2), hS0.2.2⟩
  refine mj_at_arr hns (Nat.le_trans hbase hS0.1) ?_
  rw [e1]
  rcases hty with q | q | q | q <;> rw [q] <;> rfl
theorem mj_newqR (hx : p.tables.exec = Jvm.exec) (hb : c.code = cc) (hts : ∀ w ∈ mj_T, w.before args s = true) (hown : s.vm.findClass (mj_R own) = some m.cls) (hK : mj_Kn D ca s) (hH : mj_HP D ca base s h H) (hS0 : va_S (fun q => base ≤ q) s.heap H locs) (hbase : base ≤ s.heap.size) {idx ci : Nat} (hc0 : mj_cls own idx = some ci) (hci : ci < 2) {x : Int32} (hx0 : ¬ x < 0) (hx1 : x.toNatClampNeg ≤ 60000) (h1 : cells + 1 ≤ R.cells) (h2 : slots + x.toNatClampNeg ≤ R.slots) (hd : decode cc pc = .ok (.anewarray idx, 3))
    (kk : ∀ (H1 : Heap), H1.size = H.size + 1 → mj_HP D ca base s (mj_up h H.size (.inl (.object (mj_R ci), x.toNatClampNeg, .inr (.inr (.inr (.inr (fun _ => none))))))) H1 → va_S (fun q => base ≤ q) s.heap H1 locs → W p l e R s m args below meth c H1 locs (cells + 1) (slots + x.toNatClampNeg) QW (F0 m (pc + 3) arr (.ref H.size :: rest))) : W p l e R s m args below meth c H locs cells slots QW (F0 m pc arr (.int x :: rest)) := by
  obtain ⟨-, hl, -, -⟩ := mj_cls_spec hc0
  have hao : va_AO (mj_R ci) s := mj_AOat hK ci hci
  have hty2 : (mj_tys ca)[4 + ci]? = some (ca (.object (mj_R ci)), .object (mj_R ci)) := mj_tysAt ca ci hci
  obtain ⟨-, -, -, -, -, hnm⟩ := (hK.1.2 (4 + ci) _ hty2).2
  refine W.anew hx hb hown (hts _ hl) (va_AO.use hao) rfl hd rfl hx0 (by omega) h1 h2 fun cA kA comp f1 f2 f3 f4 => ?_
  have hca : cA = ca (.object (mj_R ci)) := Option.some.inj (f1.symm.trans hnm)
  subst hca
  generalize hH1 : H.push ({ cls := ca (.object (mj_R ci)), slots := Array.replicate x.toNatClampNeg .null, vm := .none } : Cell) = H1
  have z1 : H1.size = H.size + 1 := by rw [← hH1, Array.size_push]
  have e1 : H1[H.size]? = some (arrV (ca (.object (mj_R ci))) x.toNatClampNeg (fun _ => .null)) := by rw [← hH1, Array.getElem?_push_size, ← arrV_new]
  have o1 : ∀ q : Nat, q < H.size → H1[q]? = H[q]? := fun q hq => by rw [← hH1, Array.getElem?_push, if_neg (Nat.ne_of_lt hq)]
  refine kk H1 z1 (hH.push o1 ?_) ⟨Nat.le_trans hS0.1 (by omega), fun x g1 g2 => (o1 x (Nat.lt_of_lt_of_le g1 hS0.1)).trans (hS0.2.1 x g1 g2), hS0.2.2⟩
  refine mj_at_arr (by intro h; cases h) (Nat.le_trans hbase hS0.1) ?_
  rw [vp_cell_q]
  exact e1
end MJA
