/-! ===== calls of the small machine ===== -/
def mj_Pc (D : va_G) (ca : FieldType → ClassId) (base : Nat) (a : List Value) (h : mj_H) (n : Nat) : Array Value → State → Prop := va_Pc a (fun U => U.heap.size = n ∧ base ≤ n ∧ mj_HP D ca base U h U.heap ∧ mj_Kn D ca U)
def mj_Qc (D : va_G) (ca : FieldType → ClassId) (base : Nat) (Q : mj_Q) : Array Value → State → Outcome → State → Prop := fun _ st oc t => ∃ r h' n', oc = .returned r ∧ Q r h' n' ∧ t.heap.size = n' ∧ mj_HP D ca base t h' t.heap ∧ mj_Kn D ca t ∧ st.heap.size ≤ t.heap.size ∧ ∀ q : Nat, q < base → t.heap[q]? = st.heap[q]?
theorem mj_Pc.blind {D : va_G} {ca : FieldType → ClassId} {base : Nat} {a : List Value} {h : mj_H} {n : Nat} : FrameBlind (mj_Pc D ca base a h n) := fun _ U g mk q => by
  obtain ⟨q0, q1, q2, q3, q4⟩ := q
  exact ⟨q0, q1, q2, q3.moved (u := U) (U := U.calling g mk _) (Vm.Alike.refl U.vm), q4.moved (u := U) (U := U.calling g mk _) (Vm.Alike.refl U.vm)⟩
theorem mj_sum1 : ∀ {st : List Value}, (∀ v ∈ st, v.category = 1) → (st.map fun v => v.category).sum = st.length
  | [], _ => rfl
  | v :: st, h => by
    have h1 := h v List.mem_cons_self
    have h2 := mj_sum1 (fun u hu => h u (List.mem_cons_of_mem _ hu))
    simp only [List.map_cons, List.sum_cons, List.length_cons, h1, h2]; omega
theorem mj_split {st : List Value} {na : Nat} {v : Value} (h : st[na]? = some v) : st = (st.take na).reverse.reverse ++ v :: st.drop (na + 1) := by
  obtain ⟨h1, h2⟩ := List.getElem?_eq_some_iff.mp h
  rw [List.reverse_reverse, ← h2, ← List.drop_eq_getElem_cons h1, List.take_append_drop]
section MJC
variable {p : Program} {l : Launch} {e : Env} {R : Room} {s : State} {m : MethodId} {args : Array Value} {below : List Frame} {meth : Method} {c : Code} {H : Heap} {locs : List Loc} {cells slots : Nat} {QW : State → Prop}
variable {cc : ByteArray} {pc : Nat} {arr : Array Slot} {rest st0 : List Value} {D : va_G} {ca : FieldType → ClassId} {base : Nat} {h : mj_H} {own : Nat}
theorem mj_afterR {Q' : mj_Q} {a : Array Value} {mc ms : Nat} (hr : va_Run p l e R s m args below meth c H locs cells slots mc ms (F0 m pc arr st0) rest (mj_Qc D ca base Q' a) (fun q => base ≤ q)) (hS0 : va_S (fun q => base ≤ q) s.heap H locs)
    (kk : ∀ (r : Option Value) (h' : mj_H) (n' : Nat) (H1 : Heap) (locs1 : List Loc), Q' r h' n' → H1.size = n' → mj_HP D ca base s h' H1 → va_S (fun q => base ≤ q) s.heap H1 locs1 → W p l e R s m args below meth c H1 locs1 (cells + mc) (slots + ms) QW (F0 m (pc + 3) arr (r.toList ++ rest))) : W p l e R s m args below meth c H locs cells slots QW (F0 m pc arr st0) := by
  intro T hT X
  obtain ⟨v, st₀, t, T', L, h0, X', hL, e1, e2, ⟨r, h', n', hv, hq, hz, hp, hk, hle, hun⟩, st⟩ := hr T hT X
  cases hv
  rw [h0] at hle hun
  have hal : s.vm.Alike t.vm := by rw [← e2]; exact X'.warmed.alike
  obtain ⟨t2, a1, b1⟩ := kk v h' n' T'.heap (locs ++ L) hq (by rw [e1]; exact hz) (by rw [e1]; exact hp.moved hal.symm)
    ⟨Nat.le_trans hS0.1 (by rw [e1]; exact hle), fun q h1 h2 => by rw [e1, hun q (Nat.not_le.mp h2)]; exact hS0.2.1 q h1 h2, fun q hq => by
      rcases List.mem_append.mp hq with h | h
      · exact hS0.2.2 q h
      · exact hL q h⟩ T' rfl X'
  exact ⟨t2, st t2 a1, b1⟩
/-- what a callee's contract is -/
def mj_Met (l : Launch) (D : va_G) (ca : FieldType → ClassId) (base : Nat) (fr lo : Nat) (y : Nat) (a : List Value) (h : mj_H) (n mc ms : Nat) (Q : mj_Q) : Prop :=
  y < mj_n ∧ 19 + mj_maxL y ≤ lo ∧ 1 ≤ fr ∧ Met l (mj_y y) (mj_ws y) { frames := fr - 1, cells := mc, slots := ms, locals := lo - (19 + mj_maxL y) } (mj_Pc D ca base a h n) (mj_Qc D ca base Q) mc ms (fun q => base ≤ q)
theorem mj_cb {y idx mc ms : Nat} (hy : y < mj_n) (hts : ∀ w ∈ mj_T, w.before args s = true) (hl : Cond.methodLink (mj_R own) idx (mj_y y) ∈ mj_T) (hlo : 19 + mj_maxL y ≤ R.locals) (hfr : 1 ≤ R.frames) : CallB R s args (mj_R own) idx (mj_y y) (mj_code y) (mj_maxL y) (mj_ret y) (mj_ws y) { frames := R.frames - 1, cells := mc, slots := ms, locals := R.locals - (19 + mj_maxL y) } mc ms (mj_na y) := by
  obtain ⟨a1, a2, a3, a4, a5, a6, a7, a8, a9, a10⟩ := mj_y_spec hy
  exact callB_of (mj_na y) hts (mj_wsGood hy) rfl rfl rfl (hts _ a6) (hts _ hl) ⟨a3, a4, a5⟩ ⟨by show R.frames - 1 + 1 ≤ _; omega, by show 8 + (mj_maxL y + 11) + (R.locals - (19 + mj_maxL y)) ≤ _; omega⟩
theorem mj_preU {a : List Value} {n : Nat} (hH : mj_HP D ca base s h H) (hK : mj_Kn D ca s) (hn : H.size = n) (hb : base ≤ n) : ∀ U : State, U.heap = H → s.WarmedH U.vm → mj_Pc D ca base a h n a.toArray U := fun U hU hW =>
  ⟨rfl, by rw [hU]; exact hn, hb, by rw [hU]; exact hH.moved hW.alike, hK.moved hW.alike⟩
theorem mj_recv {b ci : Nat} {fs : List Value} (hH : mj_HP D ca base s h H) (hK : mj_Kn D ca s) (hb : h b = some (.inr (ci, fs))) : ∃ cell : Cell, H[b]? = some cell ∧ cell.vm.isStatics = false ∧ s.vm.findClass (mj_R ci) = some cell.cls := by
  obtain ⟨-, q', h1, cell, g1, g2, g3, -⟩ := mj_obj hH hb
  exact ⟨cell, g1, by rw [g3]; rfl, by rw [g2, ← (mj_clR h1).1]; exact (hK.1.1 ci q' h1).2.1⟩
theorem mj_runVR {y idx na mc ms n b : Nat} {fs st : List Value} {Q' : mj_Q} (hx : p.tables.exec = Jvm.exec) (hb : c.code = cc) (hml : c.maxLocals = arr.size) (hts : ∀ w ∈ mj_T, w.before args s = true) (hown : s.vm.findClass (mj_R own) = some m.cls) (hK : mj_Kn D ca s) (hH : mj_HP D ca base s h H) (hn : H.size = n) (hbn : base ≤ n) (hS0 : va_S (fun q => base ≤ q) s.heap H locs)
    (hl : mj_mth own idx = some y) (hkind : mj_kind y = 1) (hna : mj_na y = na) (hc1 : ∀ v ∈ st, v.category = 1) (hlen : st.length ≤ na + 8) (hst : st[na]? = some (.ref b)) (hrb : h b = some (.inr (mj_own y, fs))) (hM : mj_Met l D ca base R.frames R.locals y (.ref b :: (st.take na).reverse) h n mc ms Q') (h1 : cells + mc ≤ R.cells) (h2 : slots + ms ≤ R.slots) (hd : decode cc pc = .ok (.invokevirtual idx, 3))
    (kk : ∀ (r : Option Value) (h' : mj_H) (n' : Nat) (H1 : Heap) (locs1 : List Loc), Q' r h' n' → H1.size = n' → mj_HP D ca base s h' H1 → va_S (fun q => base ≤ q) s.heap H1 locs1 → W p l e R s m args below meth c H1 locs1 (cells + mc) (slots + ms) QW (F0 m (pc + 3) arr (r.toList ++ st.drop (na + 1)))) : W p l e R s m args below meth c H locs cells slots QW (F0 m pc arr st) := by
  obtain ⟨hy, hlo, hfr, hM⟩ := hM
  obtain ⟨-, hlk⟩ := mj_mth_spec hl
  obtain ⟨a1, a2, a3, a4, a5, a6, a7, a8, a9, a10⟩ := mj_y_spec hy
  obtain ⟨b1, b2⟩ := a9 hkind
  have hlt := (List.getElem?_eq_some_iff.mp hst).1
  refine mj_afterR (va_runV (As := (st.take na).reverse) (rest := st.drop (na + 1)) (b := b) (C := (mj_y y).cls) (nL := arr.size) ⟨hx, hb, hml, hown, hts⟩ hM ⟨mj_cb hy hts hlk hlo hfr, hts _ b1, hts _ b2⟩ ⟨mj_Pc.blind, by rw [a1]; exact mj_recv hH hK hrb, mj_preU hH hK hn hbn⟩ rfl (by rw [List.length_reverse, List.length_take, hna]; omega) rfl (mj_split hst) (lv_room ?_) hd ⟨h1, h2⟩) hS0 kk
  rw [mj_sum1 (fun v hv => hc1 v (List.mem_of_mem_drop hv)), List.length_drop]; omega
theorem mj_runIR {y idx na mc ms n b : Nat} {fs st : List Value} {Q' : mj_Q} (hx : p.tables.exec = Jvm.exec) (hb : c.code = cc) (hml : c.maxLocals = arr.size) (hts : ∀ w ∈ mj_T, w.before args s = true) (hown : s.vm.findClass (mj_R own) = some m.cls) (hK : mj_Kn D ca s) (hH : mj_HP D ca base s h H) (hn : H.size = n) (hbn : base ≤ n) (hS0 : va_S (fun q => base ≤ q) s.heap H locs)
    (hl : mj_mth own idx = some y) (hkind : mj_kind y = 2) (hna : mj_na y = na) (hc1 : ∀ v ∈ st, v.category = 1) (hlen : st.length ≤ na + 8) (hst : st[na]? = some (.ref b)) (hM : mj_Met l D ca base R.frames R.locals y (.ref b :: (st.take na).reverse) h n mc ms Q') (h1 : cells + mc ≤ R.cells) (h2 : slots + ms ≤ R.slots) (hd : decode cc pc = .ok (.invokespecial idx, 3))
    (kk : ∀ (r : Option Value) (h' : mj_H) (n' : Nat) (H1 : Heap) (locs1 : List Loc), Q' r h' n' → H1.size = n' → mj_HP D ca base s h' H1 → va_S (fun q => base ≤ q) s.heap H1 locs1 → W p l e R s m args below meth c H1 locs1 (cells + mc) (slots + ms) QW (F0 m (pc + 3) arr (r.toList ++ st.drop (na + 1)))) : W p l e R s m args below meth c H locs cells slots QW (F0 m pc arr st) := by
  obtain ⟨hy, hlo, hfr, hM⟩ := hM
  obtain ⟨-, hlk⟩ := mj_mth_spec hl
  obtain ⟨a1, a2, a3, a4, a5, a6, a7, a8, a9, a10⟩ := mj_y_spec hy
  obtain ⟨b1, b2, b3⟩ := a10 hkind
  have hlt := (List.getElem?_eq_some_iff.mp hst).1
  have hcb := mj_cb (s := s) (R := R) (args := args) (own := own) (mc := mc) (ms := ms) hy hts hlk hlo hfr
  rw [b3] at hcb
  refine mj_afterR (va_runI (As := (st.take na).reverse) (rest := st.drop (na + 1)) (b := b) (nL := arr.size) ⟨hx, hb, hml, hown, hts⟩ hM ⟨hcb, b2, hts _ b1⟩ ⟨mj_Pc.blind, mj_preU hH hK hn hbn⟩ rfl (by rw [List.length_reverse, List.length_take, hna]; omega) rfl (mj_split hst) (lv_room ?_) hd ⟨h1, h2⟩) hS0 kk
  rw [mj_sum1 (fun v hv => hc1 v (List.mem_of_mem_drop hv)), List.length_drop]; omega
theorem mj_runSR {y idx na mc ms n : Nat} {st : List Value} {Q' : mj_Q} (hx : p.tables.exec = Jvm.exec) (hb : c.code = cc) (hml : c.maxLocals = arr.size) (hts : ∀ w ∈ mj_T, w.before args s = true) (hown : s.vm.findClass (mj_R own) = some m.cls) (hK : mj_Kn D ca s) (hH : mj_HP D ca base s h H) (hn : H.size = n) (hbn : base ≤ n) (hS0 : va_S (fun q => base ≤ q) s.heap H locs)
    (hl : mj_mth own idx = some y) (hkind : mj_kind y = 0) (hna : mj_na y = na) (hc1 : ∀ v ∈ st, v.category = 1) (hlen : st.length ≤ na + 8) (hst : na ≤ st.length) (hM : mj_Met l D ca base R.frames R.locals y (st.take na).reverse h n mc ms Q') (h1 : cells + mc ≤ R.cells) (h2 : slots + ms ≤ R.slots) (hd : decode cc pc = .ok (.invokestatic idx, 3))
    (kk : ∀ (r : Option Value) (h' : mj_H) (n' : Nat) (H1 : Heap) (locs1 : List Loc), Q' r h' n' → H1.size = n' → mj_HP D ca base s h' H1 → va_S (fun q => base ≤ q) s.heap H1 locs1 → W p l e R s m args below meth c H1 locs1 (cells + mc) (slots + ms) QW (F0 m (pc + 3) arr (r.toList ++ st.drop na))) : W p l e R s m args below meth c H locs cells slots QW (F0 m pc arr st) := by
  obtain ⟨hy, hlo, hfr, hM⟩ := hM
  obtain ⟨-, hlk⟩ := mj_mth_spec hl
  obtain ⟨a1, a2, a3, a4, a5, a6, a7, a8, a9, a10⟩ := mj_y_spec hy
  have b1 := a8 hkind
  refine mj_afterR (va_runS (As := (st.take na).reverse) (rest := st.drop na) (nL := arr.size) ⟨hx, hb, hml, hown, hts⟩ hM ⟨mj_cb hy hts hlk hlo hfr, hts _ b1⟩ ⟨mj_Pc.blind, mj_preU hH hK hn hbn⟩ rfl (by rw [List.length_reverse, List.length_take, hna]; omega) rfl (by rw [List.reverse_reverse, List.take_append_drop]) (lv_room ?_) hd ⟨h1, h2⟩) hS0 kk
  rw [mj_sum1 (fun v hv => hc1 v (List.mem_of_mem_drop hv)), List.length_drop]; omega
end MJC
