/-! ===== the law's loop on the real machine ===== -/
def lyA : MethodName := ⟨"ObjectStreamsLaw", "at", "(LObjectStreams;II[J)I"⟩
def lyO : MethodName := ⟨"ObjectStreamsLaw", "octet", "(LObjectStreams;II[J)I"⟩
theorem laF_at : laF lyA method_3_code 44 = true := by decide +kernel
theorem laF_oc : laF lyO method_4_code 67 = true := by decide +kernel
theorem la_decA : la_dec method_3_code 7 := by unfold la_dec; decide +kernel
theorem la_decO : la_dec method_4_code 15 := by unfold la_dec; decide +kernel
theorem tr_decA : tr_dec (mj_code 26) 22 82 := by unfold tr_dec; decide +kernel
theorem tr_decO : tr_dec (mj_code 30) 18 112 := by unfold tr_dec; decide +kernel
theorem lw_d273 : decode (mj_code 89) 273 = .ok (.invokestatic 44, 3) := by decide +kernel
theorem lw_d442 : decode (mj_code 89) 442 = .ok (.invokestatic 67, 3) := by decide +kernel
section WSL
variable {p : Program} {l : Launch} {e : Env} {R : Room} {s : State} {m : MethodId} {args : Array Value} {below : List Frame} {meth : Method} {c : Code} {QW : State → Prop} {D : va_G} {ca : FieldType → ClassId} {base : Nat}
/-- the real machine goes on from there to its end -/
def wsZ (p : Program) (l : Launch) (e : Env) (R : Room) (s : State) (m : MethodId) (args : Array Value) (below : List Frame) (meth : Method) (c : Code) (QW : State → Prop) (D : va_G) (ca : FieldType → ClassId) (base : Nat) : mj_K := fun pc ls st h n rc rs => ∀ (H : Heap) (locs : List Loc) (arr : Array Slot) (cells slots : Nat), mj_HP D ca base s h H → H.size = n → va_S (fun q => base ≤ q) s.heap H locs → mj_lv arr 7 ls → cells + rc ≤ R.cells → slots + rs ≤ R.slots → W p l e R s m args below meth c H locs cells slots QW (F0 m pc arr st)
def wsQ : mj_Q := fun r _ _ => r = some (.int 1)
/-- the frame of the law, its ends -/
def wsF (p : Program) (l : Launch) (R : Room) (s : State) (m : MethodId) (args : Array Value) (c : Code) (D : va_G) (ca : FieldType → ClassId) (base : Nat) : Prop := p.tables.exec = Jvm.exec ∧ c.code = mj_code 89 ∧ c.maxLocals = 7 ∧ (∀ w ∈ mj_T, w.before args s = true) ∧ s.vm.findClass "ObjectStreamsLaw" = some m.cls ∧ mj_Kn D ca s ∧ base ≤ s.heap.size ∧ R.frames = 11 ∧ R.locals = 386 ∧ thP base s ∧ thS 82 s ∧ thS 112 s ∧ ∀ e, l.admits e → e.platform.stackTraces = false
theorem ws_run (hF : wsF p l R s m args c D ca base) (hR : ∀ pc arr H locs cells slots, decode (mj_code 89) pc = .ok (.ireturn, 1) → va_S (fun q => base ≤ q) s.heap H locs → cells ≤ R.cells → slots ≤ R.slots → W p l e R s m args below meth c H locs cells slots QW (F0 m pc arr [.int 1])) {pc : Nat} {ls st : List Value} {h : mj_H} {n rc rs : Nat}
    (hw : mj_W 11 386 89 (mj_Zl (wsZ p l e R s m args below meth c QW D ca base)) wsQ pc ls st h n rc rs) : wsZ p l e R s m args below meth c QW D ca base pc ls st h n rc rs := by
  obtain ⟨hx, hb, hml, hts, hown, hK, hbase, hfr, hlo, -⟩ := hF
  refine mj_frame (D := D) (ca := ca) (base := base) (me := 89) (f := 11) (w := 386) (B := mj_bk 11 386) (Q := wsQ) (Z := mj_Zl (wsZ p l e R s m args below meth c QW D ca base)) hx hb hml hts hown hK hbase (fun q => by cases q) hfr hlo (fun y' a' h' n' mc' ms' Q' hB' => by rw [hfr, hlo]; exact mj_sound l D ca base _ _ _ _ _ _ _ _ _ hB') ?_ ?_ pc ls st h n rc rs hw
  · intro pc arr st h n H locs cells slots r hret hq hH hn hS hc hs
    have hq : r = some (.int 1) := hq
    subst hq
    rcases hret with ⟨x, ty, hd, rfl, e1, -, -⟩ | ⟨v, C, -, -, e1, hv, -⟩ | ⟨-, -, e1, -⟩
    · cases e1
      exact hR pc arr H locs cells slots hd hS hc hs
    · cases e1
      cases hv
    · cases e1
  · intro pc ls st h n rc rs H locs arr cells slots hz hH hn hS hl hc hs
    exact hz.2 H locs arr cells slots hH hn hS hl hc hs
theorem ws_lv {arr : Array Slot} {ls : List Value} (h : mj_lv arr 7 ls) : arr.size = 7 := h.1
set_option maxHeartbeats 2000000 in
theorem ws_at (hF : wsF p l R s m args c D ca base) (hR : ∀ pc arr H locs cells slots, decode (mj_code 89) pc = .ok (.ireturn, 1) → va_S (fun q => base ≤ q) s.heap H locs → cells ≤ R.cells → slots ≤ R.slots → W p l e R s m args below meth c H locs cells slots QW (F0 m pc arr [.int 1])) {h : mj_H} {n rc rs : Nat} {S : St} {AD : Ad} {len k : Nat} {sg : Nat → Int32} {X : Nat → Int32} {A : Nat → Nat → Int32} {og : Nat → Int64} {C : Ct} {v5 v6 : Value} (hG : GX S S n h AD len sg X A og C) (hO : OK S) (hk : k + 4 ≤ len) (hlen : len ≤ 2048) (hc : bc k S ≤ rc) (hs : bs k S ≤ rs)
    (hN : NX 11 386 (wsZ p l e R s m args below meth c QW D ca base) wsQ len sg k) : wsZ p l e R s m args below meth c QW D ca base 273 (LSt AD k v5 v6) [.ref (AD 8 0), .int (sg (k + 2)), .int (sg (k + 1)), .ref (AD 5 0)] h n rc rs := by
  intro H locs arr cells slots hH hn hS hl hc1 hs1
  obtain ⟨hx, hb, hml, hts, hown, hK, hbase, hfr, hlo, hth, hs82, -, htr⟩ := id hF
  obtain ⟨fs, h5⟩ := hG.os
  have hc4 : bc (k + 4) S ≤ rc - 1 ∧ 1 ≤ rc := by unfold bc at hc ⊢; omega
  have hs4 : bs (k + 4) S ≤ rs - 6 ∧ 6 ≤ rs := by unfold bs at hs ⊢; omega
  refine la_callR (As := [.ref (AD 5 0), .int (sg (k + 1)), .int (sg (k + 2)), .ref (AD 8 0)]) (rest := []) (k := 82) (n := n) (Q' := laQ (op_at S (sg (k + 1)) (sg (k + 2))) h n (AD 8 0) og) laF_at hx hb (hml.trans hl.1.symm) hts hown hK hH hn (by rw [← hn]; exact Nat.le_trans hbase hS.1) hS hbase hth hs82 rfl ?_ (by omega) (by omega) (by show 0 ≤ 8; omega) (by omega) (by omega) lw_d273 ?_
  · rw [hfr, hlo]
    exact la_met htr D ca base (f := 10) (w := 362) (idx := 7) (me := 26) (k := 82) (pcz := 22) rfl la_decA rfl rfl rfl rfl rfl (by omega) (by omega) h5 hG.ou (fun hr => n_at (by omega) (by omega) hG.mem hG.cc hO.1 hr (fun v3 => ⟨rfl, rfl, rfl, rfl, Nat.le_refl _, Nat.le_refl _⟩)) (fun c hr Q hQ => m_at (by omega) (by omega) hG.mem hG.cc hO.1 hr hQ) tr_decA
  · rintro r h' n' H1 locs1 hq hz hH1 hS1
    rcases hq with ⟨hr, rfl, rfl, rfl⟩ | ⟨cb, hr, rfl, rfl, rfl⟩
    · exact ws_run hF hR (t_at2 (rc := rc - 1) (rs := rs - 6) (v5 := v5) (v6 := v6) (by omega) (by omega) (hG.up (Nat.le_succ _)) hO hk hlen hc4.1 hs4.1 hN (Or.inl ⟨hr, rfl⟩)) H1 locs1 arr (cells + 1) (slots + 6) hH1 hz hS1 hl (by omega) (by omega)
    · obtain ⟨C', hG'⟩ := hG.out (vp_updL og 0 (bS cb).toInt64)
      exact ws_run hF hR (t_at2 (rc := rc - 1) (rs := rs - 6) (v5 := v5) (v6 := v6) (by omega) (by omega) hG' hO hk hlen hc4.1 hs4.1 hN (Or.inr ⟨cb, hr, rfl, by simp [vp_updL]⟩)) H1 locs1 arr (cells + 1) (slots + 6) hH1 hz hS1 hl (by omega) (by omega)
set_option maxHeartbeats 2000000 in
theorem ws_octet (hF : wsF p l R s m args c D ca base) (hR : ∀ pc arr H locs cells slots, decode (mj_code 89) pc = .ok (.ireturn, 1) → va_S (fun q => base ≤ q) s.heap H locs → cells ≤ R.cells → slots ≤ R.slots → W p l e R s m args below meth c H locs cells slots QW (F0 m pc arr [.int 1])) {h : mj_H} {n rc rs : Nat} {S : St} {AD : Ad} {len k : Nat} {sg : Nat → Int32} {X : Nat → Int32} {A : Nat → Nat → Int32} {og : Nat → Int64} {C : Ct} {v5 v6 : Value} (hG : GX S S n h AD len sg X A og C) (hO : OK S) (hk : k + 4 ≤ len) (hlen : len ≤ 2048) (hc : bc k S ≤ rc) (hs : bs k S ≤ rs)
    (hN : NX 11 386 (wsZ p l e R s m args below meth c QW D ca base) wsQ len sg k) : wsZ p l e R s m args below meth c QW D ca base 442 (LSt AD k v5 v6) [.ref (AD 8 0), .int (sg (k + 2)), .int (sg (k + 1)), .ref (AD 5 0)] h n rc rs := by
  intro H locs arr cells slots hH hn hS hl hc1 hs1
  obtain ⟨hx, hb, hml, hts, hown, hK, hbase, hfr, hlo, hth, -, hs112, htr⟩ := id hF
  obtain ⟨fs, h5⟩ := hG.os
  have hc4 : bc (k + 4) S ≤ rc - 1 ∧ 1 ≤ rc := by unfold bc at hc ⊢; omega
  have hs4 : bs (k + 4) S ≤ rs - 6 ∧ 6 ≤ rs := by unfold bs at hs ⊢; omega
  refine la_callR (As := [.ref (AD 5 0), .int (sg (k + 1)), .int (sg (k + 2)), .ref (AD 8 0)]) (rest := []) (k := 112) (n := n) (Q' := laQ (op_oct S (sg (k + 1)) (sg (k + 2))) h n (AD 8 0) og) laF_oc hx hb (hml.trans hl.1.symm) hts hown hK hH hn (by rw [← hn]; exact Nat.le_trans hbase hS.1) hS hbase hth hs112 rfl ?_ (by omega) (by omega) (by show 0 ≤ 8; omega) (by omega) (by omega) lw_d442 ?_
  · rw [hfr, hlo]
    exact la_met htr D ca base (f := 10) (w := 362) (idx := 15) (me := 30) (k := 112) (pcz := 18) rfl la_decO rfl rfl rfl rfl rfl (by omega) (by omega) h5 hG.ou (fun hr => n_octet (by omega) (by omega) hG.mem hG.cc hO.1 hr (fun v3 => ⟨rfl, rfl, rfl, rfl, Nat.le_refl _, Nat.le_refl _⟩)) (fun c hr Q hQ => m_octet (by omega) (by omega) hG.mem hG.cc hO.1 hr hQ) tr_decO
  · rintro r h' n' H1 locs1 hq hz hH1 hS1
    rcases hq with ⟨hr, rfl, rfl, rfl⟩ | ⟨cb, hr, rfl, rfl, rfl⟩
    · exact ws_run hF hR (t_octet2 (rc := rc - 1) (rs := rs - 6) (v5 := v5) (v6 := v6) (by omega) (by omega) (hG.up (Nat.le_succ _)) hO hk hlen hc4.1 hs4.1 hN (Or.inl ⟨hr, rfl⟩)) H1 locs1 arr (cells + 1) (slots + 6) hH1 hz hS1 hl (by omega) (by omega)
    · obtain ⟨C', hG'⟩ := hG.out (vp_updL og 0 (bS cb).toInt64)
      exact ws_run hF hR (t_octet2 (rc := rc - 1) (rs := rs - 6) (v5 := v5) (v6 := v6) (by omega) (by omega) hG' hO hk hlen hc4.1 hs4.1 hN (Or.inr ⟨cb, hr, rfl, by simp [vp_updL]⟩)) H1 locs1 arr (cells + 1) (slots + 6) hH1 hz hS1 hl (by omega) (by omega)
theorem ws_loop (hF : wsF p l R s m args c D ca base) (hR : ∀ pc arr H locs cells slots, decode (mj_code 89) pc = .ok (.ireturn, 1) → va_S (fun q => base ≤ q) s.heap H locs → cells ≤ R.cells → slots ≤ R.slots → W p l e R s m args below meth c H locs cells slots QW (F0 m pc arr [.int 1])) {len : Nat} {sg : Nat → Int32} (hlen : len ≤ 2048) :
    ∀ (t k : Nat), len < k + 4 * t → k ≤ 2048 → ∀ (S : St) (AD : Ad) (X : Nat → Int32) (A : Nat → Nat → Int32) (og : Nat → Int64) (C : Ct) (h : mj_H) (n rc rs : Nat) (v5 v6 : Value), GX S S n h AD len sg X A og C → OK S → bc k S ≤ rc → bs k S ≤ rs → wsZ p l e R s m args below meth c QW D ca base 23 (LSt AD k v5 v6) [] h n rc rs := by
  intro t
  induction t with
  | zero =>
    intro k hk hk2 S AD X A og C h n rc rs v5 v6 hG hO hc hs
    exact ws_run hF hR (t_last hG (by omega) hk2 hlen rfl)
  | succ t ih =>
    intro k hk hk2 S AD X A og C h n rc rs v5 v6 hG hO hc hs
    by_cases h4 : k + 4 ≤ len
    · have hN : NX 11 386 (wsZ p l e R s m args below meth c QW D ca base) wsQ len sg k := t_nx (fun S AD X A og C h n rc rs v5 v6 hG hO hc hs => ih (k + 4) (by omega) (by omega) S AD X A og C h n rc rs v5 v6 hG hO hc hs)
      exact ws_run hF hR (t_turn (by omega) (by omega) hG hO h4 hlen hc hs hN (ws_at hF hR hG hO h4 hlen hc hs hN) (ws_octet hF hR hG hO h4 hlen hc hs hN))
    · exact ws_run hF hR (t_last hG (by omega) hk2 hlen rfl)
end WSL
