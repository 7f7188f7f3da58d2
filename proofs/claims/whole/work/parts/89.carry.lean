/-! ===== words of what is thrown, from the law's entry on ===== -/
theorem th_lays {s U : State} {A A' : Array Value} (hvm : s.vm.Alike U.vm) (hH : ∀ q : Nat, q < s.heap.size → U.heap[q]? = s.heap[q]?) {O f d : String} (h : (Cond.laysStatic O f d).before A s = true) : (Cond.laysStatic O f d).before A' U = true := by
  have h1 := Cond.laysStatic_setVm (args := A) hvm h
  obtain ⟨c, k, i, fd, a, cell, hc, hf, hst, hsta, hcell, hiss, hcls, hlt, hty⟩ := Cond.laysStatic_spec h1
  have hcell0 : s.heap[a]? = some cell := hcell
  have hcell' : U.heap[a]? = some cell := by rw [hH a (Array.getElem?_eq_some_iff.mp hcell0).1]; exact hcell0
  have hc' : U.vm.findClass O = some c := hc
  have hf' : U.fieldFound? O f d = some (c, k, i, fd) := by simpa only [State.fieldFound?, State.vm_setVm] using hf
  simp [Cond.before, Cond.holds, Cond.value, hc', hf', hst, hsta, hcell', hiss, hcls, hlt, hty]
theorem th_isRef {s U : State} {A A' : Array Value} (hvm : s.vm.Alike U.vm) (hH : ∀ q : Nat, q < s.heap.size → U.heap[q]? = s.heap[q]?) {O f d : String} (h : (Cond.laysStatic O f d).before A s = true) (hr : (Cond.isRef (.static O f d)).before A s = true) : (Cond.isRef (.static O f d)).before A' U = true := by
  obtain ⟨c, k, i, fd, a, cell, hc, hf, hst, hsta, hcell, hiss, hcls, hlt, hty⟩ := Cond.laysStatic_spec h
  obtain ⟨c2, k2, i2, fd2, a2, cell2, hc2, hf2, hst2, hsta2, hcell2, hiss2, hcls2, hlt2, hty2⟩ := Cond.laysStatic_spec (th_lays (A' := A) hvm hH h)
  obtain ⟨kf', hi', hk'⟩ := State.fieldFound?_setVm hvm hf
  have hiU : U.fieldFound? O f d = some (c, kf', i, fd) := by simpa only [State.fieldFound?, State.vm_setVm] using hi'
  have e := Option.some.inj (hf2.symm.trans hiU)
  have e1 : fd2 = fd := by have := congrArg (fun q => q.2.2.2) e; exact this
  have e2 : k2 = kf' := by have := congrArg (fun q => q.2.1) e; exact this
  have ea : a2 = a := by
    rw [e2, hk'] at hsta2
    exact Option.some.inj (hsta2.symm.trans hsta)
  subst ea
  have ec : cell2 = cell := by
    rw [hH a2 (Array.getElem?_eq_some_iff.mp hcell).1] at hcell2
    exact Option.some.inj (hcell2.symm.trans hcell)
  subst ec
  subst e1
  have hv : cell2.slots[fd2.slot]? = some cell2.slots[fd2.slot] := Array.getElem?_eq_getElem hlt
  have v1 : (Term.static O f d).eval A s none [] s = some cell2.slots[fd2.slot] := by simp [Term.eval, State.fieldNamed?, hf, hst, hsta, hcell, hiss, hv]
  have v2 : (Term.static O f d).eval A' U none [] U = some cell2.slots[fd2.slot] := by simp [Term.eval, State.fieldNamed?, hf2, hst2, hsta2, hcell2, hiss2, hv]
  simp only [Cond.before, Cond.holds, Cond.value, v1] at hr
  simp only [Cond.before, Cond.holds, Cond.value, v2]
  exact hr
theorem th_tab {s U : State} {A A' : Array Value} (hvm : s.vm.Alike U.vm) {w : Cond} (hw : w.onTables = true) (hs : ∀ B : Array Value, w.before B (s.setVm U.vm) = w.before B s) (h : w.before A s = true) : w.before A' U = true := by
  have e := Cond.onTables_vm (A := A) (A' := A') (U := s) (U' := U) U.vm w hw
  rw [hs A, h] at e
  rw [State.setVm_self] at e
  exact e.symm
def thA : List Cond := Bundle.ownAtoms "ObjectStreams" 84 thX thUp
set_option maxRecDepth 100000 in
theorem th_refs : thA.all (fun w => match w with | .isRef _ => decide (w ∈ thRef) | _ => true) = true := by decide +kernel
set_option maxRecDepth 100000 in
theorem th_lay2 : decide ((Cond.laysStatic "java/lang/Throwable" "UNASSIGNED_STACK" "[Ljava/lang/StackTraceElement;") ∈ thA) && decide ((Cond.laysStatic "java/lang/Throwable" "SUPPRESSED_SENTINEL" "Ljava/util/List;") ∈ thA) = true := by decide +kernel
theorem th_refBad : thRef.all (fun w => !goodWord w) = true := by decide +kernel
theorem th_all {s U : State} {A A' : Array Value} (hvm : s.vm.Alike U.vm) (hH : ∀ q : Nat, q < s.heap.size → U.heap[q]? = s.heap[q]?) (hs : ∀ w ∈ thA, w.before A s = true) (hU : ∀ w ∈ mj_T, w.before A' U = true) : ∀ w ∈ thA, w.before A' U = true := by
  intro w hw
  have hg := List.all_eq_true.mp th_good w hw
  have hi := List.all_eq_true.mp th_in w hw
  simp only [Bool.or_eq_true, decide_eq_true_eq] at hg hi
  have hl := th_lay2
  simp only [Bool.and_eq_true, decide_eq_true_eq] at hl
  rcases hg with hg | hg
  · refine hU w (List.mem_filter.mpr ⟨?_, hg⟩)
    rcases hi with hi | hi
    · exact hi
    · have := List.all_eq_true.mp th_refBad w hi
      rw [hg] at this; cases this
  · have hr := List.all_eq_true.mp th_refs w hw
    cases w with
    | castable a b => exact th_tab hvm rfl (fun B => Cond.castable_setVm (args := B) hvm a b) (hs _ hw)
    | declares x => exact th_tab hvm rfl (fun B => Cond.declares_setVm (args := B) hvm x) (hs _ hw)
    | laysStatic O f d => exact th_lays hvm hH (hs _ hw)
    | isRef t =>
      have hr : Cond.isRef t ∈ thRef := of_decide_eq_true hr
      rcases List.mem_cons.mp hr with e | e
      · rw [e]; exact th_isRef hvm hH (hs _ hl.1) (by rw [← e]; exact hs _ hw)
      · obtain e := List.mem_singleton.mp e
        rw [e]; exact th_isRef hvm hH (hs _ hl.2) (by rw [← e]; exact hs _ hw)
    | _ => cases hg
