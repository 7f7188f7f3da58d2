/-! ===== Item and Pack are made ===== -/
section
variable {f w : Nat} {Q : mj_Q} {h : mj_H} {n mc ms x : Nat}
set_option maxRecDepth 100000 in
theorem c_iinit {i kd : Nat} (hf : 2 ≤ f) (hw : 41 ≤ w) (hmc : 1 ≤ mc) (hms : 60 ≤ ms) (hx : h x = some (.inr (0, mj_new 0))) (hxn : x < n) (hQ : Q none (mj_up (mj_up h n (BYc 60 (fun _ => 0))) x (ITc i kd n 0 .null 0 0)) (n + 1)) : mj_bk f w 0 [.ref x, .int (nI i), .int (nI kd)] h n mc ms Q := by
  have hx' : h x = some (.inr (0, [.int 0, .int 0, .null, .int 0, .null, .int 0, .int 0])) := hx
  have hne : x ≠ n := by omega
  refine mj_begin (by omega) (by decide) (by show 22 ≤ w; omega) rfl ?_
  show mj_W _ _ 0 mj_noZ Q 0 [.ref x, .int (nI i), .int (nI kd)] [] h n mc ms
  simp only [sX0_init_0, sX0_init_1, sX0_init_4, sX0_init_5, sX0_init_7, sX0_init_9, sX0_init_12, sX0_init_13, sX0_init_14, sX0_init_17, sX0_init_18, sX0_init_19, sX0_init_22, sX0_init_23, sX0_init_24, sX0_init_27, sX0_init_28, sX0_init_29, sX0_init_32, sX0_init_33, sX0_init_34, sX0_init_37, sX0_init_38, sX0_init_39, sX0_init_42, hx', mj_up_n hne, nfi_0_0, ffi_0_0, nfi_0_1, ffi_0_1, nfr_0_2, ffr_0_2, nfu_0_2, ffu_0_2, nfi_0_3, ffi_0_3, nfr_0_4, ffr_0_4, nfu_0_4, ffu_0_4, nfi_0_5, ffi_0_5, nfz_0_6, ffz_0_6, nfo_0_6, ffo_0_6, Option.some.injEq, Sum.inr.injEq, Sum.inl.injEq, Prod.mk.injEq, true_and, and_true, exists_eq_left', exists_eq_left, exists_eq_right, exists_eq_right', exists_and_left, exists_and_right, List.getElem?_cons_succ, List.getElem?_cons_zero, List.length_cons, List.length_nil, List.set_cons_zero, List.set_cons_succ, Option.toList_some, Option.toList_none, List.nil_append, List.cons_append, mj_up_s, true_or, or_true, Nat.sub_zero, and_assoc, b10, not_true_eq_false, not_false_eq_true, false_implies, true_implies, implies_true, eq_self, and_self, rf_some, rf_none, mj_up_up, List.map_cons, List.map_nil, Value.category, List.sum_cons, List.sum_nil]
  exact ⟨by omega, by show 0 + 12 ≤ w - 22; omega, hmc, hms, by decide, by decide, by decide, by decide, by decide, by decide, by decide, hQ⟩
set_option maxRecDepth 100000 in
theorem c_pinit {p c fi : Nat} (hf : 2 ≤ f) (hw : 42 ≤ w) (hmc : 1 ≤ mc) (hms : 600 ≤ ms) (hx : h x = some (.inr (1, mj_new 1))) (hxn : x < n) (hQ : Q none (mj_up (mj_up h n (BYc 600 (fun _ => 0))) x (PKc p c fi n 0 .null)) (n + 1)) : mj_bk f w 8 [.ref x, .int (nI p), .int (nI c), .int (nI fi)] h n mc ms Q := by
  have hx' : h x = some (.inr (1, [.int 0, .int 0, .int 0, .null, .int 0, .null])) := hx
  have hne : x ≠ n := by omega
  refine mj_begin (by omega) (by decide) (by show 23 ≤ w; omega) rfl ?_
  show mj_W _ _ 8 mj_noZ Q 0 [.ref x, .int (nI p), .int (nI c), .int (nI fi)] [] h n mc ms
  simp only [sX1_init_0, sX1_init_1, sX1_init_4, sX1_init_5, sX1_init_8, sX1_init_10, sX1_init_13, sX1_init_14, sX1_init_15, sX1_init_18, sX1_init_19, sX1_init_20, sX1_init_23, sX1_init_24, sX1_init_25, sX1_init_28, sX1_init_29, sX1_init_30, sX1_init_33, sX1_init_34, sX1_init_35, sX1_init_38, hx', mj_up_n hne, nfi_1_0, ffi_1_0, nfi_1_1, ffi_1_1, nfi_1_2, ffi_1_2, nfr_1_3, ffr_1_3, nfu_1_3, ffu_1_3, nfi_1_4, ffi_1_4, nfr_1_5, ffr_1_5, nfu_1_5, ffu_1_5, Option.some.injEq, Sum.inr.injEq, Sum.inl.injEq, Prod.mk.injEq, true_and, and_true, exists_eq_left', exists_eq_left, exists_eq_right, exists_eq_right', exists_and_left, exists_and_right, List.getElem?_cons_succ, List.getElem?_cons_zero, List.length_cons, List.length_nil, List.set_cons_zero, List.set_cons_succ, Option.toList_some, Option.toList_none, List.nil_append, List.cons_append, mj_up_s, true_or, or_true, Nat.sub_zero, and_assoc, b10, not_true_eq_false, not_false_eq_true, false_implies, true_implies, implies_true, eq_self, and_self, rf_some, rf_none, mj_up_up, List.map_cons, List.map_nil, Value.category, List.sum_cons, List.sum_nil]
  exact ⟨by omega, by show 0 + 12 ≤ w - 23; omega, hmc, hms, by decide, by decide, by decide, by decide, by decide, by decide, hQ⟩
end
