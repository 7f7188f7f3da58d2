/-! ===== what a field may hold ===== -/
theorem nfi_0_0 {x : Int32} : (narrow (mj_ty 0 0) (.int x) = (.int x)) = True := eq_true rfl
theorem ffi_0_0 {x : Int32} : (fits (mj_ty 0 0) (.int x) = true) = True := eq_true rfl
theorem nfi_0_1 {x : Int32} : (narrow (mj_ty 0 1) (.int x) = (.int x)) = True := eq_true rfl
theorem ffi_0_1 {x : Int32} : (fits (mj_ty 0 1) (.int x) = true) = True := eq_true rfl
theorem nfr_0_2 {a : Nat} : (narrow (mj_ty 0 2) (.ref a) = (.ref a)) = True := eq_true rfl
theorem ffr_0_2 {a : Nat} : (fits (mj_ty 0 2) (.ref a) = true) = True := eq_true rfl
theorem nfu_0_2 : (narrow (mj_ty 0 2) .null = .null) = True := eq_true rfl
theorem ffu_0_2 : (fits (mj_ty 0 2) .null = true) = True := eq_true rfl
theorem nfi_0_3 {x : Int32} : (narrow (mj_ty 0 3) (.int x) = (.int x)) = True := eq_true rfl
theorem ffi_0_3 {x : Int32} : (fits (mj_ty 0 3) (.int x) = true) = True := eq_true rfl
theorem nfr_0_4 {a : Nat} : (narrow (mj_ty 0 4) (.ref a) = (.ref a)) = True := eq_true rfl
theorem ffr_0_4 {a : Nat} : (fits (mj_ty 0 4) (.ref a) = true) = True := eq_true rfl
theorem nfu_0_4 : (narrow (mj_ty 0 4) .null = .null) = True := eq_true rfl
theorem ffu_0_4 : (fits (mj_ty 0 4) .null = true) = True := eq_true rfl
theorem nfi_0_5 {x : Int32} : (narrow (mj_ty 0 5) (.int x) = (.int x)) = True := eq_true rfl
theorem ffi_0_5 {x : Int32} : (fits (mj_ty 0 5) (.int x) = true) = True := eq_true rfl
theorem nfz_0_6 : (narrow (mj_ty 0 6) (.int 0) = (.int 0)) = True := eq_true rfl
theorem ffz_0_6 : (fits (mj_ty 0 6) (.int 0) = true) = True := eq_true rfl
theorem nfo_0_6 : (narrow (mj_ty 0 6) (.int 1) = (.int 1)) = True := eq_true rfl
theorem ffo_0_6 : (fits (mj_ty 0 6) (.int 1) = true) = True := eq_true rfl
theorem nfi_1_0 {x : Int32} : (narrow (mj_ty 1 0) (.int x) = (.int x)) = True := eq_true rfl
theorem ffi_1_0 {x : Int32} : (fits (mj_ty 1 0) (.int x) = true) = True := eq_true rfl
theorem nfi_1_1 {x : Int32} : (narrow (mj_ty 1 1) (.int x) = (.int x)) = True := eq_true rfl
theorem ffi_1_1 {x : Int32} : (fits (mj_ty 1 1) (.int x) = true) = True := eq_true rfl
theorem nfi_1_2 {x : Int32} : (narrow (mj_ty 1 2) (.int x) = (.int x)) = True := eq_true rfl
theorem ffi_1_2 {x : Int32} : (fits (mj_ty 1 2) (.int x) = true) = True := eq_true rfl
theorem nfr_1_3 {a : Nat} : (narrow (mj_ty 1 3) (.ref a) = (.ref a)) = True := eq_true rfl
theorem ffr_1_3 {a : Nat} : (fits (mj_ty 1 3) (.ref a) = true) = True := eq_true rfl
theorem nfu_1_3 : (narrow (mj_ty 1 3) .null = .null) = True := eq_true rfl
theorem ffu_1_3 : (fits (mj_ty 1 3) .null = true) = True := eq_true rfl
theorem nfi_1_4 {x : Int32} : (narrow (mj_ty 1 4) (.int x) = (.int x)) = True := eq_true rfl
theorem ffi_1_4 {x : Int32} : (fits (mj_ty 1 4) (.int x) = true) = True := eq_true rfl
theorem nfr_1_5 {a : Nat} : (narrow (mj_ty 1 5) (.ref a) = (.ref a)) = True := eq_true rfl
theorem ffr_1_5 {a : Nat} : (fits (mj_ty 1 5) (.ref a) = true) = True := eq_true rfl
theorem nfu_1_5 : (narrow (mj_ty 1 5) .null = .null) = True := eq_true rfl
theorem ffu_1_5 : (fits (mj_ty 1 5) .null = true) = True := eq_true rfl
theorem nfr_2_0 {a : Nat} : (narrow (mj_ty 2 0) (.ref a) = (.ref a)) = True := eq_true rfl
theorem ffr_2_0 {a : Nat} : (fits (mj_ty 2 0) (.ref a) = true) = True := eq_true rfl
theorem nfu_2_0 : (narrow (mj_ty 2 0) .null = .null) = True := eq_true rfl
theorem ffu_2_0 : (fits (mj_ty 2 0) .null = true) = True := eq_true rfl
theorem nfi_2_1 {x : Int32} : (narrow (mj_ty 2 1) (.int x) = (.int x)) = True := eq_true rfl
theorem ffi_2_1 {x : Int32} : (fits (mj_ty 2 1) (.int x) = true) = True := eq_true rfl
theorem nfr_2_2 {a : Nat} : (narrow (mj_ty 2 2) (.ref a) = (.ref a)) = True := eq_true rfl
theorem ffr_2_2 {a : Nat} : (fits (mj_ty 2 2) (.ref a) = true) = True := eq_true rfl
theorem nfu_2_2 : (narrow (mj_ty 2 2) .null = .null) = True := eq_true rfl
theorem ffu_2_2 : (fits (mj_ty 2 2) .null = true) = True := eq_true rfl
theorem nfi_2_3 {x : Int32} : (narrow (mj_ty 2 3) (.int x) = (.int x)) = True := eq_true rfl
theorem ffi_2_3 {x : Int32} : (fits (mj_ty 2 3) (.int x) = true) = True := eq_true rfl
theorem nfr_2_4 {a : Nat} : (narrow (mj_ty 2 4) (.ref a) = (.ref a)) = True := eq_true rfl
theorem ffr_2_4 {a : Nat} : (fits (mj_ty 2 4) (.ref a) = true) = True := eq_true rfl
theorem nfu_2_4 : (narrow (mj_ty 2 4) .null = .null) = True := eq_true rfl
theorem ffu_2_4 : (fits (mj_ty 2 4) .null = true) = True := eq_true rfl
theorem nfr_2_5 {a : Nat} : (narrow (mj_ty 2 5) (.ref a) = (.ref a)) = True := eq_true rfl
theorem ffr_2_5 {a : Nat} : (fits (mj_ty 2 5) (.ref a) = true) = True := eq_true rfl
theorem nfu_2_5 : (narrow (mj_ty 2 5) .null = .null) = True := eq_true rfl
theorem ffu_2_5 : (fits (mj_ty 2 5) .null = true) = True := eq_true rfl
theorem nfi_2_6 {x : Int32} : (narrow (mj_ty 2 6) (.int x) = (.int x)) = True := eq_true rfl
theorem ffi_2_6 {x : Int32} : (fits (mj_ty 2 6) (.int x) = true) = True := eq_true rfl
theorem nfr_2_7 {a : Nat} : (narrow (mj_ty 2 7) (.ref a) = (.ref a)) = True := eq_true rfl
theorem ffr_2_7 {a : Nat} : (fits (mj_ty 2 7) (.ref a) = true) = True := eq_true rfl
theorem nfu_2_7 : (narrow (mj_ty 2 7) .null = .null) = True := eq_true rfl
theorem ffu_2_7 : (fits (mj_ty 2 7) .null = true) = True := eq_true rfl
theorem nfi_2_8 {x : Int32} : (narrow (mj_ty 2 8) (.int x) = (.int x)) = True := eq_true rfl
theorem ffi_2_8 {x : Int32} : (fits (mj_ty 2 8) (.int x) = true) = True := eq_true rfl
theorem nfr_2_9 {a : Nat} : (narrow (mj_ty 2 9) (.ref a) = (.ref a)) = True := eq_true rfl
theorem ffr_2_9 {a : Nat} : (fits (mj_ty 2 9) (.ref a) = true) = True := eq_true rfl
theorem nfu_2_9 : (narrow (mj_ty 2 9) .null = .null) = True := eq_true rfl
theorem ffu_2_9 : (fits (mj_ty 2 9) .null = true) = True := eq_true rfl
theorem nfi_3_0 {x : Int32} : (narrow (mj_ty 3 0) (.int x) = (.int x)) = True := eq_true rfl
theorem ffi_3_0 {x : Int32} : (fits (mj_ty 3 0) (.int x) = true) = True := eq_true rfl
theorem nfi_3_1 {x : Int32} : (narrow (mj_ty 3 1) (.int x) = (.int x)) = True := eq_true rfl
theorem ffi_3_1 {x : Int32} : (fits (mj_ty 3 1) (.int x) = true) = True := eq_true rfl
theorem nfr_3_2 {a : Nat} : (narrow (mj_ty 3 2) (.ref a) = (.ref a)) = True := eq_true rfl
theorem ffr_3_2 {a : Nat} : (fits (mj_ty 3 2) (.ref a) = true) = True := eq_true rfl
theorem nfu_3_2 : (narrow (mj_ty 3 2) .null = .null) = True := eq_true rfl
theorem ffu_3_2 : (fits (mj_ty 3 2) .null = true) = True := eq_true rfl
theorem nfr_3_3 {a : Nat} : (narrow (mj_ty 3 3) (.ref a) = (.ref a)) = True := eq_true rfl
theorem ffr_3_3 {a : Nat} : (fits (mj_ty 3 3) (.ref a) = true) = True := eq_true rfl
theorem nfu_3_3 : (narrow (mj_ty 3 3) .null = .null) = True := eq_true rfl
theorem ffu_3_3 : (fits (mj_ty 3 3) .null = true) = True := eq_true rfl
theorem nfr_3_4 {a : Nat} : (narrow (mj_ty 3 4) (.ref a) = (.ref a)) = True := eq_true rfl
theorem ffr_3_4 {a : Nat} : (fits (mj_ty 3 4) (.ref a) = true) = True := eq_true rfl
theorem nfu_3_4 : (narrow (mj_ty 3 4) .null = .null) = True := eq_true rfl
theorem ffu_3_4 : (fits (mj_ty 3 4) .null = true) = True := eq_true rfl
theorem nfr_3_5 {a : Nat} : (narrow (mj_ty 3 5) (.ref a) = (.ref a)) = True := eq_true rfl
theorem ffr_3_5 {a : Nat} : (fits (mj_ty 3 5) (.ref a) = true) = True := eq_true rfl
theorem nfu_3_5 : (narrow (mj_ty 3 5) .null = .null) = True := eq_true rfl
theorem ffu_3_5 : (fits (mj_ty 3 5) .null = true) = True := eq_true rfl
theorem nfr_3_6 {a : Nat} : (narrow (mj_ty 3 6) (.ref a) = (.ref a)) = True := eq_true rfl
theorem ffr_3_6 {a : Nat} : (fits (mj_ty 3 6) (.ref a) = true) = True := eq_true rfl
theorem nfu_3_6 : (narrow (mj_ty 3 6) .null = .null) = True := eq_true rfl
theorem ffu_3_6 : (fits (mj_ty 3 6) .null = true) = True := eq_true rfl
theorem nfi_3_7 {x : Int32} : (narrow (mj_ty 3 7) (.int x) = (.int x)) = True := eq_true rfl
theorem ffi_3_7 {x : Int32} : (fits (mj_ty 3 7) (.int x) = true) = True := eq_true rfl
theorem nfr_3_8 {a : Nat} : (narrow (mj_ty 3 8) (.ref a) = (.ref a)) = True := eq_true rfl
theorem ffr_3_8 {a : Nat} : (fits (mj_ty 3 8) (.ref a) = true) = True := eq_true rfl
theorem nfu_3_8 : (narrow (mj_ty 3 8) .null = .null) = True := eq_true rfl
theorem ffu_3_8 : (fits (mj_ty 3 8) .null = true) = True := eq_true rfl
theorem nfr_3_9 {a : Nat} : (narrow (mj_ty 3 9) (.ref a) = (.ref a)) = True := eq_true rfl
theorem ffr_3_9 {a : Nat} : (fits (mj_ty 3 9) (.ref a) = true) = True := eq_true rfl
theorem nfu_3_9 : (narrow (mj_ty 3 9) .null = .null) = True := eq_true rfl
theorem ffu_3_9 : (fits (mj_ty 3 9) .null = true) = True := eq_true rfl
theorem nfr_3_10 {a : Nat} : (narrow (mj_ty 3 10) (.ref a) = (.ref a)) = True := eq_true rfl
theorem ffr_3_10 {a : Nat} : (fits (mj_ty 3 10) (.ref a) = true) = True := eq_true rfl
theorem nfu_3_10 : (narrow (mj_ty 3 10) .null = .null) = True := eq_true rfl
theorem ffu_3_10 : (fits (mj_ty 3 10) .null = true) = True := eq_true rfl
theorem nfr_3_11 {a : Nat} : (narrow (mj_ty 3 11) (.ref a) = (.ref a)) = True := eq_true rfl
theorem ffr_3_11 {a : Nat} : (fits (mj_ty 3 11) (.ref a) = true) = True := eq_true rfl
theorem nfu_3_11 : (narrow (mj_ty 3 11) .null = .null) = True := eq_true rfl
theorem ffu_3_11 : (fits (mj_ty 3 11) .null = true) = True := eq_true rfl
theorem nfr_3_12 {a : Nat} : (narrow (mj_ty 3 12) (.ref a) = (.ref a)) = True := eq_true rfl
theorem ffr_3_12 {a : Nat} : (fits (mj_ty 3 12) (.ref a) = true) = True := eq_true rfl
theorem nfu_3_12 : (narrow (mj_ty 3 12) .null = .null) = True := eq_true rfl
theorem ffu_3_12 : (fits (mj_ty 3 12) .null = true) = True := eq_true rfl
theorem nfr_3_13 {a : Nat} : (narrow (mj_ty 3 13) (.ref a) = (.ref a)) = True := eq_true rfl
theorem ffr_3_13 {a : Nat} : (fits (mj_ty 3 13) (.ref a) = true) = True := eq_true rfl
theorem nfu_3_13 : (narrow (mj_ty 3 13) .null = .null) = True := eq_true rfl
theorem ffu_3_13 : (fits (mj_ty 3 13) .null = true) = True := eq_true rfl
theorem nfi_3_14 {x : Int32} : (narrow (mj_ty 3 14) (.int x) = (.int x)) = True := eq_true rfl
theorem ffi_3_14 {x : Int32} : (fits (mj_ty 3 14) (.int x) = true) = True := eq_true rfl
theorem nfi_3_15 {x : Int32} : (narrow (mj_ty 3 15) (.int x) = (.int x)) = True := eq_true rfl
theorem ffi_3_15 {x : Int32} : (fits (mj_ty 3 15) (.int x) = true) = True := eq_true rfl
theorem nfr_3_16 {a : Nat} : (narrow (mj_ty 3 16) (.ref a) = (.ref a)) = True := eq_true rfl
theorem ffr_3_16 {a : Nat} : (fits (mj_ty 3 16) (.ref a) = true) = True := eq_true rfl
theorem nfu_3_16 : (narrow (mj_ty 3 16) .null = .null) = True := eq_true rfl
theorem ffu_3_16 : (fits (mj_ty 3 16) .null = true) = True := eq_true rfl
theorem nfr_3_17 {a : Nat} : (narrow (mj_ty 3 17) (.ref a) = (.ref a)) = True := eq_true rfl
theorem ffr_3_17 {a : Nat} : (fits (mj_ty 3 17) (.ref a) = true) = True := eq_true rfl
theorem nfu_3_17 : (narrow (mj_ty 3 17) .null = .null) = True := eq_true rfl
theorem ffu_3_17 : (fits (mj_ty 3 17) .null = true) = True := eq_true rfl
theorem nfr_3_18 {a : Nat} : (narrow (mj_ty 3 18) (.ref a) = (.ref a)) = True := eq_true rfl
theorem ffr_3_18 {a : Nat} : (fits (mj_ty 3 18) (.ref a) = true) = True := eq_true rfl
theorem nfu_3_18 : (narrow (mj_ty 3 18) .null = .null) = True := eq_true rfl
theorem ffu_3_18 : (fits (mj_ty 3 18) .null = true) = True := eq_true rfl
theorem nfr_3_19 {a : Nat} : (narrow (mj_ty 3 19) (.ref a) = (.ref a)) = True := eq_true rfl
theorem ffr_3_19 {a : Nat} : (fits (mj_ty 3 19) (.ref a) = true) = True := eq_true rfl
theorem nfu_3_19 : (narrow (mj_ty 3 19) .null = .null) = True := eq_true rfl
theorem ffu_3_19 : (fits (mj_ty 3 19) .null = true) = True := eq_true rfl
theorem nfr_3_20 {a : Nat} : (narrow (mj_ty 3 20) (.ref a) = (.ref a)) = True := eq_true rfl
theorem ffr_3_20 {a : Nat} : (fits (mj_ty 3 20) (.ref a) = true) = True := eq_true rfl
theorem nfu_3_20 : (narrow (mj_ty 3 20) .null = .null) = True := eq_true rfl
theorem ffu_3_20 : (fits (mj_ty 3 20) .null = true) = True := eq_true rfl
theorem nfi_3_21 {x : Int32} : (narrow (mj_ty 3 21) (.int x) = (.int x)) = True := eq_true rfl
theorem ffi_3_21 {x : Int32} : (fits (mj_ty 3 21) (.int x) = true) = True := eq_true rfl
