/-! ===== what is thrown ===== -/
def thX : String := "java/lang/ArrayIndexOutOfBoundsException"
def thUp : List String := ["java/lang/IndexOutOfBoundsException", "java/lang/RuntimeException", "java/lang/Exception"]
def thRef : List Cond := [.isRef (.static "java/lang/Throwable" "UNASSIGNED_STACK" "[Ljava/lang/StackTraceElement;"), .isRef (.static "java/lang/Throwable" "SUPPRESSED_SENTINEL" "Ljava/util/List;")]
def thLay : List Cond := [.castable thX thX, .laysStatic "java/lang/Throwable" "UNASSIGNED_STACK" "[Ljava/lang/StackTraceElement;", .laysStatic "java/lang/Throwable" "SUPPRESSED_SENTINEL" "Ljava/util/List;"]
set_option maxRecDepth 100000 in
theorem th_in : (Bundle.ownAtoms "ObjectStreams" 84 thX thUp).all (fun w => decide (w ∈ lw_tbl) || decide (w ∈ thRef)) = true := by decide +kernel
set_option maxRecDepth 100000 in
theorem th_good : (Bundle.ownAtoms "ObjectStreams" 84 thX thUp).all (fun w => goodWord w || decide (w ∈ thRef) || decide (w ∈ thLay)) = true := by decide +kernel
theorem th_names : thUp.all (fun n => Bundle.fit n) = true ∧ Bundle.fit thX = true := by decide +kernel
