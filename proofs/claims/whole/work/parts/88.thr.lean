/-! ===== what is thrown ===== -/
def thX : String := "java/lang/ArrayIndexOutOfBoundsException"
def thUp : List String := ["java/lang/IndexOutOfBoundsException", "java/lang/RuntimeException", "java/lang/Exception"]
def thRef : List Cond := [.isRef (.static "java/lang/Throwable" "UNASSIGNED_STACK" "[Ljava/lang/StackTraceElement;"), .isRef (.static "java/lang/Throwable" "SUPPRESSED_SENTINEL" "Ljava/util/List;")]
/-- words that a call does not hand on by itself -/
def thOwn (w : Cond) : Bool := match w with
  | .castable _ _ => true
  | .laysStatic _ _ _ => true
  | .isRef _ => true
  | .declares _ => true
  | _ => false
set_option maxRecDepth 100000 in
theorem th_in : (Bundle.ownAtoms "ObjectStreams" 84 thX thUp).all (fun w => decide (w ∈ lw_tbl) || decide (w ∈ thRef)) = true := by decide +kernel
set_option maxRecDepth 100000 in
theorem th_good : (Bundle.ownAtoms "ObjectStreams" 84 thX thUp).all (fun w => goodWord w || thOwn w) = true := by decide +kernel
theorem th_names : thUp.all (fun n => Bundle.fit n) = true ∧ Bundle.fit thX = true := by decide +kernel
