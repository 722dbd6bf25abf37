/-! TABLES: exceptions -/
theorem zx0_in : ∀ w ∈ vx_atS RX5 238 (zEX 0) zxn, w ∈ tables_1 := by decide +kernel
theorem zx0_ot : ∀ w ∈ vx_atS RX5 238 (zEX 0) zxn, (vx_ot w && w.keepsFace) = true := by decide +kernel
theorem zx2_in : ∀ w ∈ vx_atS RX5 350 (zEX 2) zxn, w ∈ tables_1 := by decide +kernel
theorem zx2_ot : ∀ w ∈ vx_atS RX5 350 (zEX 2) zxn, (vx_ot w && w.keepsFace) = true := by decide +kernel
theorem zx1_in : ∀ w ∈ vx_atS RX5 141 (zEX 1) zxn, w ∈ tables_1 := by decide +kernel
theorem zx1_ot : ∀ w ∈ vx_atS RX5 141 (zEX 1) zxn, (vx_ot w && w.keepsFace) = true := by decide +kernel
theorem zx4_in : ∀ w ∈ vx_atS RX5 269 (zEX 4) zxn, w ∈ tables_1 := by decide +kernel
theorem zx4_ot : ∀ w ∈ vx_atS RX5 269 (zEX 4) zxn, (vx_ot w && w.keepsFace) = true := by decide +kernel
/-- the same for NoSuchElementException, whose constructor names its superclass's by another index -/
def zx3L : List Cond := Bundle.throwableAtoms ++ Bundle.throwableSAtoms ++ (Bundle.passSAtoms (zEX 3) "java/lang/RuntimeException" 13 prog_26_method_4_code ++ Bundle.chainSAtoms "java/lang/RuntimeException" ["java/lang/Exception"]) ++
  [.methodLink RX5 167 (Bundle.initS (zEX 3)), .instantiable (zEX 3) 6, .castable (zEX 3) (zEX 3), .selects (zEX 3) Bundle.tFill0 Bundle.tFill0, .selects (zEX 3) Bundle.tFill Bundle.tFill,
   .lays (zEX 3) Bundle.tN "cause" "Ljava/lang/Throwable;", .lays (zEX 3) Bundle.tN "stackTrace" Bundle.steD, .lays (zEX 3) Bundle.tN "suppressedExceptions" Bundle.listD, .lays (zEX 3) Bundle.tN "detailMessage" "Ljava/lang/String;",
   .isRef (.static Bundle.tN "UNASSIGNED_STACK" Bundle.steD), .isRef (.static Bundle.tN "SUPPRESSED_SENTINEL" Bundle.listD),
   .fieldLink Bundle.tN 198 Bundle.tN "backtrace" "Ljava/lang/Object;", .lays Bundle.tN Bundle.tN "backtrace" "Ljava/lang/Object;", .lays (zEX 3) Bundle.tN "backtrace" "Ljava/lang/Object;"]
theorem zx3_in : ∀ w ∈ zx3L.filter vx_no, w ∈ tables_1 := by decide +kernel
theorem zx3_ot : ∀ w ∈ zx3L.filter vx_no, (vx_ot w && w.keepsFace) = true := by decide +kernel
theorem zwh0 : Cond.classLink RL 13 (zEX 0) ∈ lw_tbl ∧ Cond.castable (zEX 0) (zEX 0) ∈ lw_tbl := ⟨zw_in (p := 367) (by decide +kernel), zw_in (p := 394) (by decide +kernel)⟩
theorem zwh1 : Cond.classLink RL 15 (zEX 1) ∈ lw_tbl ∧ Cond.castable (zEX 1) (zEX 1) ∈ lw_tbl := ⟨zw_in (p := 368) (by decide +kernel), zw_in (p := 483) (by decide +kernel)⟩
theorem zwh2 : Cond.classLink RL 17 (zEX 2) ∈ lw_tbl ∧ Cond.castable (zEX 2) (zEX 2) ∈ lw_tbl := ⟨zw_in (p := 369) (by decide +kernel), zw_in (p := 467) (by decide +kernel)⟩
theorem zwh3 : Cond.classLink RL 56 (zEX 3) ∈ lw_tbl ∧ Cond.castable (zEX 3) (zEX 3) ∈ lw_tbl := ⟨zw_in (p := 718) (by decide +kernel), zw_in (p := 725) (by decide +kernel)⟩
theorem zwh4 : Cond.classLink RL 108 (zEX 4) ∈ lw_tbl ∧ Cond.castable (zEX 4) (zEX 4) ∈ lw_tbl := ⟨zw_in (p := 927) (by decide +kernel), zw_in (p := 934) (by decide +kernel)⟩
