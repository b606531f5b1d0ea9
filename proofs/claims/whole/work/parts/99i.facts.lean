/-! THE ENVIRONMENT at the law's entry -/
section W99i
/-- the given facts, one after the other -/
def eF : List Cond := flatC (Jvm.Cond.and given_1 narrow_1)
def eT (j : Nat) : Term := match wTx[j]? with
  | some x => .string x.1 x.2.1
  | none => .string "" 0
def eX : List Nat := [1049, 1057, 1063, 1071, 1077, 1085, 1091, 1099, 1105, 1110, 311, 348, 375, 503, 528, 565, 594, 635, 672, 706, 750, 783, 807, 835, 861, 887, 910, 938, 960, 986, 1016, 1114, 1140, 1163, 1189, 1213, 1240]
def eR : List Nat := [1484, 1485, 1486, 1487, 1488, 1489, 1490, 1491, 1492, 1493, 458, 493, 509, 1090, 1091, 1113, 1114, 1138, 1268, 1275, 1301, 1309, 1321, 1322, 1348, 1376, 1390, 1436, 1448, 1457, 1458, 1543, 1565, 1577, 1585, 1593, 1605]
set_option maxRecDepth 100000 in
theorem eF_x : ∀ j : Nat, j < 37 → eF[eX.getD j 0]? = some (.exactly (eT j) "java/lang/String") := by decide +kernel
set_option maxRecDepth 100000 in
theorem eF_r : ∀ j : Nat, j < 37 → lw_tbl[eR.getD j 0]? = wTx[j]?.map (fun x => Cond.stringRef x.1 x.2.1 x.2.2) := by decide +kernel
set_option maxRecDepth 100000 in
theorem eF_c : ∀ j : Nat, j < 10 → eF[eX.getD j 0 + 1]? = some (.eq (.field (eT j) "java/lang/String" "coder" "B") (.int 0)) := by decide +kernel
set_option maxRecDepth 100000 in
theorem eF_a : ∀ j : Nat, j < 10 → eF[eX.getD j 0 + 2]? = some (.arrayOf (.field (eT j) "java/lang/String" "value" "[B") .byte) := by decide +kernel
set_option maxRecDepth 100000 in
theorem eF_l : ∀ j : Nat, j < 10 → eF[eX.getD j 0 + 3]? = some (.eq (.length (.field (eT j) "java/lang/String" "value" "[B")) (.int (Int32.ofNat (wSl.getD j 0)))) := by decide +kernel
set_option maxRecDepth 100000 in
theorem eF_e : ∀ i : Nat, i < 10 → ∀ j : Nat, j < wSl.getD i 0 → eF[eX.getD i 0 + 4 + j]? = some (.eq (.elem (.field (eT i) "java/lang/String" "value" "[B") (.int (Int32.ofNat j))) (.int ((wSb.getD i []).getD j 0))) := by decide +kernel
set_option maxRecDepth 100000 in
theorem eF_t : ∀ j : Nat, j < 100 → eF[117 + j]? = some (.eq (.elem (.static "java/lang/Integer" "DigitTens" "[B") (.int (Int32.ofNat j))) (.int (nI (48 + j / 10)))) := by decide +kernel
set_option maxRecDepth 100000 in
theorem eF_o : ∀ j : Nat, j < 100 → eF[14 + j]? = some (.eq (.elem (.static "java/lang/Integer" "DigitOnes" "[B") (.int (Int32.ofNat j))) (.int (nI (48 + j % 10)))) := by decide +kernel
set_option maxRecDepth 100000 in
theorem eF_n : ∀ q ∈ wNc, Cond.not (.castable q.1 q.2) ∈ eF := by decide +kernel
set_option maxRecDepth 100000 in
theorem eF_1 : eF[5]? = some (.isRef (.static "java/lang/Throwable" "UNASSIGNED_STACK" "[Ljava/lang/StackTraceElement;")) := by decide +kernel
set_option maxRecDepth 100000 in
theorem eF_2 : eF[6]? = some (.isRef (.static "java/lang/Throwable" "SUPPRESSED_SENTINEL" "Ljava/util/List;")) := by decide +kernel
set_option maxRecDepth 100000 in
theorem eF_3 : eF[7]? = some (.isRef (.static "jdk/internal/util/Preconditions" "SIOOBE_FORMATTER" "Ljava/util/function/BiFunction;")) := by decide +kernel
set_option maxRecDepth 100000 in
theorem eF_4 : eF[4]? = some (.eq (.static "java/lang/String" "COMPACT_STRINGS" "Z") (.int 1)) := by decide +kernel
set_option maxRecDepth 100000 in
theorem eF_5 : eF[115]? = some (.arrayOf (.static "java/lang/Integer" "DigitTens" "[B") .byte) := by decide +kernel
set_option maxRecDepth 100000 in
theorem eF_6 : eF[116]? = some (.eq (.length (.static "java/lang/Integer" "DigitTens" "[B")) (.int 100)) := by decide +kernel
set_option maxRecDepth 100000 in
theorem eF_7 : eF[12]? = some (.arrayOf (.static "java/lang/Integer" "DigitOnes" "[B") .byte) := by decide +kernel
set_option maxRecDepth 100000 in
theorem eF_8 : eF[13]? = some (.eq (.length (.static "java/lang/Integer" "DigitOnes" "[B")) (.int 100)) := by decide +kernel
set_option maxRecDepth 100000 in
theorem eL_0 : lw_tbl[439]? = some (.laysStatic "java/lang/Throwable" "UNASSIGNED_STACK" "[Ljava/lang/StackTraceElement;") := by decide +kernel
set_option maxRecDepth 100000 in
theorem eZ_0 : lw_tbl[104]? = some (.initialized "java/lang/Throwable") := by decide +kernel
set_option maxRecDepth 100000 in
theorem eL_1 : lw_tbl[441]? = some (.laysStatic "java/lang/Throwable" "SUPPRESSED_SENTINEL" "Ljava/util/List;") := by decide +kernel
set_option maxRecDepth 100000 in
theorem eZ_1 : lw_tbl[104]? = some (.initialized "java/lang/Throwable") := by decide +kernel
set_option maxRecDepth 100000 in
theorem eL_2 : lw_tbl[754]? = some (.laysStatic "jdk/internal/util/Preconditions" "SIOOBE_FORMATTER" "Ljava/util/function/BiFunction;") := by decide +kernel
set_option maxRecDepth 100000 in
theorem eZ_2 : lw_tbl[120]? = some (.initialized "jdk/internal/util/Preconditions") := by decide +kernel
set_option maxRecDepth 100000 in
theorem eL_3 : lw_tbl[302]? = some (.laysStatic "java/lang/String" "COMPACT_STRINGS" "Z") := by decide +kernel
set_option maxRecDepth 100000 in
theorem eZ_3 : lw_tbl[100]? = some (.initialized "java/lang/String") := by decide +kernel
set_option maxRecDepth 100000 in
theorem eL_4 : lw_tbl[826]? = some (.laysStatic "java/lang/Integer" "DigitTens" "[B") := by decide +kernel
set_option maxRecDepth 100000 in
theorem eZ_4 : lw_tbl[113]? = some (.initialized "java/lang/Integer") := by decide +kernel
set_option maxRecDepth 100000 in
theorem eL_5 : lw_tbl[824]? = some (.laysStatic "java/lang/Integer" "DigitOnes" "[B") := by decide +kernel
set_option maxRecDepth 100000 in
theorem eZ_5 : lw_tbl[113]? = some (.initialized "java/lang/Integer") := by decide +kernel
set_option maxRecDepth 100000 in
theorem eO_ : lw_tbl[235]? = some (.arrayOver (.object RX5)) := by decide +kernel
set_option maxRecDepth 100000 in
theorem eA_0 : lw_tbl[151]? = some (.arrayClass .int) := by decide +kernel
set_option maxRecDepth 100000 in
theorem eA_1 : lw_tbl[2113]? = some (.arrayClass .long) := by decide +kernel
set_option maxRecDepth 100000 in
theorem eA_2 : lw_tbl[2114]? = some (.arrayClass .double) := by decide +kernel
set_option maxRecDepth 100000 in
theorem eA_3 : lw_tbl[324]? = some (.arrayClass .byte) := by decide +kernel
def eN : List Nat := [125, 229, 248, 139, 133, 278, 1607, 293]
set_option maxRecDepth 100000 in
theorem eN_ : ∀ k : Nat, k < 8 → lw_tbl[eN.getD k 0]? = wCl[k]?.map (fun q => Cond.instantiable q.1 q.2.2) := by decide +kernel
set_option maxRecDepth 100000 in
theorem eS_0 : lw_tbl[739]? = some (.selects RJ4 yJ5_isLatin1_aae02 yJ5_isLatin1_aae02) := by decide +kernel
set_option maxRecDepth 100000 in
theorem eP_0 : lw_tbl[706]? = some (.privateMethod yJ5_ensureCapacityInternal_d00df) := by decide +kernel
set_option maxRecDepth 100000 in
theorem eP_1 : lw_tbl[710]? = some (.privateMethod yJ5_newCapacity_0f7a4) := by decide +kernel
end W99i
