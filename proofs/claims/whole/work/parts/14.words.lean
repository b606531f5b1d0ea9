/-! the words of the tables, by their places -/
section WWD
set_option maxRecDepth 100000 in
theorem in_RX8 : Cond.initialized RX8 ∈ wG := wG_in (i := 91) (by decide +kernel) rfl
set_option maxRecDepth 100000 in
theorem in_RX0 : Cond.initialized RX0 ∈ wG := wG_in (i := 95) (by decide +kernel) rfl
set_option maxRecDepth 100000 in
theorem in_RX1 : Cond.initialized RX1 ∈ wG := wG_in (i := 96) (by decide +kernel) rfl
set_option maxRecDepth 100000 in
theorem in_RX2 : Cond.initialized RX2 ∈ wG := wG_in (i := 93) (by decide +kernel) rfl
set_option maxRecDepth 100000 in
theorem in_RX3 : Cond.initialized RX3 ∈ wG := wG_in (i := 103) (by decide +kernel) rfl
set_option maxRecDepth 100000 in
theorem in_RX4 : Cond.initialized RX4 ∈ wG := wG_in (i := 114) (by decide +kernel) rfl
set_option maxRecDepth 100000 in
theorem in_RX5 : Cond.initialized RX5 ∈ wG := wG_in (i := 92) (by decide +kernel) rfl
set_option maxRecDepth 100000 in
theorem in_RX6 : Cond.initialized RX6 ∈ wG := wG_in (i := 97) (by decide +kernel) rfl
set_option maxRecDepth 100000 in
theorem in_RX7 : Cond.initialized RX7 ∈ wG := wG_in (i := 109) (by decide +kernel) rfl
set_option maxRecDepth 100000 in
theorem in_RX9 : Cond.initialized RX9 ∈ wG := wG_in (i := 102) (by decide +kernel) rfl
set_option maxRecDepth 100000 in
theorem in_RJ5 : Cond.initialized RJ5 ∈ wG := wG_in (i := 98) (by decide +kernel) rfl
set_option maxRecDepth 100000 in
theorem in_RJx00060 : Cond.initialized RJx00060 ∈ wG := wG_in (i := 108) (by decide +kernel) rfl
set_option maxRecDepth 100000 in
theorem in_RJ6 : Cond.initialized RJ6 ∈ wG := wG_in (i := 113) (by decide +kernel) rfl
set_option maxRecDepth 100000 in
theorem in_RJ9 : Cond.initialized RJ9 ∈ wG := wG_in (i := 94) (by decide +kernel) rfl
set_option maxRecDepth 100000 in
theorem in_RJ0 : Cond.initialized RJ0 ∈ wG := wG_in (i := 100) (by decide +kernel) rfl
set_option maxRecDepth 100000 in
theorem in_RJ4 : Cond.initialized RJ4 ∈ wG := wG_in (i := 99) (by decide +kernel) rfl
set_option maxRecDepth 100000 in
theorem in_RJx7c733 : Cond.initialized RJx7c733 ∈ wG := wG_in (i := 116) (by decide +kernel) rfl
set_option maxRecDepth 100000 in
theorem in_RJ1 : Cond.initialized RJ1 ∈ wG := wG_in (i := 121) (by decide +kernel) rfl
set_option maxRecDepth 100000 in
theorem in_RJ2 : Cond.initialized RJ2 ∈ wG := wG_in (i := 101) (by decide +kernel) rfl
set_option maxRecDepth 100000 in
theorem in_RJ7 : Cond.initialized RJ7 ∈ wG := wG_in (i := 118) (by decide +kernel) rfl
set_option maxRecDepth 100000 in
theorem in_RJ8 : Cond.initialized RJ8 ∈ wG := wG_in (i := 117) (by decide +kernel) rfl
set_option maxRecDepth 100000 in
theorem in_RJ3 : Cond.initialized RJ3 ∈ wG := wG_in (i := 120) (by decide +kernel) rfl
set_option maxRecDepth 100000 in
theorem cd_X8_init : Cond.code yX8_init cX8_init 1 none ∈ wG := wG_in (i := 128) (by decide +kernel) rfl
set_option maxRecDepth 100000 in
theorem im_X8_init : lw_tbl[127]? = some (.instanceMethod yX8_init) := by decide +kernel
set_option maxRecDepth 100000 in
theorem cd_X8_account : Cond.code yX8_account cX8_account 2 (some .int) ∈ wG := wG_in (i := 1389) (by decide +kernel) rfl
set_option maxRecDepth 100000 in
theorem im_X8_account : lw_tbl[1387]? = some (.instanceMethod yX8_account) := by decide +kernel
set_option maxRecDepth 100000 in
theorem se_X8_account : lw_tbl[1388]? = some (.selects RX8 yX8_account yX8_account) := by decide +kernel
set_option maxRecDepth 100000 in
theorem cd_X8_append : Cond.code yX8_append cX8_append 5 (some .int) ∈ wG := wG_in (i := 1456) (by decide +kernel) rfl
set_option maxRecDepth 100000 in
theorem im_X8_append : lw_tbl[1454]? = some (.instanceMethod yX8_append) := by decide +kernel
set_option maxRecDepth 100000 in
theorem se_X8_append : lw_tbl[1455]? = some (.selects RX8 yX8_append yX8_append) := by decide +kernel
set_option maxRecDepth 100000 in
theorem cd_X8_areFreeWordsRight : Cond.code yX8_areFreeWordsRight cX8_areFreeWordsRight 2 (some .boolean) ∈ wG := wG_in (i := 654) (by decide +kernel) rfl
set_option maxRecDepth 100000 in
theorem im_X8_areFreeWordsRight : lw_tbl[653]? = some (.instanceMethod yX8_areFreeWordsRight) := by decide +kernel
set_option maxRecDepth 100000 in
theorem se_X8_areFreeWordsRight : lw_tbl[8]? = some (.selects RX8 yX8_areFreeWordsRight yX8_areFreeWordsRight) := by decide +kernel
set_option maxRecDepth 100000 in
theorem cd_X8_carryOut : Cond.code yX8_carryOut cX8_carryOut 4 none ∈ wG := wG_in (i := 1569) (by decide +kernel) rfl
set_option maxRecDepth 100000 in
theorem im_X8_carryOut : lw_tbl[1568]? = some (.instanceMethod yX8_carryOut) := by decide +kernel
set_option maxRecDepth 100000 in
theorem se_X8_carryOut : lw_tbl[34]? = some (.selects RX8 yX8_carryOut yX8_carryOut) := by decide +kernel
set_option maxRecDepth 100000 in
theorem cd_X8_character : Cond.code yX8_character cX8_character 2 (some .char) ∈ wG := wG_in (i := 1347) (by decide +kernel) rfl
set_option maxRecDepth 100000 in
theorem im_X8_character : lw_tbl[1345]? = some (.instanceMethod yX8_character) := by decide +kernel
set_option maxRecDepth 100000 in
theorem se_X8_character : lw_tbl[1346]? = some (.selects RX8 yX8_character yX8_character) := by decide +kernel
set_option maxRecDepth 100000 in
theorem cd_X8_clash : Cond.code yX8_clash cX8_clash 3 (some .int) ∈ wG := wG_in (i := 1129) (by decide +kernel) rfl
set_option maxRecDepth 100000 in
theorem im_X8_clash : lw_tbl[1127]? = some (.instanceMethod yX8_clash) := by decide +kernel
set_option maxRecDepth 100000 in
theorem se_X8_clash : lw_tbl[1128]? = some (.selects RX8 yX8_clash yX8_clash) := by decide +kernel
set_option maxRecDepth 100000 in
theorem cd_X8_clear : Cond.code yX8_clear cX8_clear 2 (some .int) ∈ wG := wG_in (i := 365) (by decide +kernel) rfl
set_option maxRecDepth 100000 in
theorem im_X8_clear : lw_tbl[363]? = some (.instanceMethod yX8_clear) := by decide +kernel
set_option maxRecDepth 100000 in
theorem se_X8_clear : lw_tbl[364]? = some (.selects RX8 yX8_clear yX8_clear) := by decide +kernel
set_option maxRecDepth 100000 in
theorem cd_X8_errorPosition : Cond.code yX8_errorPosition cX8_errorPosition 1 (some .int) ∈ wG := wG_in (i := 1576) (by decide +kernel) rfl
set_option maxRecDepth 100000 in
theorem im_X8_errorPosition : lw_tbl[1574]? = some (.instanceMethod yX8_errorPosition) := by decide +kernel
set_option maxRecDepth 100000 in
theorem se_X8_errorPosition : lw_tbl[1575]? = some (.selects RX8 yX8_errorPosition yX8_errorPosition) := by decide +kernel
set_option maxRecDepth 100000 in
theorem cd_X8_expose : Cond.code yX8_expose cX8_expose 2 (some .int) ∈ wG := wG_in (i := 1191) (by decide +kernel) rfl
set_option maxRecDepth 100000 in
theorem im_X8_expose : lw_tbl[1189]? = some (.instanceMethod yX8_expose) := by decide +kernel
set_option maxRecDepth 100000 in
theorem se_X8_expose : lw_tbl[1190]? = some (.selects RX8 yX8_expose yX8_expose) := by decide +kernel
set_option maxRecDepth 100000 in
theorem cd_X8_faultOfBlow : Cond.code yX8_faultOfBlow cX8_faultOfBlow 5 (some .int) ∈ wG := wG_in (i := 1153) (by decide +kernel) rfl
set_option maxRecDepth 100000 in
theorem im_X8_faultOfBlow : lw_tbl[1152]? = some (.instanceMethod yX8_faultOfBlow) := by decide +kernel
set_option maxRecDepth 100000 in
theorem se_X8_faultOfBlow : lw_tbl[19]? = some (.selects RX8 yX8_faultOfBlow yX8_faultOfBlow) := by decide +kernel
set_option maxRecDepth 100000 in
theorem cd_X8_faultOfExpose : Cond.code yX8_faultOfExpose cX8_faultOfExpose 2 (some .int) ∈ wG := wG_in (i := 1195) (by decide +kernel) rfl
set_option maxRecDepth 100000 in
theorem im_X8_faultOfExpose : lw_tbl[1194]? = some (.instanceMethod yX8_faultOfExpose) := by decide +kernel
set_option maxRecDepth 100000 in
theorem se_X8_faultOfExpose : lw_tbl[22]? = some (.selects RX8 yX8_faultOfExpose yX8_faultOfExpose) := by decide +kernel
set_option maxRecDepth 100000 in
theorem cd_X8_faultOfFine : Cond.code yX8_faultOfFine cX8_faultOfFine 3 (some .int) ∈ wG := wG_in (i := 1237) (by decide +kernel) rfl
set_option maxRecDepth 100000 in
theorem im_X8_faultOfFine : lw_tbl[1236]? = some (.instanceMethod yX8_faultOfFine) := by decide +kernel
set_option maxRecDepth 100000 in
theorem se_X8_faultOfFine : lw_tbl[24]? = some (.selects RX8 yX8_faultOfFine yX8_faultOfFine) := by decide +kernel
set_option maxRecDepth 100000 in
theorem cd_X8_faultOfLie : Cond.code yX8_faultOfLie cX8_faultOfLie 3 (some .int) ∈ wG := wG_in (i := 1184) (by decide +kernel) rfl
set_option maxRecDepth 100000 in
theorem im_X8_faultOfLie : lw_tbl[1183]? = some (.instanceMethod yX8_faultOfLie) := by decide +kernel
set_option maxRecDepth 100000 in
theorem se_X8_faultOfLie : lw_tbl[21]? = some (.selects RX8 yX8_faultOfLie yX8_faultOfLie) := by decide +kernel
set_option maxRecDepth 100000 in
theorem cd_X8_faultOfMute : Cond.code yX8_faultOfMute cX8_faultOfMute 3 (some .int) ∈ wG := wG_in (i := 1222) (by decide +kernel) rfl
set_option maxRecDepth 100000 in
theorem im_X8_faultOfMute : lw_tbl[1221]? = some (.instanceMethod yX8_faultOfMute) := by decide +kernel
set_option maxRecDepth 100000 in
theorem se_X8_faultOfMute : lw_tbl[23]? = some (.selects RX8 yX8_faultOfMute yX8_faultOfMute) := by decide +kernel
set_option maxRecDepth 100000 in
theorem cd_X8_faultOfMuted : Cond.code yX8_faultOfMuted cX8_faultOfMuted 3 (some .int) ∈ wG := wG_in (i := 1157) (by decide +kernel) rfl
set_option maxRecDepth 100000 in
theorem im_X8_faultOfMuted : lw_tbl[1156]? = some (.instanceMethod yX8_faultOfMuted) := by decide +kernel
set_option maxRecDepth 100000 in
theorem se_X8_faultOfMuted : lw_tbl[20]? = some (.selects RX8 yX8_faultOfMuted yX8_faultOfMuted) := by decide +kernel
set_option maxRecDepth 100000 in
theorem cd_X8_faultOfNoSign : Cond.code yX8_faultOfNoSign cX8_faultOfNoSign 2 (some .int) ∈ wG := wG_in (i := 1043) (by decide +kernel) rfl
set_option maxRecDepth 100000 in
theorem im_X8_faultOfNoSign : lw_tbl[1042]? = some (.instanceMethod yX8_faultOfNoSign) := by decide +kernel
set_option maxRecDepth 100000 in
theorem se_X8_faultOfNoSign : lw_tbl[13]? = some (.selects RX8 yX8_faultOfNoSign yX8_faultOfNoSign) := by decide +kernel
set_option maxRecDepth 100000 in
theorem cd_X8_faultOfOrder : Cond.code yX8_faultOfOrder cX8_faultOfOrder 4 (some .int) ∈ wG := wG_in (i := 1551) (by decide +kernel) rfl
set_option maxRecDepth 100000 in
theorem im_X8_faultOfOrder : lw_tbl[1550]? = some (.instanceMethod yX8_faultOfOrder) := by decide +kernel
set_option maxRecDepth 100000 in
theorem se_X8_faultOfOrder : lw_tbl[33]? = some (.selects RX8 yX8_faultOfOrder yX8_faultOfOrder) := by decide +kernel
set_option maxRecDepth 100000 in
theorem cd_X8_faultOfPlatform : Cond.code yX8_faultOfPlatform cX8_faultOfPlatform 4 (some .int) ∈ wG := wG_in (i := 1074) (by decide +kernel) rfl
set_option maxRecDepth 100000 in
theorem im_X8_faultOfPlatform : lw_tbl[1073]? = some (.instanceMethod yX8_faultOfPlatform) := by decide +kernel
set_option maxRecDepth 100000 in
theorem se_X8_faultOfPlatform : lw_tbl[15]? = some (.selects RX8 yX8_faultOfPlatform yX8_faultOfPlatform) := by decide +kernel
set_option maxRecDepth 100000 in
theorem cd_X8_faultOfPriority : Cond.code yX8_faultOfPriority cX8_faultOfPriority 3 (some .int) ∈ wG := wG_in (i := 1059) (by decide +kernel) rfl
set_option maxRecDepth 100000 in
theorem im_X8_faultOfPriority : lw_tbl[1058]? = some (.instanceMethod yX8_faultOfPriority) := by decide +kernel
set_option maxRecDepth 100000 in
theorem se_X8_faultOfPriority : lw_tbl[14]? = some (.selects RX8 yX8_faultOfPriority yX8_faultOfPriority) := by decide +kernel
set_option maxRecDepth 100000 in
theorem cd_X8_faultOfSign : Cond.code yX8_faultOfSign cX8_faultOfSign 5 (some .int) ∈ wG := wG_in (i := 1002) (by decide +kernel) rfl
set_option maxRecDepth 100000 in
theorem im_X8_faultOfSign : lw_tbl[1001]? = some (.instanceMethod yX8_faultOfSign) := by decide +kernel
set_option maxRecDepth 100000 in
theorem se_X8_faultOfSign : lw_tbl[10]? = some (.selects RX8 yX8_faultOfSign yX8_faultOfSign) := by decide +kernel
set_option maxRecDepth 100000 in
theorem cd_X8_faultOfUnsign : Cond.code yX8_faultOfUnsign cX8_faultOfUnsign 2 (some .int) ∈ wG := wG_in (i := 1039) (by decide +kernel) rfl
set_option maxRecDepth 100000 in
theorem im_X8_faultOfUnsign : lw_tbl[1038]? = some (.instanceMethod yX8_faultOfUnsign) := by decide +kernel
set_option maxRecDepth 100000 in
theorem se_X8_faultOfUnsign : lw_tbl[12]? = some (.selects RX8 yX8_faultOfUnsign yX8_faultOfUnsign) := by decide +kernel
set_option maxRecDepth 100000 in
theorem cd_X8_faultOfWhistle : Cond.code yX8_faultOfWhistle cX8_faultOfWhistle 2 (some .int) ∈ wG := wG_in (i := 1149) (by decide +kernel) rfl
set_option maxRecDepth 100000 in
theorem im_X8_faultOfWhistle : lw_tbl[1148]? = some (.instanceMethod yX8_faultOfWhistle) := by decide +kernel
set_option maxRecDepth 100000 in
theorem se_X8_faultOfWhistle : lw_tbl[18]? = some (.selects RX8 yX8_faultOfWhistle yX8_faultOfWhistle) := by decide +kernel
set_option maxRecDepth 100000 in
theorem cd_X8_fine : Cond.code yX8_fine cX8_fine 2 (some .int) ∈ wG := wG_in (i := 1233) (by decide +kernel) rfl
set_option maxRecDepth 100000 in
theorem im_X8_fine : lw_tbl[1231]? = some (.instanceMethod yX8_fine) := by decide +kernel
set_option maxRecDepth 100000 in
theorem se_X8_fine : lw_tbl[1232]? = some (.selects RX8 yX8_fine yX8_fine) := by decide +kernel
set_option maxRecDepth 100000 in
theorem cd_X8_free : Cond.code yX8_free cX8_free 3 (some .int) ∈ wG := wG_in (i := 1137) (by decide +kernel) rfl
set_option maxRecDepth 100000 in
theorem im_X8_free : lw_tbl[1135]? = some (.instanceMethod yX8_free) := by decide +kernel
set_option maxRecDepth 100000 in
theorem se_X8_free : lw_tbl[1136]? = some (.selects RX8 yX8_free yX8_free) := by decide +kernel
set_option maxRecDepth 100000 in
theorem cd_X8_heard : Cond.code yX8_heard cX8_heard 4 (some .int) ∈ wG := wG_in (i := 1254) (by decide +kernel) rfl
set_option maxRecDepth 100000 in
theorem im_X8_heard : lw_tbl[1252]? = some (.instanceMethod yX8_heard) := by decide +kernel
set_option maxRecDepth 100000 in
theorem se_X8_heard : lw_tbl[1253]? = some (.selects RX8 yX8_heard yX8_heard) := by decide +kernel
set_option maxRecDepth 100000 in
theorem cd_X8_hour : Cond.code yX8_hour cX8_hour 1 (some .int) ∈ wG := wG_in (i := 407) (by decide +kernel) rfl
set_option maxRecDepth 100000 in
theorem im_X8_hour : lw_tbl[405]? = some (.instanceMethod yX8_hour) := by decide +kernel
set_option maxRecDepth 100000 in
theorem se_X8_hour : lw_tbl[406]? = some (.selects RX8 yX8_hour yX8_hour) := by decide +kernel
set_option maxRecDepth 100000 in
theorem cd_X8_isClear : Cond.code yX8_isClear cX8_isClear 1 (some .boolean) ∈ wG := wG_in (i := 381) (by decide +kernel) rfl
set_option maxRecDepth 100000 in
theorem im_X8_isClear : lw_tbl[379]? = some (.instanceMethod yX8_isClear) := by decide +kernel
set_option maxRecDepth 100000 in
theorem se_X8_isClear : lw_tbl[380]? = some (.selects RX8 yX8_isClear yX8_isClear) := by decide +kernel
set_option maxRecDepth 100000 in
theorem cd_X8_isLength : Cond.code yX8_isLength cX8_isLength 1 (some .boolean) ∈ wG := wG_in (i := 1008) (by decide +kernel) rfl
set_option maxRecDepth 100000 in
theorem st_X8_isLength : lw_tbl[1007]? = some (.static yX8_isLength) := by decide +kernel
set_option maxRecDepth 100000 in
theorem cd_X8_isLine : Cond.code yX8_isLine cX8_isLine 1 (some .boolean) ∈ wG := wG_in (i := 1005) (by decide +kernel) rfl
set_option maxRecDepth 100000 in
theorem st_X8_isLine : lw_tbl[1004]? = some (.static yX8_isLine) := by decide +kernel
set_option maxRecDepth 100000 in
theorem cd_X8_isPlatform : Cond.code yX8_isPlatform cX8_isPlatform 1 (some .boolean) ∈ wG := wG_in (i := 1077) (by decide +kernel) rfl
set_option maxRecDepth 100000 in
theorem st_X8_isPlatform : lw_tbl[1076]? = some (.static yX8_isPlatform) := by decide +kernel
set_option maxRecDepth 100000 in
theorem cd_X8_isRight : Cond.code yX8_isRight cX8_isRight 2 (some .boolean) ∈ wG := wG_in (i := 644) (by decide +kernel) rfl
set_option maxRecDepth 100000 in
theorem im_X8_isRight : lw_tbl[642]? = some (.instanceMethod yX8_isRight) := by decide +kernel
set_option maxRecDepth 100000 in
theorem se_X8_isRight : lw_tbl[643]? = some (.selects RX8 yX8_isRight yX8_isRight) := by decide +kernel
set_option maxRecDepth 100000 in
theorem cd_X8_lie : Cond.code yX8_lie cX8_lie 3 (some .int) ∈ wG := wG_in (i := 1180) (by decide +kernel) rfl
set_option maxRecDepth 100000 in
theorem im_X8_lie : lw_tbl[1178]? = some (.instanceMethod yX8_lie) := by decide +kernel
set_option maxRecDepth 100000 in
theorem se_X8_lie : lw_tbl[1179]? = some (.selects RX8 yX8_lie yX8_lie) := by decide +kernel
set_option maxRecDepth 100000 in
theorem cd_X8_lieShare : Cond.code yX8_lieShare cX8_lieShare 1 (some .float) ∈ wG := wG_in (i := 1447) (by decide +kernel) rfl
set_option maxRecDepth 100000 in
theorem im_X8_lieShare : lw_tbl[1445]? = some (.instanceMethod yX8_lieShare) := by decide +kernel
set_option maxRecDepth 100000 in
theorem se_X8_lieShare : lw_tbl[1446]? = some (.selects RX8 yX8_lieShare yX8_lieShare) := by decide +kernel
set_option maxRecDepth 100000 in
theorem cd_X8_lineOf : Cond.code yX8_lineOf cX8_lineOf 3 (some .int) ∈ wG := wG_in (i := 1089) (by decide +kernel) rfl
set_option maxRecDepth 100000 in
theorem im_X8_lineOf : lw_tbl[1087]? = some (.instanceMethod yX8_lineOf) := by decide +kernel
set_option maxRecDepth 100000 in
theorem se_X8_lineOf : lw_tbl[1088]? = some (.selects RX8 yX8_lineOf yX8_lineOf) := by decide +kernel
set_option maxRecDepth 100000 in
theorem cd_X8_lineRanked : Cond.code yX8_lineRanked cX8_lineRanked 4 (some .int) ∈ wG := wG_in (i := 1325) (by decide +kernel) rfl
set_option maxRecDepth 100000 in
theorem st_X8_lineRanked : lw_tbl[1324]? = some (.static yX8_lineRanked) := by decide +kernel
set_option maxRecDepth 100000 in
theorem cd_X8_meanLength : Cond.code yX8_meanLength cX8_meanLength 2 (some .double) ∈ wG := wG_in (i := 1434) (by decide +kernel) rfl
set_option maxRecDepth 100000 in
theorem im_X8_meanLength : lw_tbl[1432]? = some (.instanceMethod yX8_meanLength) := by decide +kernel
set_option maxRecDepth 100000 in
theorem se_X8_meanLength : lw_tbl[1433]? = some (.selects RX8 yX8_meanLength yX8_meanLength) := by decide +kernel
set_option maxRecDepth 100000 in
theorem cd_X8_mute : Cond.code yX8_mute cX8_mute 3 (some .int) ∈ wG := wG_in (i := 1218) (by decide +kernel) rfl
set_option maxRecDepth 100000 in
theorem im_X8_mute : lw_tbl[1216]? = some (.instanceMethod yX8_mute) := by decide +kernel
set_option maxRecDepth 100000 in
theorem se_X8_mute : lw_tbl[1217]? = some (.selects RX8 yX8_mute yX8_mute) := by decide +kernel
set_option maxRecDepth 100000 in
theorem cd_X8_numberAhead : Cond.code yX8_numberAhead cX8_numberAhead 5 (some .int) ∈ wG := wG_in (i := 1328) (by decide +kernel) rfl
set_option maxRecDepth 100000 in
theorem st_X8_numberAhead : lw_tbl[1327]? = some (.static yX8_numberAhead) := by decide +kernel
set_option maxRecDepth 100000 in
theorem cd_X8_platform : Cond.code yX8_platform cX8_platform 4 (some .int) ∈ wG := wG_in (i := 1070) (by decide +kernel) rfl
set_option maxRecDepth 100000 in
theorem im_X8_platform : lw_tbl[1068]? = some (.instanceMethod yX8_platform) := by decide +kernel
set_option maxRecDepth 100000 in
theorem se_X8_platform : lw_tbl[1069]? = some (.selects RX8 yX8_platform yX8_platform) := by decide +kernel
set_option maxRecDepth 100000 in
theorem cd_X8_platformOf : Cond.code yX8_platformOf cX8_platformOf 3 (some .int) ∈ wG := wG_in (i := 1112) (by decide +kernel) rfl
set_option maxRecDepth 100000 in
theorem im_X8_platformOf : lw_tbl[1110]? = some (.instanceMethod yX8_platformOf) := by decide +kernel
set_option maxRecDepth 100000 in
theorem se_X8_platformOf : lw_tbl[1111]? = some (.selects RX8 yX8_platformOf yX8_platformOf) := by decide +kernel
set_option maxRecDepth 100000 in
theorem cd_X8_priority : Cond.code yX8_priority cX8_priority 3 (some .int) ∈ wG := wG_in (i := 1055) (by decide +kernel) rfl
set_option maxRecDepth 100000 in
theorem im_X8_priority : lw_tbl[1053]? = some (.instanceMethod yX8_priority) := by decide +kernel
set_option maxRecDepth 100000 in
theorem se_X8_priority : lw_tbl[1054]? = some (.selects RX8 yX8_priority yX8_priority) := by decide +kernel
set_option maxRecDepth 100000 in
theorem cd_X8_ranked : Cond.code yX8_ranked cX8_ranked 3 (some .int) ∈ wG := wG_in (i := 1320) (by decide +kernel) rfl
set_option maxRecDepth 100000 in
theorem im_X8_ranked : lw_tbl[1318]? = some (.instanceMethod yX8_ranked) := by decide +kernel
set_option maxRecDepth 100000 in
theorem se_X8_ranked : lw_tbl[1319]? = some (.selects RX8 yX8_ranked yX8_ranked) := by decide +kernel
set_option maxRecDepth 100000 in
theorem cd_X8_read : Cond.code yX8_read cX8_read 3 (some .int) ∈ wG := wG_in (i := 1470) (by decide +kernel) rfl
set_option maxRecDepth 100000 in
theorem im_X8_read : lw_tbl[1468]? = some (.instanceMethod yX8_read) := by decide +kernel
set_option maxRecDepth 100000 in
theorem se_X8_read : lw_tbl[1469]? = some (.selects RX8 yX8_read yX8_read) := by decide +kernel
set_option maxRecDepth 100000 in
theorem cd_X8_reading : Cond.code yX8_reading cX8_reading 3 (some .int) ∈ wG := wG_in (i := 1291) (by decide +kernel) rfl
set_option maxRecDepth 100000 in
theorem im_X8_reading : lw_tbl[1289]? = some (.instanceMethod yX8_reading) := by decide +kernel
set_option maxRecDepth 100000 in
theorem se_X8_reading : lw_tbl[1290]? = some (.selects RX8 yX8_reading yX8_reading) := by decide +kernel
set_option maxRecDepth 100000 in
theorem cd_X8_refusal : Cond.code yX8_refusal cX8_refusal 2 (some .int) ∈ wG := wG_in (i := 1366) (by decide +kernel) rfl
set_option maxRecDepth 100000 in
theorem im_X8_refusal : lw_tbl[1364]? = some (.instanceMethod yX8_refusal) := by decide +kernel
set_option maxRecDepth 100000 in
theorem se_X8_refusal : lw_tbl[1365]? = some (.selects RX8 yX8_refusal yX8_refusal) := by decide +kernel
set_option maxRecDepth 100000 in
theorem cd_X8_refuse : Cond.code yX8_refuse cX8_refuse 3 (some .int) ∈ wG := wG_in (i := 1015) (by decide +kernel) rfl
set_option maxRecDepth 100000 in
theorem im_X8_refuse : lw_tbl[1014]? = some (.instanceMethod yX8_refuse) := by decide +kernel
set_option maxRecDepth 100000 in
theorem se_X8_refuse : lw_tbl[11]? = some (.selects RX8 yX8_refuse yX8_refuse) := by decide +kernel
set_option maxRecDepth 100000 in
theorem cd_X8_refusedItem : Cond.code yX8_refusedItem cX8_refusedItem 1 (some .int) ∈ wG := wG_in (i := 1584) (by decide +kernel) rfl
set_option maxRecDepth 100000 in
theorem im_X8_refusedItem : lw_tbl[1582]? = some (.instanceMethod yX8_refusedItem) := by decide +kernel
set_option maxRecDepth 100000 in
theorem se_X8_refusedItem : lw_tbl[1583]? = some (.selects RX8 yX8_refusedItem yX8_refusedItem) := by decide +kernel
set_option maxRecDepth 100000 in
theorem cd_X8_restore : Cond.code yX8_restore cX8_restore 1 (some .int) ∈ wG := wG_in (i := 1604) (by decide +kernel) rfl
set_option maxRecDepth 100000 in
theorem im_X8_restore : lw_tbl[1602]? = some (.instanceMethod yX8_restore) := by decide +kernel
set_option maxRecDepth 100000 in
theorem se_X8_restore : lw_tbl[1603]? = some (.selects RX8 yX8_restore yX8_restore) := by decide +kernel
set_option maxRecDepth 100000 in
theorem cd_X8_sign : Cond.code yX8_sign cX8_sign 4 (some .int) ∈ wG := wG_in (i := 998) (by decide +kernel) rfl
set_option maxRecDepth 100000 in
theorem im_X8_sign : lw_tbl[996]? = some (.instanceMethod yX8_sign) := by decide +kernel
set_option maxRecDepth 100000 in
theorem se_X8_sign : lw_tbl[997]? = some (.selects RX8 yX8_sign yX8_sign) := by decide +kernel
set_option maxRecDepth 100000 in
theorem cd_X8_snapshot : Cond.code yX8_snapshot cX8_snapshot 1 (some .int) ∈ wG := wG_in (i := 985) (by decide +kernel) rfl
set_option maxRecDepth 100000 in
theorem im_X8_snapshot : lw_tbl[983]? = some (.instanceMethod yX8_snapshot) := by decide +kernel
set_option maxRecDepth 100000 in
theorem se_X8_snapshot : lw_tbl[984]? = some (.selects RX8 yX8_snapshot yX8_snapshot) := by decide +kernel
set_option maxRecDepth 100000 in
theorem cd_X8_soonest : Cond.code yX8_soonest cX8_soonest 2 (some .int) ∈ wG := wG_in (i := 1308) (by decide +kernel) rfl
set_option maxRecDepth 100000 in
theorem im_X8_soonest : lw_tbl[1306]? = some (.instanceMethod yX8_soonest) := by decide +kernel
set_option maxRecDepth 100000 in
theorem se_X8_soonest : lw_tbl[1307]? = some (.selects RX8 yX8_soonest yX8_soonest) := by decide +kernel
set_option maxRecDepth 100000 in
theorem cd_X8_startChange : Cond.code yX8_startChange cX8_startChange 2 none ∈ wG := wG_in (i := 411) (by decide +kernel) rfl
set_option maxRecDepth 100000 in
theorem im_X8_startChange : lw_tbl[410]? = some (.instanceMethod yX8_startChange) := by decide +kernel
set_option maxRecDepth 100000 in
theorem se_X8_startChange : lw_tbl[0]? = some (.selects RX8 yX8_startChange yX8_startChange) := by decide +kernel
set_option maxRecDepth 100000 in
theorem cd_X8_strip : Cond.code yX8_strip cX8_strip 2 (some .int) ∈ wG := wG_in (i := 678) (by decide +kernel) rfl
set_option maxRecDepth 100000 in
theorem im_X8_strip : lw_tbl[676]? = some (.instanceMethod yX8_strip) := by decide +kernel
set_option maxRecDepth 100000 in
theorem se_X8_strip : lw_tbl[677]? = some (.selects RX8 yX8_strip yX8_strip) := by decide +kernel
set_option maxRecDepth 100000 in
theorem cd_X8_text : Cond.code yX8_text cX8_text 2 (some .int) ∈ wG := wG_in (i := 1335) (by decide +kernel) rfl
set_option maxRecDepth 100000 in
theorem im_X8_text : lw_tbl[1333]? = some (.instanceMethod yX8_text) := by decide +kernel
set_option maxRecDepth 100000 in
theorem se_X8_text : lw_tbl[1334]? = some (.selects RX8 yX8_text yX8_text) := by decide +kernel
set_option maxRecDepth 100000 in
theorem cd_X8_undo : Cond.code yX8_undo cX8_undo 1 (some .int) ∈ wG := wG_in (i := 1592) (by decide +kernel) rfl
set_option maxRecDepth 100000 in
theorem im_X8_undo : lw_tbl[1590]? = some (.instanceMethod yX8_undo) := by decide +kernel
set_option maxRecDepth 100000 in
theorem se_X8_undo : lw_tbl[1591]? = some (.selects RX8 yX8_undo yX8_undo) := by decide +kernel
set_option maxRecDepth 100000 in
theorem cd_X8_unsign : Cond.code yX8_unsign cX8_unsign 2 (some .int) ∈ wG := wG_in (i := 1035) (by decide +kernel) rfl
set_option maxRecDepth 100000 in
theorem im_X8_unsign : lw_tbl[1033]? = some (.instanceMethod yX8_unsign) := by decide +kernel
set_option maxRecDepth 100000 in
theorem se_X8_unsign : lw_tbl[1034]? = some (.selects RX8 yX8_unsign yX8_unsign) := by decide +kernel
set_option maxRecDepth 100000 in
theorem cd_X8_way : Cond.code yX8_way cX8_way 1 (some .int) ∈ wG := wG_in (i := 596) (by decide +kernel) rfl
set_option maxRecDepth 100000 in
theorem im_X8_way : lw_tbl[594]? = some (.instanceMethod yX8_way) := by decide +kernel
set_option maxRecDepth 100000 in
theorem se_X8_way : lw_tbl[595]? = some (.selects RX8 yX8_way yX8_way) := by decide +kernel
set_option maxRecDepth 100000 in
theorem cd_X8_ways : Cond.code yX8_ways cX8_ways 2 (some .int) ∈ wG := wG_in (i := 601) (by decide +kernel) rfl
set_option maxRecDepth 100000 in
theorem im_X8_ways : lw_tbl[599]? = some (.instanceMethod yX8_ways) := by decide +kernel
set_option maxRecDepth 100000 in
theorem se_X8_ways : lw_tbl[600]? = some (.selects RX8 yX8_ways yX8_ways) := by decide +kernel
set_option maxRecDepth 100000 in
theorem cd_X8_whistle : Cond.code yX8_whistle cX8_whistle 2 (some .int) ∈ wG := wG_in (i := 1145) (by decide +kernel) rfl
set_option maxRecDepth 100000 in
theorem im_X8_whistle : lw_tbl[1143]? = some (.instanceMethod yX8_whistle) := by decide +kernel
set_option maxRecDepth 100000 in
theorem se_X8_whistle : lw_tbl[1144]? = some (.selects RX8 yX8_whistle yX8_whistle) := by decide +kernel
set_option maxRecDepth 100000 in
theorem cd_X8_writeLine : Cond.code yX8_writeLine cX8_writeLine 2 none ∈ wG := wG_in (i := 1339) (by decide +kernel) rfl
set_option maxRecDepth 100000 in
theorem im_X8_writeLine : lw_tbl[1338]? = some (.instanceMethod yX8_writeLine) := by decide +kernel
set_option maxRecDepth 100000 in
theorem se_X8_writeLine : lw_tbl[26]? = some (.selects RX8 yX8_writeLine yX8_writeLine) := by decide +kernel
set_option maxRecDepth 100000 in
theorem cd_X8_writeWord : Cond.code yX8_writeWord cX8_writeWord 3 none ∈ wG := wG_in (i := 956) (by decide +kernel) rfl
set_option maxRecDepth 100000 in
theorem im_X8_writeWord : lw_tbl[955]? = some (.instanceMethod yX8_writeWord) := by decide +kernel
set_option maxRecDepth 100000 in
theorem se_X8_writeWord : lw_tbl[9]? = some (.selects RX8 yX8_writeWord yX8_writeWord) := by decide +kernel
set_option maxRecDepth 100000 in
theorem cd_X0_init : Cond.code yX0_init cX0_init 2 none ∈ wG := wG_in (i := 232) (by decide +kernel) rfl
set_option maxRecDepth 100000 in
theorem im_X0_init : lw_tbl[231]? = some (.instanceMethod yX0_init) := by decide +kernel
set_option maxRecDepth 100000 in
theorem cd_X0_forget : Cond.code yX0_forget cX0_forget 1 none ∈ wG := wG_in (i := 377) (by decide +kernel) rfl
set_option maxRecDepth 100000 in
theorem im_X0_forget : lw_tbl[375]? = some (.instanceMethod yX0_forget) := by decide +kernel
set_option maxRecDepth 100000 in
theorem se_X0_forget : lw_tbl[376]? = some (.selects RX0 yX0_forget yX0_forget) := by decide +kernel
set_option maxRecDepth 100000 in
theorem cd_X0_pop : Cond.code yX0_pop cX0_pop 3 none ∈ wG := wG_in (i := 1597) (by decide +kernel) rfl
set_option maxRecDepth 100000 in
theorem im_X0_pop : lw_tbl[1595]? = some (.instanceMethod yX0_pop) := by decide +kernel
set_option maxRecDepth 100000 in
theorem se_X0_pop : lw_tbl[1596]? = some (.selects RX0 yX0_pop yX0_pop) := by decide +kernel
set_option maxRecDepth 100000 in
theorem cd_X0_push : Cond.code yX0_push cX0_push 3 none ∈ wG := wG_in (i := 519) (by decide +kernel) rfl
set_option maxRecDepth 100000 in
theorem im_X0_push : lw_tbl[517]? = some (.instanceMethod yX0_push) := by decide +kernel
set_option maxRecDepth 100000 in
theorem se_X0_push : lw_tbl[518]? = some (.selects RX0 yX0_push yX0_push) := by decide +kernel
set_option maxRecDepth 100000 in
theorem cd_X0_size : Cond.code yX0_size cX0_size 1 (some .int) ∈ wG := wG_in (i := 1399) (by decide +kernel) rfl
set_option maxRecDepth 100000 in
theorem im_X0_size : lw_tbl[1397]? = some (.instanceMethod yX0_size) := by decide +kernel
set_option maxRecDepth 100000 in
theorem se_X0_size : lw_tbl[1398]? = some (.selects RX0 yX0_size yX0_size) := by decide +kernel
set_option maxRecDepth 100000 in
theorem cd_X0_slotAt : Cond.code yX0_slotAt cX0_slotAt 3 (some (.object "WhistleJunction$State")) ∈ wG := wG_in (i := 523) (by decide +kernel) rfl
set_option maxRecDepth 100000 in
theorem im_X0_slotAt : lw_tbl[522]? = some (.instanceMethod yX0_slotAt) := by decide +kernel
set_option maxRecDepth 100000 in
theorem se_X0_slotAt : lw_tbl[2]? = some (.selects RX0 yX0_slotAt yX0_slotAt) := by decide +kernel
set_option maxRecDepth 100000 in
theorem cd_X1_init : Cond.code yX1_init cX1_init 1 none ∈ wG := wG_in (i := 251) (by decide +kernel) rfl
set_option maxRecDepth 100000 in
theorem im_X1_init : lw_tbl[250]? = some (.instanceMethod yX1_init) := by decide +kernel
set_option maxRecDepth 100000 in
theorem cd_X1_addAll : Cond.code yX1_addAll cX1_addAll 4 none ∈ wG := wG_in (i := 1462) (by decide +kernel) rfl
set_option maxRecDepth 100000 in
theorem im_X1_addAll : lw_tbl[1460]? = some (.instanceMethod yX1_addAll) := by decide +kernel
set_option maxRecDepth 100000 in
theorem se_X1_addAll : lw_tbl[1461]? = some (.selects RX1 yX1_addAll yX1_addAll) := by decide +kernel
set_option maxRecDepth 100000 in
theorem cd_X1_empty : Cond.code yX1_empty cX1_empty 1 none ∈ wG := wG_in (i := 1538) (by decide +kernel) rfl
set_option maxRecDepth 100000 in
theorem im_X1_empty : lw_tbl[1536]? = some (.instanceMethod yX1_empty) := by decide +kernel
set_option maxRecDepth 100000 in
theorem se_X1_empty : lw_tbl[1537]? = some (.selects RX1 yX1_empty yX1_empty) := by decide +kernel
set_option maxRecDepth 100000 in
theorem cd_X1_isLetter : Cond.code yX1_isLetter cX1_isLetter 1 (some .boolean) ∈ wG := wG_in (i := 1528) (by decide +kernel) rfl
set_option maxRecDepth 100000 in
theorem st_X1_isLetter : lw_tbl[1527]? = some (.static yX1_isLetter) := by decide +kernel
set_option maxRecDepth 100000 in
theorem cd_X1_kind : Cond.code yX1_kind cX1_kind 2 (some .int) ∈ wG := wG_in (i := 1563) (by decide +kernel) rfl
set_option maxRecDepth 100000 in
theorem im_X1_kind : lw_tbl[1561]? = some (.instanceMethod yX1_kind) := by decide +kernel
set_option maxRecDepth 100000 in
theorem se_X1_kind : lw_tbl[1562]? = some (.selects RX1 yX1_kind yX1_kind) := by decide +kernel
set_option maxRecDepth 100000 in
theorem cd_X1_line : Cond.code yX1_line cX1_line 2 (some .int) ∈ wG := wG_in (i := 1555) (by decide +kernel) rfl
set_option maxRecDepth 100000 in
theorem im_X1_line : lw_tbl[1553]? = some (.instanceMethod yX1_line) := by decide +kernel
set_option maxRecDepth 100000 in
theorem se_X1_line : lw_tbl[1554]? = some (.selects RX1 yX1_line yX1_line) := by decide +kernel
set_option maxRecDepth 100000 in
theorem cd_X1_orders : Cond.code yX1_orders cX1_orders 1 (some .int) ∈ wG := wG_in (i := 1547) (by decide +kernel) rfl
set_option maxRecDepth 100000 in
theorem im_X1_orders : lw_tbl[1545]? = some (.instanceMethod yX1_orders) := by decide +kernel
set_option maxRecDepth 100000 in
theorem se_X1_orders : lw_tbl[1546]? = some (.selects RX1 yX1_orders yX1_orders) := by decide +kernel
set_option maxRecDepth 100000 in
theorem cd_X1_parse : Cond.code yX1_parse cX1_parse 3 (some .boolean) ∈ wG := wG_in (i := 1474) (by decide +kernel) rfl
set_option maxRecDepth 100000 in
theorem im_X1_parse : lw_tbl[1472]? = some (.instanceMethod yX1_parse) := by decide +kernel
set_option maxRecDepth 100000 in
theorem se_X1_parse : lw_tbl[1473]? = some (.selects RX1 yX1_parse yX1_parse) := by decide +kernel
set_option maxRecDepth 100000 in
theorem cd_X1_parseDigit : Cond.code yX1_parseDigit cX1_parseDigit 1 (some .boolean) ∈ wG := wG_in (i := 1521) (by decide +kernel) rfl
set_option maxRecDepth 100000 in
theorem im_X1_parseDigit : lw_tbl[1520]? = some (.instanceMethod yX1_parseDigit) := by decide +kernel
set_option maxRecDepth 100000 in
theorem se_X1_parseDigit : lw_tbl[30]? = some (.selects RX1 yX1_parseDigit yX1_parseDigit) := by decide +kernel
set_option maxRecDepth 100000 in
theorem cd_X1_parseOrder : Cond.code yX1_parseOrder cX1_parseOrder 4 (some .boolean) ∈ wG := wG_in (i := 1479) (by decide +kernel) rfl
set_option maxRecDepth 100000 in
theorem im_X1_parseOrder : lw_tbl[1478]? = some (.instanceMethod yX1_parseOrder) := by decide +kernel
set_option maxRecDepth 100000 in
theorem se_X1_parseOrder : lw_tbl[28]? = some (.selects RX1 yX1_parseOrder yX1_parseOrder) := by decide +kernel
set_option maxRecDepth 100000 in
theorem cd_X1_parsePart : Cond.code yX1_parsePart cX1_parsePart 2 (some .boolean) ∈ wG := wG_in (i := 1517) (by decide +kernel) rfl
set_option maxRecDepth 100000 in
theorem im_X1_parsePart : lw_tbl[1516]? = some (.instanceMethod yX1_parsePart) := by decide +kernel
set_option maxRecDepth 100000 in
theorem se_X1_parsePart : lw_tbl[29]? = some (.selects RX1 yX1_parsePart yX1_parsePart) := by decide +kernel
set_option maxRecDepth 100000 in
theorem cd_X1_parseSign : Cond.code yX1_parseSign cX1_parseSign 2 (some .boolean) ∈ wG := wG_in (i := 1533) (by decide +kernel) rfl
set_option maxRecDepth 100000 in
theorem im_X1_parseSign : lw_tbl[1532]? = some (.instanceMethod yX1_parseSign) := by decide +kernel
set_option maxRecDepth 100000 in
theorem se_X1_parseSign : lw_tbl[32]? = some (.selects RX1 yX1_parseSign yX1_parseSign) := by decide +kernel
set_option maxRecDepth 100000 in
theorem cd_X1_parseWord : Cond.code yX1_parseWord cX1_parseWord 3 (some .boolean) ∈ wG := wG_in (i := 1525) (by decide +kernel) rfl
set_option maxRecDepth 100000 in
theorem im_X1_parseWord : lw_tbl[1524]? = some (.instanceMethod yX1_parseWord) := by decide +kernel
set_option maxRecDepth 100000 in
theorem se_X1_parseWord : lw_tbl[31]? = some (.selects RX1 yX1_parseWord yX1_parseWord) := by decide +kernel
set_option maxRecDepth 100000 in
theorem cd_X1_position : Cond.code yX1_position cX1_position 1 (some .int) ∈ wG := wG_in (i := 1542) (by decide +kernel) rfl
set_option maxRecDepth 100000 in
theorem im_X1_position : lw_tbl[1540]? = some (.instanceMethod yX1_position) := by decide +kernel
set_option maxRecDepth 100000 in
theorem se_X1_position : lw_tbl[1541]? = some (.selects RX1 yX1_position yX1_position) := by decide +kernel
set_option maxRecDepth 100000 in
theorem cd_X1_second : Cond.code yX1_second cX1_second 2 (some .int) ∈ wG := wG_in (i := 1559) (by decide +kernel) rfl
set_option maxRecDepth 100000 in
theorem im_X1_second : lw_tbl[1557]? = some (.instanceMethod yX1_second) := by decide +kernel
set_option maxRecDepth 100000 in
theorem se_X1_second : lw_tbl[1558]? = some (.selects RX1 yX1_second yX1_second) := by decide +kernel
set_option maxRecDepth 100000 in
theorem cd_X1_shapeOf : Cond.code yX1_shapeOf cX1_shapeOf 1 (some (.object "java/lang/String")) ∈ wG := wG_in (i := 1483) (by decide +kernel) rfl
set_option maxRecDepth 100000 in
theorem st_X1_shapeOf : lw_tbl[1482]? = some (.static yX1_shapeOf) := by decide +kernel
set_option maxRecDepth 100000 in
theorem cd_X1_size : Cond.code yX1_size cX1_size 1 (some .int) ∈ wG := wG_in (i := 1394) (by decide +kernel) rfl
set_option maxRecDepth 100000 in
theorem im_X1_size : lw_tbl[1392]? = some (.instanceMethod yX1_size) := by decide +kernel
set_option maxRecDepth 100000 in
theorem se_X1_size : lw_tbl[1393]? = some (.selects RX1 yX1_size yX1_size) := by decide +kernel
set_option maxRecDepth 100000 in
theorem cd_X2_init : Cond.code yX2_init cX2_init 2 none ∈ wG := wG_in (i := 142) (by decide +kernel) rfl
set_option maxRecDepth 100000 in
theorem im_X2_init : lw_tbl[141]? = some (.instanceMethod yX2_init) := by decide +kernel
set_option maxRecDepth 100000 in
theorem cd_X2_add : Cond.code yX2_add cX2_add 2 none ∈ wG := wG_in (i := 588) (by decide +kernel) rfl
set_option maxRecDepth 100000 in
theorem im_X2_add : lw_tbl[586]? = some (.instanceMethod yX2_add) := by decide +kernel
set_option maxRecDepth 100000 in
theorem se_X2_add : lw_tbl[587]? = some (.selects RX2 yX2_add yX2_add) := by decide +kernel
set_option maxRecDepth 100000 in
theorem cd_X2_at : Cond.code yX2_at cX2_at 2 (some .int) ∈ wG := wG_in (i := 391) (by decide +kernel) rfl
set_option maxRecDepth 100000 in
theorem im_X2_at : lw_tbl[389]? = some (.instanceMethod yX2_at) := by decide +kernel
set_option maxRecDepth 100000 in
theorem se_X2_at : lw_tbl[390]? = some (.selects RX2 yX2_at yX2_at) := by decide +kernel
set_option maxRecDepth 100000 in
theorem cd_X2_copyFrom : Cond.code yX2_copyFrom cX2_copyFrom 3 none ∈ wG := wG_in (i := 531) (by decide +kernel) rfl
set_option maxRecDepth 100000 in
theorem im_X2_copyFrom : lw_tbl[529]? = some (.instanceMethod yX2_copyFrom) := by decide +kernel
set_option maxRecDepth 100000 in
theorem se_X2_copyFrom : lw_tbl[530]? = some (.selects RX2 yX2_copyFrom yX2_copyFrom) := by decide +kernel
set_option maxRecDepth 100000 in
theorem cd_X2_fill : Cond.code yX2_fill cX2_fill 4 none ∈ wG := wG_in (i := 159) (by decide +kernel) rfl
set_option maxRecDepth 100000 in
theorem im_X2_fill : lw_tbl[157]? = some (.instanceMethod yX2_fill) := by decide +kernel
set_option maxRecDepth 100000 in
theorem se_X2_fill : lw_tbl[158]? = some (.selects RX2 yX2_fill yX2_fill) := by decide +kernel
set_option maxRecDepth 100000 in
theorem cd_X2_numberAboveZero : Cond.code yX2_numberAboveZero cX2_numberAboveZero 3 (some .int) ∈ wG := wG_in (i := 372) (by decide +kernel) rfl
set_option maxRecDepth 100000 in
theorem im_X2_numberAboveZero : lw_tbl[370]? = some (.instanceMethod yX2_numberAboveZero) := by decide +kernel
set_option maxRecDepth 100000 in
theorem se_X2_numberAboveZero : lw_tbl[371]? = some (.selects RX2 yX2_numberAboveZero yX2_numberAboveZero) := by decide +kernel
set_option maxRecDepth 100000 in
theorem cd_X2_put : Cond.code yX2_put cX2_put 3 none ∈ wG := wG_in (i := 567) (by decide +kernel) rfl
set_option maxRecDepth 100000 in
theorem im_X2_put : lw_tbl[565]? = some (.instanceMethod yX2_put) := by decide +kernel
set_option maxRecDepth 100000 in
theorem se_X2_put : lw_tbl[566]? = some (.selects RX2 yX2_put yX2_put) := by decide +kernel
set_option maxRecDepth 100000 in
theorem cd_X2_raise : Cond.code yX2_raise cX2_raise 3 none ∈ wG := wG_in (i := 563) (by decide +kernel) rfl
set_option maxRecDepth 100000 in
theorem im_X2_raise : lw_tbl[561]? = some (.instanceMethod yX2_raise) := by decide +kernel
set_option maxRecDepth 100000 in
theorem se_X2_raise : lw_tbl[562]? = some (.selects RX2 yX2_raise yX2_raise) := by decide +kernel
set_option maxRecDepth 100000 in
theorem cd_X2_shorten : Cond.code yX2_shorten cX2_shorten 2 none ∈ wG := wG_in (i := 592) (by decide +kernel) rfl
set_option maxRecDepth 100000 in
theorem im_X2_shorten : lw_tbl[590]? = some (.instanceMethod yX2_shorten) := by decide +kernel
set_option maxRecDepth 100000 in
theorem se_X2_shorten : lw_tbl[591]? = some (.selects RX2 yX2_shorten yX2_shorten) := by decide +kernel
set_option maxRecDepth 100000 in
theorem cd_X2_size : Cond.code yX2_size cX2_size 1 (some .int) ∈ wG := wG_in (i := 535) (by decide +kernel) rfl
set_option maxRecDepth 100000 in
theorem im_X2_size : lw_tbl[533]? = some (.instanceMethod yX2_size) := by decide +kernel
set_option maxRecDepth 100000 in
theorem se_X2_size : lw_tbl[534]? = some (.selects RX2 yX2_size yX2_size) := by decide +kernel
set_option maxRecDepth 100000 in
theorem cd_X2_total : Cond.code yX2_total cX2_total 3 (some .int) ∈ wG := wG_in (i := 1413) (by decide +kernel) rfl
set_option maxRecDepth 100000 in
theorem im_X2_total : lw_tbl[1411]? = some (.instanceMethod yX2_total) := by decide +kernel
set_option maxRecDepth 100000 in
theorem se_X2_total : lw_tbl[1412]? = some (.selects RX2 yX2_total yX2_total) := by decide +kernel
set_option maxRecDepth 100000 in
theorem cd_X3_areClear : Cond.code yX3_areClear cX3_areClear 3 (some .boolean) ∈ wG := wG_in (i := 384) (by decide +kernel) rfl
set_option maxRecDepth 100000 in
theorem st_X3_areClear : lw_tbl[383]? = some (.static yX3_areClear) := by decide +kernel
set_option maxRecDepth 100000 in
theorem cd_X3_areDistinct : Cond.code yX3_areDistinct cX3_areDistinct 2 (some .boolean) ∈ wG := wG_in (i := 647) (by decide +kernel) rfl
set_option maxRecDepth 100000 in
theorem st_X3_areDistinct : lw_tbl[646]? = some (.static yX3_areDistinct) := by decide +kernel
set_option maxRecDepth 100000 in
theorem cd_X3_freeByBars : Cond.code yX3_freeByBars cX3_freeByBars 5 (some .int) ∈ wG := wG_in (i := 666) (by decide +kernel) rfl
set_option maxRecDepth 100000 in
theorem st_X3_freeByBars : lw_tbl[665]? = some (.static yX3_freeByBars) := by decide +kernel
set_option maxRecDepth 100000 in
theorem cd_X3_freeByWords : Cond.code yX3_freeByWords cX3_freeByWords 5 (some .int) ∈ wG := wG_in (i := 657) (by decide +kernel) rfl
set_option maxRecDepth 100000 in
theorem st_X3_freeByWords : lw_tbl[656]? = some (.static yX3_freeByWords) := by decide +kernel
set_option maxRecDepth 100000 in
theorem cd_X3_isBarredByAnother : Cond.code yX3_isBarredByAnother cX3_isBarredByAnother 7 (some .boolean) ∈ wG := wG_in (i := 673) (by decide +kernel) rfl
set_option maxRecDepth 100000 in
theorem st_X3_isBarredByAnother : lw_tbl[672]? = some (.static yX3_isBarredByAnother) := by decide +kernel
set_option maxRecDepth 100000 in
theorem cd_X3_isFree : Cond.code yX3_isFree cX3_isFree 4 (some .boolean) ∈ wG := wG_in (i := 663) (by decide +kernel) rfl
set_option maxRecDepth 100000 in
theorem st_X3_isFree : lw_tbl[662]? = some (.static yX3_isFree) := by decide +kernel
set_option maxRecDepth 100000 in
theorem cd_X3_number : Cond.code yX3_number cX3_number 1 (some .int) ∈ wG := wG_in (i := 368) (by decide +kernel) rfl
set_option maxRecDepth 100000 in
theorem st_X3_number : lw_tbl[367]? = some (.static yX3_number) := by decide +kernel
set_option maxRecDepth 100000 in
theorem cd_X3_owner : Cond.code yX3_owner cX3_owner 3 (some .int) ∈ wG := wG_in (i := 650) (by decide +kernel) rfl
set_option maxRecDepth 100000 in
theorem st_X3_owner : lw_tbl[649]? = some (.static yX3_owner) := by decide +kernel
set_option maxRecDepth 100000 in
theorem cd_X3_standing : Cond.code yX3_standing cX3_standing 5 (some .int) ∈ wG := wG_in (i := 387) (by decide +kernel) rfl
set_option maxRecDepth 100000 in
theorem st_X3_standing : lw_tbl[386]? = some (.static yX3_standing) := by decide +kernel
set_option maxRecDepth 100000 in
theorem cd_X3_sumOfLengths : Cond.code yX3_sumOfLengths cX3_sumOfLengths 3 (some .int) ∈ wG := wG_in (i := 1440) (by decide +kernel) rfl
set_option maxRecDepth 100000 in
theorem st_X3_sumOfLengths : lw_tbl[1439]? = some (.static yX3_sumOfLengths) := by decide +kernel
set_option maxRecDepth 100000 in
theorem cd_X4_anHourLater : Cond.code yX4_anHourLater cX4_anHourLater 1 (some .int) ∈ wG := wG_in (i := 580) (by decide +kernel) rfl
set_option maxRecDepth 100000 in
theorem st_X4_anHourLater : lw_tbl[579]? = some (.static yX4_anHourLater) := by decide +kernel
set_option maxRecDepth 100000 in
theorem cd_X4_asExposed : Cond.code yX4_asExposed cX4_asExposed 1 (some .int) ∈ wG := wG_in (i := 1211) (by decide +kernel) rfl
set_option maxRecDepth 100000 in
theorem st_X4_asExposed : lw_tbl[1210]? = some (.static yX4_asExposed) := by decide +kernel
set_option maxRecDepth 100000 in
theorem cd_X4_echo : Cond.code yX4_echo cX4_echo 3 (some .int) ∈ wG := wG_in (i := 1173) (by decide +kernel) rfl
set_option maxRecDepth 100000 in
theorem st_X4_echo : lw_tbl[1172]? = some (.static yX4_echo) := by decide +kernel
set_option maxRecDepth 100000 in
theorem cd_X4_echoer : Cond.code yX4_echoer cX4_echoer 1 (some .int) ∈ wG := wG_in (i := 556) (by decide +kernel) rfl
set_option maxRecDepth 100000 in
theorem st_X4_echoer : lw_tbl[555]? = some (.static yX4_echoer) := by decide +kernel
set_option maxRecDepth 100000 in
theorem cd_X4_hoursToCome : Cond.code yX4_hoursToCome cX4_hoursToCome 1 (some .int) ∈ wG := wG_in (i := 584) (by decide +kernel) rfl
set_option maxRecDepth 100000 in
theorem st_X4_hoursToCome : lw_tbl[583]? = some (.static yX4_hoursToCome) := by decide +kernel
set_option maxRecDepth 100000 in
theorem cd_X4_isExposed : Cond.code yX4_isExposed cX4_isExposed 1 (some .boolean) ∈ wG := wG_in (i := 552) (by decide +kernel) rfl
set_option maxRecDepth 100000 in
theorem st_X4_isExposed : lw_tbl[551]? = some (.static yX4_isExposed) := by decide +kernel
set_option maxRecDepth 100000 in
theorem cd_X4_number : Cond.code yX4_number cX4_number 2 (some .int) ∈ wG := wG_in (i := 1278) (by decide +kernel) rfl
set_option maxRecDepth 100000 in
theorem st_X4_number : lw_tbl[1277]? = some (.static yX4_number) := by decide +kernel
set_option maxRecDepth 100000 in
theorem cd_X4_of : Cond.code yX4_of cX4_of 3 (some .int) ∈ wG := wG_in (i := 1170) (by decide +kernel) rfl
set_option maxRecDepth 100000 in
theorem st_X4_of : lw_tbl[1169]? = some (.static yX4_of) := by decide +kernel
set_option maxRecDepth 100000 in
theorem cd_X4_told : Cond.code yX4_told cX4_told 1 (some .int) ∈ wG := wG_in (i := 549) (by decide +kernel) rfl
set_option maxRecDepth 100000 in
theorem st_X4_told : lw_tbl[548]? = some (.static yX4_told) := by decide +kernel
set_option maxRecDepth 100000 in
theorem cd_X4_whistler : Cond.code yX4_whistler cX4_whistler 1 (some .int) ∈ wG := wG_in (i := 559) (by decide +kernel) rfl
set_option maxRecDepth 100000 in
theorem st_X4_whistler : lw_tbl[558]? = some (.static yX4_whistler) := by decide +kernel
set_option maxRecDepth 100000 in
theorem cd_X4_word : Cond.code yX4_word cX4_word 1 (some .int) ∈ wG := wG_in (i := 611) (by decide +kernel) rfl
set_option maxRecDepth 100000 in
theorem st_X4_word : lw_tbl[610]? = some (.static yX4_word) := by decide +kernel
set_option maxRecDepth 100000 in
theorem cd_X5_init : Cond.code yX5_init cX5_init 1 none ∈ wG := wG_in (i := 136) (by decide +kernel) rfl
set_option maxRecDepth 100000 in
theorem im_X5_init : lw_tbl[135]? = some (.instanceMethod yX5_init) := by decide +kernel
set_option maxRecDepth 100000 in
theorem cd_X5_accountOf : Cond.code yX5_accountOf cX5_accountOf 2 (some .int) ∈ wG := wG_in (i := 1403) (by decide +kernel) rfl
set_option maxRecDepth 100000 in
theorem im_X5_accountOf : lw_tbl[1401]? = some (.instanceMethod yX5_accountOf) := by decide +kernel
set_option maxRecDepth 100000 in
theorem se_X5_accountOf : lw_tbl[1402]? = some (.selects RX5 yX5_accountOf yX5_accountOf) := by decide +kernel
set_option maxRecDepth 100000 in
theorem cd_X5_blow : Cond.code yX5_blow cX5_blow 5 (some .int) ∈ wG := wG_in (i := 1166) (by decide +kernel) rfl
set_option maxRecDepth 100000 in
theorem im_X5_blow : lw_tbl[1164]? = some (.instanceMethod yX5_blow) := by decide +kernel
set_option maxRecDepth 100000 in
theorem se_X5_blow : lw_tbl[1165]? = some (.selects RX5 yX5_blow yX5_blow) := by decide +kernel
set_option maxRecDepth 100000 in
theorem cd_X5_copyFrom : Cond.code yX5_copyFrom cX5_copyFrom 2 none ∈ wG := wG_in (i := 527) (by decide +kernel) rfl
set_option maxRecDepth 100000 in
theorem im_X5_copyFrom : lw_tbl[525]? = some (.instanceMethod yX5_copyFrom) := by decide +kernel
set_option maxRecDepth 100000 in
theorem se_X5_copyFrom : lw_tbl[526]? = some (.selects RX5 yX5_copyFrom yX5_copyFrom) := by decide +kernel
set_option maxRecDepth 100000 in
theorem cd_X5_echoesToCome : Cond.code yX5_echoesToCome cX5_echoesToCome 4 (some .int) ∈ wG := wG_in (i := 1122) (by decide +kernel) rfl
set_option maxRecDepth 100000 in
theorem im_X5_echoesToCome : lw_tbl[1121]? = some (.instanceMethod yX5_echoesToCome) := by decide +kernel
set_option maxRecDepth 100000 in
theorem se_X5_echoesToCome : lw_tbl[17]? = some (.selects RX5 yX5_echoesToCome yX5_echoesToCome) := by decide +kernel
set_option maxRecDepth 100000 in
theorem cd_X5_endHour : Cond.code yX5_endHour cX5_endHour 3 (some .int) ∈ wG := wG_in (i := 540) (by decide +kernel) rfl
set_option maxRecDepth 100000 in
theorem im_X5_endHour : lw_tbl[538]? = some (.instanceMethod yX5_endHour) := by decide +kernel
set_option maxRecDepth 100000 in
theorem se_X5_endHour : lw_tbl[539]? = some (.selects RX5 yX5_endHour yX5_endHour) := by decide +kernel
set_option maxRecDepth 100000 in
theorem cd_X5_exposeLiar : Cond.code yX5_exposeLiar cX5_exposeLiar 3 (some .int) ∈ wG := wG_in (i := 1207) (by decide +kernel) rfl
set_option maxRecDepth 100000 in
theorem im_X5_exposeLiar : lw_tbl[1205]? = some (.instanceMethod yX5_exposeLiar) := by decide +kernel
set_option maxRecDepth 100000 in
theorem se_X5_exposeLiar : lw_tbl[1206]? = some (.selects RX5 yX5_exposeLiar yX5_exposeLiar) := by decide +kernel
set_option maxRecDepth 100000 in
theorem cd_X5_fineOf : Cond.code yX5_fineOf cX5_fineOf 2 (some .int) ∈ wG := wG_in (i := 1241) (by decide +kernel) rfl
set_option maxRecDepth 100000 in
theorem im_X5_fineOf : lw_tbl[1239]? = some (.instanceMethod yX5_fineOf) := by decide +kernel
set_option maxRecDepth 100000 in
theorem se_X5_fineOf : lw_tbl[1240]? = some (.selects RX5 yX5_fineOf yX5_fineOf) := by decide +kernel
set_option maxRecDepth 100000 in
theorem cd_X5_givePriority : Cond.code yX5_givePriority cX5_givePriority 4 (some .int) ∈ wG := wG_in (i := 1063) (by decide +kernel) rfl
set_option maxRecDepth 100000 in
theorem im_X5_givePriority : lw_tbl[1061]? = some (.instanceMethod yX5_givePriority) := by decide +kernel
set_option maxRecDepth 100000 in
theorem se_X5_givePriority : lw_tbl[1062]? = some (.selects RX5 yX5_givePriority yX5_givePriority) := by decide +kernel
set_option maxRecDepth 100000 in
theorem cd_X5_giveSign : Cond.code yX5_giveSign cX5_giveSign 3 (some .int) ∈ wG := wG_in (i := 1019) (by decide +kernel) rfl
set_option maxRecDepth 100000 in
theorem im_X5_giveSign : lw_tbl[1017]? = some (.instanceMethod yX5_giveSign) := by decide +kernel
set_option maxRecDepth 100000 in
theorem se_X5_giveSign : lw_tbl[1018]? = some (.selects RX5 yX5_giveSign yX5_giveSign) := by decide +kernel
set_option maxRecDepth 100000 in
theorem cd_X5_hasWhistled : Cond.code yX5_hasWhistled cX5_hasWhistled 2 (some .boolean) ∈ wG := wG_in (i := 1101) (by decide +kernel) rfl
set_option maxRecDepth 100000 in
theorem im_X5_hasWhistled : lw_tbl[1099]? = some (.instanceMethod yX5_hasWhistled) := by decide +kernel
set_option maxRecDepth 100000 in
theorem se_X5_hasWhistled : lw_tbl[1100]? = some (.selects RX5 yX5_hasWhistled yX5_hasWhistled) := by decide +kernel
set_option maxRecDepth 100000 in
theorem cd_X5_hearEchoes : Cond.code yX5_hearEchoes cX5_hearEchoes 4 none ∈ wG := wG_in (i := 577) (by decide +kernel) rfl
set_option maxRecDepth 100000 in
theorem im_X5_hearEchoes : lw_tbl[576]? = some (.instanceMethod yX5_hearEchoes) := by decide +kernel
set_option maxRecDepth 100000 in
theorem se_X5_hearEchoes : lw_tbl[4]? = some (.selects RX5 yX5_hearEchoes yX5_hearEchoes) := by decide +kernel
set_option maxRecDepth 100000 in
theorem cd_X5_hoursToWait : Cond.code yX5_hoursToWait cX5_hoursToWait 7 (some .int) ∈ wG := wG_in (i := 1313) (by decide +kernel) rfl
set_option maxRecDepth 100000 in
theorem im_X5_hoursToWait : lw_tbl[1311]? = some (.instanceMethod yX5_hoursToWait) := by decide +kernel
set_option maxRecDepth 100000 in
theorem se_X5_hoursToWait : lw_tbl[1312]? = some (.selects RX5 yX5_hoursToWait yX5_hoursToWait) := by decide +kernel
set_option maxRecDepth 100000 in
theorem cd_X5_indexOfHeard : Cond.code yX5_indexOfHeard cX5_indexOfHeard 4 (some .int) ∈ wG := wG_in (i := 1258) (by decide +kernel) rfl
set_option maxRecDepth 100000 in
theorem im_X5_indexOfHeard : lw_tbl[1256]? = some (.instanceMethod yX5_indexOfHeard) := by decide +kernel
set_option maxRecDepth 100000 in
theorem se_X5_indexOfHeard : lw_tbl[1257]? = some (.selects RX5 yX5_indexOfHeard yX5_indexOfHeard) := by decide +kernel
set_option maxRecDepth 100000 in
theorem cd_X5_indexOfLie : Cond.code yX5_indexOfLie cX5_indexOfLie 4 (some .int) ∈ wG := wG_in (i := 1199) (by decide +kernel) rfl
set_option maxRecDepth 100000 in
theorem im_X5_indexOfLie : lw_tbl[1197]? = some (.instanceMethod yX5_indexOfLie) := by decide +kernel
set_option maxRecDepth 100000 in
theorem se_X5_indexOfLie : lw_tbl[1198]? = some (.selects RX5 yX5_indexOfLie yX5_indexOfLie) := by decide +kernel
set_option maxRecDepth 100000 in
theorem cd_X5_indexOfWhistle : Cond.code yX5_indexOfWhistle cX5_indexOfWhistle 3 (some .int) ∈ wG := wG_in (i := 1105) (by decide +kernel) rfl
set_option maxRecDepth 100000 in
theorem im_X5_indexOfWhistle : lw_tbl[1104]? = some (.instanceMethod yX5_indexOfWhistle) := by decide +kernel
set_option maxRecDepth 100000 in
theorem se_X5_indexOfWhistle : lw_tbl[16]? = some (.selects RX5 yX5_indexOfWhistle yX5_indexOfWhistle) := by decide +kernel
set_option maxRecDepth 100000 in
theorem cd_X5_lettersOnStrip : Cond.code yX5_lettersOnStrip cX5_lettersOnStrip 3 (some .int) ∈ wG := wG_in (i := 1408) (by decide +kernel) rfl
set_option maxRecDepth 100000 in
theorem im_X5_lettersOnStrip : lw_tbl[1407]? = some (.instanceMethod yX5_lettersOnStrip) := by decide +kernel
set_option maxRecDepth 100000 in
theorem se_X5_lettersOnStrip : lw_tbl[27]? = some (.selects RX5 yX5_lettersOnStrip yX5_lettersOnStrip) := by decide +kernel
set_option maxRecDepth 100000 in
theorem cd_X5_numberHeard : Cond.code yX5_numberHeard cX5_numberHeard 3 (some .int) ∈ wG := wG_in (i := 1203) (by decide +kernel) rfl
set_option maxRecDepth 100000 in
theorem im_X5_numberHeard : lw_tbl[1201]? = some (.instanceMethod yX5_numberHeard) := by decide +kernel
set_option maxRecDepth 100000 in
theorem se_X5_numberHeard : lw_tbl[1202]? = some (.selects RX5 yX5_numberHeard yX5_numberHeard) := by decide +kernel
set_option maxRecDepth 100000 in
theorem cd_X5_numberOfLine : Cond.code yX5_numberOfLine cX5_numberOfLine 3 (some .int) ∈ wG := wG_in (i := 1095) (by decide +kernel) rfl
set_option maxRecDepth 100000 in
theorem im_X5_numberOfLine : lw_tbl[1093]? = some (.instanceMethod yX5_numberOfLine) := by decide +kernel
set_option maxRecDepth 100000 in
theorem se_X5_numberOfLine : lw_tbl[1094]? = some (.selects RX5 yX5_numberOfLine yX5_numberOfLine) := by decide +kernel
set_option maxRecDepth 100000 in
theorem cd_X5_numberOfPlatform : Cond.code yX5_numberOfPlatform cX5_numberOfPlatform 3 (some .int) ∈ wG := wG_in (i := 1118) (by decide +kernel) rfl
set_option maxRecDepth 100000 in
theorem im_X5_numberOfPlatform : lw_tbl[1116]? = some (.instanceMethod yX5_numberOfPlatform) := by decide +kernel
set_option maxRecDepth 100000 in
theorem se_X5_numberOfPlatform : lw_tbl[1117]? = some (.selects RX5 yX5_numberOfPlatform yX5_numberOfPlatform) := by decide +kernel
set_option maxRecDepth 100000 in
theorem cd_X5_payFine : Cond.code yX5_payFine cX5_payFine 3 (some .int) ∈ wG := wG_in (i := 1245) (by decide +kernel) rfl
set_option maxRecDepth 100000 in
theorem im_X5_payFine : lw_tbl[1243]? = some (.instanceMethod yX5_payFine) := by decide +kernel
set_option maxRecDepth 100000 in
theorem se_X5_payFine : lw_tbl[1244]? = some (.selects RX5 yX5_payFine yX5_payFine) := by decide +kernel
set_option maxRecDepth 100000 in
theorem cd_X5_reset : Cond.code yX5_reset cX5_reset 1 none ∈ wG := wG_in (i := 155) (by decide +kernel) rfl
set_option maxRecDepth 100000 in
theorem im_X5_reset : lw_tbl[153]? = some (.instanceMethod yX5_reset) := by decide +kernel
set_option maxRecDepth 100000 in
theorem se_X5_reset : lw_tbl[154]? = some (.selects RX5 yX5_reset yX5_reset) := by decide +kernel
set_option maxRecDepth 100000 in
theorem cd_X5_rest : Cond.code yX5_rest cX5_rest 2 none ∈ wG := wG_in (i := 571) (by decide +kernel) rfl
set_option maxRecDepth 100000 in
theorem im_X5_rest : lw_tbl[570]? = some (.instanceMethod yX5_rest) := by decide +kernel
set_option maxRecDepth 100000 in
theorem se_X5_rest : lw_tbl[3]? = some (.selects RX5 yX5_rest yX5_rest) := by decide +kernel
set_option maxRecDepth 100000 in
theorem cd_X5_silence : Cond.code yX5_silence cX5_silence 3 (some .int) ∈ wG := wG_in (i := 1226) (by decide +kernel) rfl
set_option maxRecDepth 100000 in
theorem im_X5_silence : lw_tbl[1224]? = some (.instanceMethod yX5_silence) := by decide +kernel
set_option maxRecDepth 100000 in
theorem se_X5_silence : lw_tbl[1225]? = some (.selects RX5 yX5_silence yX5_silence) := by decide +kernel
set_option maxRecDepth 100000 in
theorem cd_X5_steamToBlow : Cond.code yX5_steamToBlow cX5_steamToBlow 4 (some .int) ∈ wG := wG_in (i := 1162) (by decide +kernel) rfl
set_option maxRecDepth 100000 in
theorem im_X5_steamToBlow : lw_tbl[1160]? = some (.instanceMethod yX5_steamToBlow) := by decide +kernel
set_option maxRecDepth 100000 in
theorem se_X5_steamToBlow : lw_tbl[1161]? = some (.selects RX5 yX5_steamToBlow yX5_steamToBlow) := by decide +kernel
set_option maxRecDepth 100000 in
theorem cd_X5_takeSign : Cond.code yX5_takeSign cX5_takeSign 2 (some .int) ∈ wG := wG_in (i := 1047) (by decide +kernel) rfl
set_option maxRecDepth 100000 in
theorem im_X5_takeSign : lw_tbl[1045]? = some (.instanceMethod yX5_takeSign) := by decide +kernel
set_option maxRecDepth 100000 in
theorem se_X5_takeSign : lw_tbl[1046]? = some (.selects RX5 yX5_takeSign yX5_takeSign) := by decide +kernel
set_option maxRecDepth 100000 in
theorem cd_X5_tellPlatform : Cond.code yX5_tellPlatform cX5_tellPlatform 4 (some .int) ∈ wG := wG_in (i := 1081) (by decide +kernel) rfl
set_option maxRecDepth 100000 in
theorem im_X5_tellPlatform : lw_tbl[1079]? = some (.instanceMethod yX5_tellPlatform) := by decide +kernel
set_option maxRecDepth 100000 in
theorem se_X5_tellPlatform : lw_tbl[1080]? = some (.selects RX5 yX5_tellPlatform yX5_tellPlatform) := by decide +kernel
set_option maxRecDepth 100000 in
theorem cd_X5_wayGoesTo : Cond.code yX5_wayGoesTo cX5_wayGoesTo 6 (some .int) ∈ wG := wG_in (i := 544) (by decide +kernel) rfl
set_option maxRecDepth 100000 in
theorem im_X5_wayGoesTo : lw_tbl[542]? = some (.instanceMethod yX5_wayGoesTo) := by decide +kernel
set_option maxRecDepth 100000 in
theorem se_X5_wayGoesTo : lw_tbl[543]? = some (.selects RX5 yX5_wayGoesTo yX5_wayGoesTo) := by decide +kernel
set_option maxRecDepth 100000 in
theorem cd_X6_init : Cond.code yX6_init cX6_init 1 none ∈ wG := wG_in (i := 281) (by decide +kernel) rfl
set_option maxRecDepth 100000 in
theorem im_X6_init : lw_tbl[280]? = some (.instanceMethod yX6_init) := by decide +kernel
set_option maxRecDepth 100000 in
theorem cd_X6_firstLine : Cond.code yX6_firstLine cX6_firstLine 6 (some .int) ∈ wG := wG_in (i := 1300) (by decide +kernel) rfl
set_option maxRecDepth 100000 in
theorem im_X6_firstLine : lw_tbl[1299]? = some (.instanceMethod yX6_firstLine) := by decide +kernel
set_option maxRecDepth 100000 in
theorem se_X6_firstLine : lw_tbl[25]? = some (.selects RX6 yX6_firstLine yX6_firstLine) := by decide +kernel
set_option maxRecDepth 100000 in
theorem cd_X6_isNext : Cond.code yX6_isNext cX6_isNext 5 (some .boolean) ∈ wG := wG_in (i := 630) (by decide +kernel) rfl
set_option maxRecDepth 100000 in
theorem im_X6_isNext : lw_tbl[629]? = some (.instanceMethod yX6_isNext) := by decide +kernel
set_option maxRecDepth 100000 in
theorem se_X6_isNext : lw_tbl[6]? = some (.selects RX6 yX6_isNext yX6_isNext) := by decide +kernel
set_option maxRecDepth 100000 in
theorem cd_X6_lineAt : Cond.code yX6_lineAt cX6_lineAt 6 (some .int) ∈ wG := wG_in (i := 1295) (by decide +kernel) rfl
set_option maxRecDepth 100000 in
theorem im_X6_lineAt : lw_tbl[1293]? = some (.instanceMethod yX6_lineAt) := by decide +kernel
set_option maxRecDepth 100000 in
theorem se_X6_lineAt : lw_tbl[1294]? = some (.selects RX6 yX6_lineAt yX6_lineAt) := by decide +kernel
set_option maxRecDepth 100000 in
theorem cd_X6_load : Cond.code yX6_load cX6_load 5 none ∈ wG := wG_in (i := 605) (by decide +kernel) rfl
set_option maxRecDepth 100000 in
theorem im_X6_load : lw_tbl[603]? = some (.instanceMethod yX6_load) := by decide +kernel
set_option maxRecDepth 100000 in
theorem se_X6_load : lw_tbl[604]? = some (.selects RX6 yX6_load yX6_load) := by decide +kernel
set_option maxRecDepth 100000 in
theorem cd_X6_waysFrom : Cond.code yX6_waysFrom cX6_waysFrom 7 (some .int) ∈ wG := wG_in (i := 626) (by decide +kernel) rfl
set_option maxRecDepth 100000 in
theorem im_X6_waysFrom : lw_tbl[625]? = some (.instanceMethod yX6_waysFrom) := by decide +kernel
set_option maxRecDepth 100000 in
theorem se_X6_waysFrom : lw_tbl[5]? = some (.selects RX6 yX6_waysFrom yX6_waysFrom) := by decide +kernel
set_option maxRecDepth 100000 in
theorem cd_X6_waysFromBeginning : Cond.code yX6_waysFromBeginning cX6_waysFromBeginning 4 (some .int) ∈ wG := wG_in (i := 636) (by decide +kernel) rfl
set_option maxRecDepth 100000 in
theorem im_X6_waysFromBeginning : lw_tbl[634]? = some (.instanceMethod yX6_waysFromBeginning) := by decide +kernel
set_option maxRecDepth 100000 in
theorem se_X6_waysFromBeginning : lw_tbl[635]? = some (.selects RX6 yX6_waysFromBeginning yX6_waysFromBeginning) := by decide +kernel
set_option maxRecDepth 100000 in
theorem cd_X6_waysFromEnd : Cond.code yX6_waysFromEnd cX6_waysFromEnd 4 (some .int) ∈ wG := wG_in (i := 620) (by decide +kernel) rfl
set_option maxRecDepth 100000 in
theorem im_X6_waysFromEnd : lw_tbl[618]? = some (.instanceMethod yX6_waysFromEnd) := by decide +kernel
set_option maxRecDepth 100000 in
theorem se_X6_waysFromEnd : lw_tbl[619]? = some (.selects RX6 yX6_waysFromEnd yX6_waysFromEnd) := by decide +kernel
set_option maxRecDepth 100000 in
theorem cd_X6_waysTo : Cond.code yX6_waysTo cX6_waysTo 8 (some .int) ∈ wG := wG_in (i := 640) (by decide +kernel) rfl
set_option maxRecDepth 100000 in
theorem im_X6_waysTo : lw_tbl[639]? = some (.instanceMethod yX6_waysTo) := by decide +kernel
set_option maxRecDepth 100000 in
theorem se_X6_waysTo : lw_tbl[7]? = some (.selects RX6 yX6_waysTo yX6_waysTo) := by decide +kernel
set_option maxRecDepth 100000 in
theorem cd_X7_begins : Cond.code yX7_begins cX7_begins 2 (some .boolean) ∈ wG := wG_in (i := 394) (by decide +kernel) rfl
set_option maxRecDepth 100000 in
theorem st_X7_begins : lw_tbl[393]? = some (.static yX7_begins) := by decide +kernel
set_option maxRecDepth 100000 in
theorem cd_X7_bits : Cond.code yX7_bits cX7_bits 1 (some .int) ∈ wG := wG_in (i := 400) (by decide +kernel) rfl
set_option maxRecDepth 100000 in
theorem st_X7_bits : lw_tbl[399]? = some (.static yX7_bits) := by decide +kernel
set_option maxRecDepth 100000 in
theorem cd_X7_cut : Cond.code yX7_cut cX7_cut 2 (some .int) ∈ wG := wG_in (i := 669) (by decide +kernel) rfl
set_option maxRecDepth 100000 in
theorem st_X7_cut : lw_tbl[668]? = some (.static yX7_cut) := by decide +kernel
set_option maxRecDepth 100000 in
theorem cd_X7_length : Cond.code yX7_length cX7_length 1 (some .int) ∈ wG := wG_in (i := 397) (by decide +kernel) rfl
set_option maxRecDepth 100000 in
theorem st_X7_length : lw_tbl[396]? = some (.static yX7_length) := by decide +kernel
set_option maxRecDepth 100000 in
theorem cd_X7_letter : Cond.code yX7_letter cX7_letter 2 (some .int) ∈ wG := wG_in (i := 615) (by decide +kernel) rfl
set_option maxRecDepth 100000 in
theorem st_X7_letter : lw_tbl[614]? = some (.static yX7_letter) := by decide +kernel
set_option maxRecDepth 100000 in
theorem cd_X7_mask : Cond.code yX7_mask cX7_mask 1 (some .int) ∈ wG := wG_in (i := 403) (by decide +kernel) rfl
set_option maxRecDepth 100000 in
theorem st_X7_mask : lw_tbl[402]? = some (.static yX7_mask) := by decide +kernel
set_option maxRecDepth 100000 in
theorem cd_X7_of : Cond.code yX7_of cX7_of 2 (some .int) ∈ wG := wG_in (i := 660) (by decide +kernel) rfl
set_option maxRecDepth 100000 in
theorem st_X7_of : lw_tbl[659]? = some (.static yX7_of) := by decide +kernel
set_option maxRecDepth 100000 in
theorem cd_X7_steam : Cond.code yX7_steam cX7_steam 1 (some .int) ∈ wG := wG_in (i := 1022) (by decide +kernel) rfl
set_option maxRecDepth 100000 in
theorem st_X7_steam : lw_tbl[1021]? = some (.static yX7_steam) := by decide +kernel
set_option maxRecDepth 100000 in
theorem cd_X9_init : Cond.code yX9_init cX9_init 1 none ∈ wG := wG_in (i := 1610) (by decide +kernel) rfl
set_option maxRecDepth 100000 in
theorem im_X9_init : lw_tbl[1609]? = some (.instanceMethod yX9_init) := by decide +kernel
set_option maxRecDepth 100000 in
theorem cd_X9_account : Cond.code yX9_account cX9_account 2 (some .int) ∈ wG := wG_in (i := 2032) (by decide +kernel) rfl
set_option maxRecDepth 100000 in
theorem im_X9_account : lw_tbl[2030]? = some (.instanceMethod yX9_account) := by decide +kernel
set_option maxRecDepth 100000 in
theorem se_X9_account : lw_tbl[2031]? = some (.selects RX9 yX9_account yX9_account) := by decide +kernel
set_option maxRecDepth 100000 in
theorem cd_X9_append : Cond.code yX9_append cX9_append 5 (some .int) ∈ wG := wG_in (i := 2052) (by decide +kernel) rfl
set_option maxRecDepth 100000 in
theorem im_X9_append : lw_tbl[2050]? = some (.instanceMethod yX9_append) := by decide +kernel
set_option maxRecDepth 100000 in
theorem se_X9_append : lw_tbl[2051]? = some (.selects RX9 yX9_append yX9_append) := by decide +kernel
set_option maxRecDepth 100000 in
theorem cd_X9_areHours : Cond.code yX9_areHours cX9_areHours 1 (some .boolean) ∈ wG := wG_in (i := 1873) (by decide +kernel) rfl
set_option maxRecDepth 100000 in
theorem st_X9_areHours : lw_tbl[1872]? = some (.static yX9_areHours) := by decide +kernel
set_option maxRecDepth 100000 in
theorem cd_X9_begins : Cond.code yX9_begins cX9_begins 1 none ∈ wG := wG_in (i := 1725) (by decide +kernel) rfl
set_option maxRecDepth 100000 in
theorem im_X9_begins : lw_tbl[1724]? = some (.instanceMethod yX9_begins) := by decide +kernel
set_option maxRecDepth 100000 in
theorem se_X9_begins : lw_tbl[39]? = some (.selects RX9 yX9_begins yX9_begins) := by decide +kernel
set_option maxRecDepth 100000 in
theorem cd_X9_bitsIn : Cond.code yX9_bitsIn cX9_bitsIn 1 (some .int) ∈ wG := wG_in (i := 1839) (by decide +kernel) rfl
set_option maxRecDepth 100000 in
theorem st_X9_bitsIn : lw_tbl[1838]? = some (.static yX9_bitsIn) := by decide +kernel
set_option maxRecDepth 100000 in
theorem cd_X9_byIn : Cond.code yX9_byIn cX9_byIn 1 (some .int) ∈ wG := wG_in (i := 1863) (by decide +kernel) rfl
set_option maxRecDepth 100000 in
theorem st_X9_byIn : lw_tbl[1862]? = some (.static yX9_byIn) := by decide +kernel
set_option maxRecDepth 100000 in
theorem cd_X9_cannot : Cond.code yX9_cannot cX9_cannot 6 (some .boolean) ∈ wG := wG_in (i := 2088) (by decide +kernel) rfl
set_option maxRecDepth 100000 in
theorem im_X9_cannot : lw_tbl[2087]? = some (.instanceMethod yX9_cannot) := by decide +kernel
set_option maxRecDepth 100000 in
theorem se_X9_cannot : lw_tbl[88]? = some (.selects RX9 yX9_cannot yX9_cannot) := by decide +kernel
set_option maxRecDepth 100000 in
theorem cd_X9_character : Cond.code yX9_character cX9_character 2 (some .char) ∈ wG := wG_in (i := 2024) (by decide +kernel) rfl
set_option maxRecDepth 100000 in
theorem im_X9_character : lw_tbl[2022]? = some (.instanceMethod yX9_character) := by decide +kernel
set_option maxRecDepth 100000 in
theorem se_X9_character : lw_tbl[2023]? = some (.selects RX9 yX9_character yX9_character) := by decide +kernel
set_option maxRecDepth 100000 in
theorem cd_X9_clash : Cond.code yX9_clash cX9_clash 3 (some .int) ∈ wG := wG_in (i := 1945) (by decide +kernel) rfl
set_option maxRecDepth 100000 in
theorem im_X9_clash : lw_tbl[1943]? = some (.instanceMethod yX9_clash) := by decide +kernel
set_option maxRecDepth 100000 in
theorem se_X9_clash : lw_tbl[1944]? = some (.selects RX9 yX9_clash yX9_clash) := by decide +kernel
set_option maxRecDepth 100000 in
theorem cd_X9_clear : Cond.code yX9_clear cX9_clear 2 (some .int) ∈ wG := wG_in (i := 1709) (by decide +kernel) rfl
set_option maxRecDepth 100000 in
theorem im_X9_clear : lw_tbl[1707]? = some (.instanceMethod yX9_clear) := by decide +kernel
set_option maxRecDepth 100000 in
theorem se_X9_clear : lw_tbl[1708]? = some (.selects RX9 yX9_clear yX9_clear) := by decide +kernel
set_option maxRecDepth 100000 in
theorem cd_X9_clears : Cond.code yX9_clears cX9_clears 2 none ∈ wG := wG_in (i := 1615) (by decide +kernel) rfl
set_option maxRecDepth 100000 in
theorem im_X9_clears : lw_tbl[1614]? = some (.instanceMethod yX9_clears) := by decide +kernel
set_option maxRecDepth 100000 in
theorem se_X9_clears : lw_tbl[35]? = some (.selects RX9 yX9_clears yX9_clears) := by decide +kernel
set_option maxRecDepth 100000 in
theorem cd_X9_comingTo : Cond.code yX9_comingTo cX9_comingTo 4 (some .int) ∈ wG := wG_in (i := 1941) (by decide +kernel) rfl
set_option maxRecDepth 100000 in
theorem im_X9_comingTo : lw_tbl[1940]? = some (.instanceMethod yX9_comingTo) := by decide +kernel
set_option maxRecDepth 100000 in
theorem se_X9_comingTo : lw_tbl[69]? = some (.selects RX9 yX9_comingTo yX9_comingTo) := by decide +kernel
set_option maxRecDepth 100000 in
theorem cd_X9_copies : Cond.code yX9_copies cX9_copies 5 none ∈ wG := wG_in (i := 1728) (by decide +kernel) rfl
set_option maxRecDepth 100000 in
theorem st_X9_copies : lw_tbl[1727]? = some (.static yX9_copies) := by decide +kernel
set_option maxRecDepth 100000 in
theorem cd_X9_errorPosition : Cond.code yX9_errorPosition cX9_errorPosition 1 (some .int) ∈ wG := wG_in (i := 2096) (by decide +kernel) rfl
set_option maxRecDepth 100000 in
theorem im_X9_errorPosition : lw_tbl[2094]? = some (.instanceMethod yX9_errorPosition) := by decide +kernel
set_option maxRecDepth 100000 in
theorem se_X9_errorPosition : lw_tbl[2095]? = some (.selects RX9 yX9_errorPosition yX9_errorPosition) := by decide +kernel
set_option maxRecDepth 100000 in
theorem cd_X9_expose : Cond.code yX9_expose cX9_expose 2 (some .int) ∈ wG := wG_in (i := 1852) (by decide +kernel) rfl
set_option maxRecDepth 100000 in
theorem im_X9_expose : lw_tbl[1850]? = some (.instanceMethod yX9_expose) := by decide +kernel
set_option maxRecDepth 100000 in
theorem se_X9_expose : lw_tbl[1851]? = some (.selects RX9 yX9_expose yX9_expose) := by decide +kernel
set_option maxRecDepth 100000 in
theorem cd_X9_exposes : Cond.code yX9_exposes cX9_exposes 4 (some .int) ∈ wG := wG_in (i := 1860) (by decide +kernel) rfl
set_option maxRecDepth 100000 in
theorem im_X9_exposes : lw_tbl[1859]? = some (.instanceMethod yX9_exposes) := by decide +kernel
set_option maxRecDepth 100000 in
theorem se_X9_exposes : lw_tbl[59]? = some (.selects RX9 yX9_exposes yX9_exposes) := by decide +kernel
set_option maxRecDepth 100000 in
theorem cd_X9_fine : Cond.code yX9_fine cX9_fine 2 (some .int) ∈ wG := wG_in (i := 1889) (by decide +kernel) rfl
set_option maxRecDepth 100000 in
theorem im_X9_fine : lw_tbl[1887]? = some (.instanceMethod yX9_fine) := by decide +kernel
set_option maxRecDepth 100000 in
theorem se_X9_fine : lw_tbl[1888]? = some (.selects RX9 yX9_fine yX9_fine) := by decide +kernel
set_option maxRecDepth 100000 in
theorem cd_X9_free : Cond.code yX9_free cX9_free 5 (some .int) ∈ wG := wG_in (i := 1960) (by decide +kernel) rfl
set_option maxRecDepth 100000 in
theorem im_X9_free : lw_tbl[1958]? = some (.instanceMethod yX9_free) := by decide +kernel
set_option maxRecDepth 100000 in
theorem se_X9_free : lw_tbl[1959]? = some (.selects RX9 yX9_free yX9_free) := by decide +kernel
set_option maxRecDepth 100000 in
theorem cd_X9_goesBy : Cond.code yX9_goesBy cX9_goesBy 4 (some .int) ∈ wG := wG_in (i := 1905) (by decide +kernel) rfl
set_option maxRecDepth 100000 in
theorem im_X9_goesBy : lw_tbl[1904]? = some (.instanceMethod yX9_goesBy) := by decide +kernel
set_option maxRecDepth 100000 in
theorem se_X9_goesBy : lw_tbl[65]? = some (.selects RX9 yX9_goesBy yX9_goesBy) := by decide +kernel
set_option maxRecDepth 100000 in
theorem cd_X9_hasNoSign : Cond.code yX9_hasNoSign cX9_hasNoSign 2 (some .boolean) ∈ wG := wG_in (i := 1776) (by decide +kernel) rfl
set_option maxRecDepth 100000 in
theorem im_X9_hasNoSign : lw_tbl[1775]? = some (.instanceMethod yX9_hasNoSign) := by decide +kernel
set_option maxRecDepth 100000 in
theorem se_X9_hasNoSign : lw_tbl[47]? = some (.selects RX9 yX9_hasNoSign yX9_hasNoSign) := by decide +kernel
set_option maxRecDepth 100000 in
theorem cd_X9_heard : Cond.code yX9_heard cX9_heard 4 (some .int) ∈ wG := wG_in (i := 1929) (by decide +kernel) rfl
set_option maxRecDepth 100000 in
theorem im_X9_heard : lw_tbl[1927]? = some (.instanceMethod yX9_heard) := by decide +kernel
set_option maxRecDepth 100000 in
theorem se_X9_heard : lw_tbl[1928]? = some (.selects RX9 yX9_heard yX9_heard) := by decide +kernel
set_option maxRecDepth 100000 in
theorem cd_X9_hears : Cond.code yX9_hears cX9_hears 5 none ∈ wG := wG_in (i := 1921) (by decide +kernel) rfl
set_option maxRecDepth 100000 in
theorem im_X9_hears : lw_tbl[1920]? = some (.instanceMethod yX9_hears) := by decide +kernel
set_option maxRecDepth 100000 in
theorem se_X9_hears : lw_tbl[68]? = some (.selects RX9 yX9_hears yX9_hears) := by decide +kernel
set_option maxRecDepth 100000 in
theorem cd_X9_hour : Cond.code yX9_hour cX9_hour 1 (some .int) ∈ wG := wG_in (i := 1901) (by decide +kernel) rfl
set_option maxRecDepth 100000 in
theorem im_X9_hour : lw_tbl[1899]? = some (.instanceMethod yX9_hour) := by decide +kernel
set_option maxRecDepth 100000 in
theorem se_X9_hour : lw_tbl[1900]? = some (.selects RX9 yX9_hour yX9_hour) := by decide +kernel
set_option maxRecDepth 100000 in
theorem cd_X9_in : Cond.code yX9_in cX9_in 3 (some .boolean) ∈ wG := wG_in (i := 1734) (by decide +kernel) rfl
set_option maxRecDepth 100000 in
theorem st_X9_in : lw_tbl[1733]? = some (.static yX9_in) := by decide +kernel
set_option maxRecDepth 100000 in
theorem cd_X9_isBad : Cond.code yX9_isBad cX9_isBad 3 (some .boolean) ∈ wG := wG_in (i := 1749) (by decide +kernel) rfl
set_option maxRecDepth 100000 in
theorem im_X9_isBad : lw_tbl[1748]? = some (.instanceMethod yX9_isBad) := by decide +kernel
set_option maxRecDepth 100000 in
theorem se_X9_isBad : lw_tbl[42]? = some (.selects RX9 yX9_isBad yX9_isBad) := by decide +kernel
set_option maxRecDepth 100000 in
theorem cd_X9_isClear : Cond.code yX9_isClear cX9_isClear 3 (some .boolean) ∈ wG := wG_in (i := 1956) (by decide +kernel) rfl
set_option maxRecDepth 100000 in
theorem im_X9_isClear : lw_tbl[1954]? = some (.instanceMethod yX9_isClear) := by decide +kernel
set_option maxRecDepth 100000 in
theorem se_X9_isClear : lw_tbl[1955]? = some (.selects RX9 yX9_isClear yX9_isClear) := by decide +kernel
set_option maxRecDepth 100000 in
theorem cd_X9_isFree : Cond.code yX9_isFree cX9_isFree 4 (some .boolean) ∈ wG := wG_in (i := 1964) (by decide +kernel) rfl
set_option maxRecDepth 100000 in
theorem im_X9_isFree : lw_tbl[1963]? = some (.instanceMethod yX9_isFree) := by decide +kernel
set_option maxRecDepth 100000 in
theorem se_X9_isFree : lw_tbl[71]? = some (.selects RX9 yX9_isFree yX9_isFree) := by decide +kernel
set_option maxRecDepth 100000 in
theorem cd_X9_isHushed : Cond.code yX9_isHushed cX9_isHushed 4 (some .boolean) ∈ wG := wG_in (i := 1818) (by decide +kernel) rfl
set_option maxRecDepth 100000 in
theorem im_X9_isHushed : lw_tbl[1817]? = some (.instanceMethod yX9_isHushed) := by decide +kernel
set_option maxRecDepth 100000 in
theorem se_X9_isHushed : lw_tbl[53]? = some (.selects RX9 yX9_isHushed yX9_isHushed) := by decide +kernel
set_option maxRecDepth 100000 in
theorem cd_X9_isLetter : Cond.code yX9_isLetter cX9_isLetter 1 (some .boolean) ∈ wG := wG_in (i := 2084) (by decide +kernel) rfl
set_option maxRecDepth 100000 in
theorem im_X9_isLetter : lw_tbl[2083]? = some (.instanceMethod yX9_isLetter) := by decide +kernel
set_option maxRecDepth 100000 in
theorem se_X9_isLetter : lw_tbl[87]? = some (.selects RX9 yX9_isLetter yX9_isLetter) := by decide +kernel
set_option maxRecDepth 100000 in
theorem cd_X9_isLine : Cond.code yX9_isLine cX9_isLine 1 (some .boolean) ∈ wG := wG_in (i := 1731) (by decide +kernel) rfl
set_option maxRecDepth 100000 in
theorem st_X9_isLine : lw_tbl[1730]? = some (.static yX9_isLine) := by decide +kernel
set_option maxRecDepth 100000 in
theorem cd_X9_isNot : Cond.code yX9_isNot cX9_isNot 2 (some .boolean) ∈ wG := wG_in (i := 2092) (by decide +kernel) rfl
set_option maxRecDepth 100000 in
theorem im_X9_isNot : lw_tbl[2091]? = some (.instanceMethod yX9_isNot) := by decide +kernel
set_option maxRecDepth 100000 in
theorem se_X9_isNot : lw_tbl[89]? = some (.selects RX9 yX9_isNot yX9_isNot) := by decide +kernel
set_option maxRecDepth 100000 in
theorem cd_X9_isPlatform : Cond.code yX9_isPlatform cX9_isPlatform 1 (some .boolean) ∈ wG := wG_in (i := 1802) (by decide +kernel) rfl
set_option maxRecDepth 100000 in
theorem st_X9_isPlatform : lw_tbl[1801]? = some (.static yX9_isPlatform) := by decide +kernel
set_option maxRecDepth 100000 in
theorem cd_X9_isPriority : Cond.code yX9_isPriority cX9_isPriority 1 (some .boolean) ∈ wG := wG_in (i := 1787) (by decide +kernel) rfl
set_option maxRecDepth 100000 in
theorem st_X9_isPriority : lw_tbl[1786]? = some (.static yX9_isPriority) := by decide +kernel
set_option maxRecDepth 100000 in
theorem cd_X9_isRefusedExpose : Cond.code yX9_isRefusedExpose cX9_isRefusedExpose 2 (some .boolean) ∈ wG := wG_in (i := 1856) (by decide +kernel) rfl
set_option maxRecDepth 100000 in
theorem im_X9_isRefusedExpose : lw_tbl[1855]? = some (.instanceMethod yX9_isRefusedExpose) := by decide +kernel
set_option maxRecDepth 100000 in
theorem se_X9_isRefusedExpose : lw_tbl[58]? = some (.selects RX9 yX9_isRefusedExpose yX9_isRefusedExpose) := by decide +kernel
set_option maxRecDepth 100000 in
theorem cd_X9_isRefusedFine : Cond.code yX9_isRefusedFine cX9_isRefusedFine 2 (some .boolean) ∈ wG := wG_in (i := 1893) (by decide +kernel) rfl
set_option maxRecDepth 100000 in
theorem im_X9_isRefusedFine : lw_tbl[1892]? = some (.instanceMethod yX9_isRefusedFine) := by decide +kernel
set_option maxRecDepth 100000 in
theorem se_X9_isRefusedFine : lw_tbl[63]? = some (.selects RX9 yX9_isRefusedFine yX9_isRefusedFine) := by decide +kernel
set_option maxRecDepth 100000 in
theorem cd_X9_isRefusedMute : Cond.code yX9_isRefusedMute cX9_isRefusedMute 2 (some .boolean) ∈ wG := wG_in (i := 1877) (by decide +kernel) rfl
set_option maxRecDepth 100000 in
theorem im_X9_isRefusedMute : lw_tbl[1876]? = some (.instanceMethod yX9_isRefusedMute) := by decide +kernel
set_option maxRecDepth 100000 in
theorem se_X9_isRefusedMute : lw_tbl[60]? = some (.selects RX9 yX9_isRefusedMute yX9_isRefusedMute) := by decide +kernel
set_option maxRecDepth 100000 in
theorem cd_X9_isRefusedPriority : Cond.code yX9_isRefusedPriority cX9_isRefusedPriority 3 (some .boolean) ∈ wG := wG_in (i := 1791) (by decide +kernel) rfl
set_option maxRecDepth 100000 in
theorem im_X9_isRefusedPriority : lw_tbl[1790]? = some (.instanceMethod yX9_isRefusedPriority) := by decide +kernel
set_option maxRecDepth 100000 in
theorem se_X9_isRefusedPriority : lw_tbl[49]? = some (.selects RX9 yX9_isRefusedPriority yX9_isRefusedPriority) := by decide +kernel
set_option maxRecDepth 100000 in
theorem cd_X9_isRefusedSign : Cond.code yX9_isRefusedSign cX9_isRefusedSign 4 (some .boolean) ∈ wG := wG_in (i := 1745) (by decide +kernel) rfl
set_option maxRecDepth 100000 in
theorem im_X9_isRefusedSign : lw_tbl[1744]? = some (.instanceMethod yX9_isRefusedSign) := by decide +kernel
set_option maxRecDepth 100000 in
theorem se_X9_isRefusedSign : lw_tbl[41]? = some (.selects RX9 yX9_isRefusedSign yX9_isRefusedSign) := by decide +kernel
set_option maxRecDepth 100000 in
theorem cd_X9_isRight : Cond.code yX9_isRight cX9_isRight 1 (some .boolean) ∈ wG := wG_in (i := 2004) (by decide +kernel) rfl
set_option maxRecDepth 100000 in
theorem im_X9_isRight : lw_tbl[2002]? = some (.instanceMethod yX9_isRight) := by decide +kernel
set_option maxRecDepth 100000 in
theorem se_X9_isRight : lw_tbl[2003]? = some (.selects RX9 yX9_isRight yX9_isRight) := by decide +kernel
set_option maxRecDepth 100000 in
theorem cd_X9_isWord : Cond.code yX9_isWord cX9_isWord 2 (some .boolean) ∈ wG := wG_in (i := 1741) (by decide +kernel) rfl
set_option maxRecDepth 100000 in
theorem st_X9_isWord : lw_tbl[1740]? = some (.static yX9_isWord) := by decide +kernel
set_option maxRecDepth 100000 in
theorem cd_X9_itsSteam : Cond.code yX9_itsSteam cX9_itsSteam 2 (some .int) ∈ wG := wG_in (i := 1761) (by decide +kernel) rfl
set_option maxRecDepth 100000 in
theorem im_X9_itsSteam : lw_tbl[1760]? = some (.instanceMethod yX9_itsSteam) := by decide +kernel
set_option maxRecDepth 100000 in
theorem se_X9_itsSteam : lw_tbl[45]? = some (.selects RX9 yX9_itsSteam yX9_itsSteam) := by decide +kernel
set_option maxRecDepth 100000 in
theorem cd_X9_keeps : Cond.code yX9_keeps cX9_keeps 3 (some .int) ∈ wG := wG_in (i := 1768) (by decide +kernel) rfl
set_option maxRecDepth 100000 in
theorem im_X9_keeps : lw_tbl[1767]? = some (.instanceMethod yX9_keeps) := by decide +kernel
set_option maxRecDepth 100000 in
theorem se_X9_keeps : lw_tbl[46]? = some (.selects RX9 yX9_keeps yX9_keeps) := by decide +kernel
set_option maxRecDepth 100000 in
theorem cd_X9_lays : Cond.code yX9_lays cX9_lays 6 (some .int) ∈ wG := wG_in (i := 1806) (by decide +kernel) rfl
set_option maxRecDepth 100000 in
theorem im_X9_lays : lw_tbl[1805]? = some (.instanceMethod yX9_lays) := by decide +kernel
set_option maxRecDepth 100000 in
theorem se_X9_lays : lw_tbl[51]? = some (.selects RX9 yX9_lays yX9_lays) := by decide +kernel
set_option maxRecDepth 100000 in
theorem cd_X9_laysLetters : Cond.code yX9_laysLetters cX9_laysLetters 4 none ∈ wG := wG_in (i := 1976) (by decide +kernel) rfl
set_option maxRecDepth 100000 in
theorem im_X9_laysLetters : lw_tbl[1975]? = some (.instanceMethod yX9_laysLetters) := by decide +kernel
set_option maxRecDepth 100000 in
theorem se_X9_laysLetters : lw_tbl[73]? = some (.selects RX9 yX9_laysLetters yX9_laysLetters) := by decide +kernel
set_option maxRecDepth 100000 in
theorem cd_X9_laysReadings : Cond.code yX9_laysReadings cX9_laysReadings 4 (some .int) ∈ wG := wG_in (i := 1972) (by decide +kernel) rfl
set_option maxRecDepth 100000 in
theorem im_X9_laysReadings : lw_tbl[1971]? = some (.instanceMethod yX9_laysReadings) := by decide +kernel
set_option maxRecDepth 100000 in
theorem se_X9_laysReadings : lw_tbl[72]? = some (.selects RX9 yX9_laysReadings yX9_laysReadings) := by decide +kernel
set_option maxRecDepth 100000 in
theorem cd_X9_lengthIn : Cond.code yX9_lengthIn cX9_lengthIn 1 (some .int) ∈ wG := wG_in (i := 1836) (by decide +kernel) rfl
set_option maxRecDepth 100000 in
theorem st_X9_lengthIn : lw_tbl[1835]? = some (.static yX9_lengthIn) := by decide +kernel
set_option maxRecDepth 100000 in
theorem cd_X9_lettersOnStrip : Cond.code yX9_lettersOnStrip cX9_lettersOnStrip 1 (some .int) ∈ wG := wG_in (i := 2036) (by decide +kernel) rfl
set_option maxRecDepth 100000 in
theorem im_X9_lettersOnStrip : lw_tbl[2035]? = some (.instanceMethod yX9_lettersOnStrip) := by decide +kernel
set_option maxRecDepth 100000 in
theorem se_X9_lettersOnStrip : lw_tbl[79]? = some (.selects RX9 yX9_lettersOnStrip yX9_lettersOnStrip) := by decide +kernel
set_option maxRecDepth 100000 in
theorem cd_X9_lie : Cond.code yX9_lie cX9_lie 3 (some .int) ∈ wG := wG_in (i := 1844) (by decide +kernel) rfl
set_option maxRecDepth 100000 in
theorem im_X9_lie : lw_tbl[1842]? = some (.instanceMethod yX9_lie) := by decide +kernel
set_option maxRecDepth 100000 in
theorem se_X9_lie : lw_tbl[1843]? = some (.selects RX9 yX9_lie yX9_lie) := by decide +kernel
set_option maxRecDepth 100000 in
theorem cd_X9_lieShare : Cond.code yX9_lieShare cX9_lieShare 2 (some .float) ∈ wG := wG_in (i := 2048) (by decide +kernel) rfl
set_option maxRecDepth 100000 in
theorem im_X9_lieShare : lw_tbl[2046]? = some (.instanceMethod yX9_lieShare) := by decide +kernel
set_option maxRecDepth 100000 in
theorem se_X9_lieShare : lw_tbl[2047]? = some (.selects RX9 yX9_lieShare yX9_lieShare) := by decide +kernel
set_option maxRecDepth 100000 in
theorem cd_X9_lies : Cond.code yX9_lies cX9_lies 3 (some .int) ∈ wG := wG_in (i := 1848) (by decide +kernel) rfl
set_option maxRecDepth 100000 in
theorem im_X9_lies : lw_tbl[1847]? = some (.instanceMethod yX9_lies) := by decide +kernel
set_option maxRecDepth 100000 in
theorem se_X9_lies : lw_tbl[57]? = some (.selects RX9 yX9_lies yX9_lies) := by decide +kernel
set_option maxRecDepth 100000 in
theorem cd_X9_lineOf : Cond.code yX9_lineOf cX9_lineOf 3 (some .int) ∈ wG := wG_in (i := 1933) (by decide +kernel) rfl
set_option maxRecDepth 100000 in
theorem im_X9_lineOf : lw_tbl[1931]? = some (.instanceMethod yX9_lineOf) := by decide +kernel
set_option maxRecDepth 100000 in
theorem se_X9_lineOf : lw_tbl[1932]? = some (.selects RX9 yX9_lineOf yX9_lineOf) := by decide +kernel
set_option maxRecDepth 100000 in
theorem cd_X9_ll : Cond.code yX9_ll cX9_ll 4 none ∈ wG := wG_in (i := 1619) (by decide +kernel) rfl
set_option maxRecDepth 100000 in
theorem im_X9_ll : lw_tbl[1618]? = some (.instanceMethod yX9_ll) := by decide +kernel
set_option maxRecDepth 100000 in
theorem se_X9_ll : lw_tbl[36]? = some (.selects RX9 yX9_ll yX9_ll) := by decide +kernel
set_option maxRecDepth 100000 in
theorem cd_X9_lv : Cond.code yX9_lv cX9_lv 3 (some .int) ∈ wG := wG_in (i := 1717) (by decide +kernel) rfl
set_option maxRecDepth 100000 in
theorem im_X9_lv : lw_tbl[1716]? = some (.instanceMethod yX9_lv) := by decide +kernel
set_option maxRecDepth 100000 in
theorem se_X9_lv : lw_tbl[38]? = some (.selects RX9 yX9_lv yX9_lv) := by decide +kernel
set_option maxRecDepth 100000 in
theorem cd_X9_mark : Cond.code yX9_mark cX9_mark 1 (some .int) ∈ wG := wG_in (i := 2068) (by decide +kernel) rfl
set_option maxRecDepth 100000 in
theorem im_X9_mark : lw_tbl[2067]? = some (.instanceMethod yX9_mark) := by decide +kernel
set_option maxRecDepth 100000 in
theorem se_X9_mark : lw_tbl[83]? = some (.selects RX9 yX9_mark yX9_mark) := by decide +kernel
set_option maxRecDepth 100000 in
theorem cd_X9_meanLength : Cond.code yX9_meanLength cX9_meanLength 2 (some .double) ∈ wG := wG_in (i := 2044) (by decide +kernel) rfl
set_option maxRecDepth 100000 in
theorem im_X9_meanLength : lw_tbl[2042]? = some (.instanceMethod yX9_meanLength) := by decide +kernel
set_option maxRecDepth 100000 in
theorem se_X9_meanLength : lw_tbl[2043]? = some (.selects RX9 yX9_meanLength yX9_meanLength) := by decide +kernel
set_option maxRecDepth 100000 in
theorem cd_X9_measured : Cond.code yX9_measured cX9_measured 3 (some .int) ∈ wG := wG_in (i := 2000) (by decide +kernel) rfl
set_option maxRecDepth 100000 in
theorem im_X9_measured : lw_tbl[1999]? = some (.instanceMethod yX9_measured) := by decide +kernel
set_option maxRecDepth 100000 in
theorem se_X9_measured : lw_tbl[76]? = some (.selects RX9 yX9_measured yX9_measured) := by decide +kernel
set_option maxRecDepth 100000 in
theorem cd_X9_mute : Cond.code yX9_mute cX9_mute 3 (some .int) ∈ wG := wG_in (i := 1870) (by decide +kernel) rfl
set_option maxRecDepth 100000 in
theorem im_X9_mute : lw_tbl[1868]? = some (.instanceMethod yX9_mute) := by decide +kernel
set_option maxRecDepth 100000 in
theorem se_X9_mute : lw_tbl[1869]? = some (.selects RX9 yX9_mute yX9_mute) := by decide +kernel
set_option maxRecDepth 100000 in
theorem cd_X9_mutedMany : Cond.code yX9_mutedMany cX9_mutedMany 3 (some .int) ∈ wG := wG_in (i := 1885) (by decide +kernel) rfl
set_option maxRecDepth 100000 in
theorem im_X9_mutedMany : lw_tbl[1884]? = some (.instanceMethod yX9_mutedMany) := by decide +kernel
set_option maxRecDepth 100000 in
theorem se_X9_mutedMany : lw_tbl[62]? = some (.selects RX9 yX9_mutedMany yX9_mutedMany) := by decide +kernel
set_option maxRecDepth 100000 in
theorem cd_X9_mutes : Cond.code yX9_mutes cX9_mutes 3 (some .int) ∈ wG := wG_in (i := 1881) (by decide +kernel) rfl
set_option maxRecDepth 100000 in
theorem im_X9_mutes : lw_tbl[1880]? = some (.instanceMethod yX9_mutes) := by decide +kernel
set_option maxRecDepth 100000 in
theorem se_X9_mutes : lw_tbl[61]? = some (.selects RX9 yX9_mutes yX9_mutes) := by decide +kernel
set_option maxRecDepth 100000 in
theorem cd_X9_no : Cond.code yX9_no cX9_no 2 (some .int) ∈ wG := wG_in (i := 1738) (by decide +kernel) rfl
set_option maxRecDepth 100000 in
theorem im_X9_no : lw_tbl[1737]? = some (.instanceMethod yX9_no) := by decide +kernel
set_option maxRecDepth 100000 in
theorem se_X9_no : lw_tbl[40]? = some (.selects RX9 yX9_no yX9_no) := by decide +kernel
set_option maxRecDepth 100000 in
theorem cd_X9_order : Cond.code yX9_order cX9_order 2 none ∈ wG := wG_in (i := 2064) (by decide +kernel) rfl
set_option maxRecDepth 100000 in
theorem im_X9_order : lw_tbl[2063]? = some (.instanceMethod yX9_order) := by decide +kernel
set_option maxRecDepth 100000 in
theorem se_X9_order : lw_tbl[82]? = some (.selects RX9 yX9_order yX9_order) := by decide +kernel
set_option maxRecDepth 100000 in
theorem cd_X9_orders : Cond.code yX9_orders cX9_orders 4 (some .int) ∈ wG := wG_in (i := 1795) (by decide +kernel) rfl
set_option maxRecDepth 100000 in
theorem im_X9_orders : lw_tbl[1794]? = some (.instanceMethod yX9_orders) := by decide +kernel
set_option maxRecDepth 100000 in
theorem se_X9_orders : lw_tbl[50]? = some (.selects RX9 yX9_orders yX9_orders) := by decide +kernel
set_option maxRecDepth 100000 in
theorem cd_X9_pays : Cond.code yX9_pays cX9_pays 3 (some .int) ∈ wG := wG_in (i := 1897) (by decide +kernel) rfl
set_option maxRecDepth 100000 in
theorem im_X9_pays : lw_tbl[1896]? = some (.instanceMethod yX9_pays) := by decide +kernel
set_option maxRecDepth 100000 in
theorem se_X9_pays : lw_tbl[64]? = some (.selects RX9 yX9_pays yX9_pays) := by decide +kernel
set_option maxRecDepth 100000 in
theorem cd_X9_platform : Cond.code yX9_platform cX9_platform 4 (some .int) ∈ wG := wG_in (i := 1799) (by decide +kernel) rfl
set_option maxRecDepth 100000 in
theorem im_X9_platform : lw_tbl[1797]? = some (.instanceMethod yX9_platform) := by decide +kernel
set_option maxRecDepth 100000 in
theorem se_X9_platform : lw_tbl[1798]? = some (.selects RX9 yX9_platform yX9_platform) := by decide +kernel
set_option maxRecDepth 100000 in
theorem cd_X9_platformIn : Cond.code yX9_platformIn cX9_platformIn 1 (some .int) ∈ wG := wG_in (i := 1866) (by decide +kernel) rfl
set_option maxRecDepth 100000 in
theorem st_X9_platformIn : lw_tbl[1865]? = some (.static yX9_platformIn) := by decide +kernel
set_option maxRecDepth 100000 in
theorem cd_X9_platformOf : Cond.code yX9_platformOf cX9_platformOf 3 (some .int) ∈ wG := wG_in (i := 1937) (by decide +kernel) rfl
set_option maxRecDepth 100000 in
theorem im_X9_platformOf : lw_tbl[1935]? = some (.instanceMethod yX9_platformOf) := by decide +kernel
set_option maxRecDepth 100000 in
theorem se_X9_platformOf : lw_tbl[1936]? = some (.selects RX9 yX9_platformOf yX9_platformOf) := by decide +kernel
set_option maxRecDepth 100000 in
theorem cd_X9_priority : Cond.code yX9_priority cX9_priority 3 (some .int) ∈ wG := wG_in (i := 1784) (by decide +kernel) rfl
set_option maxRecDepth 100000 in
theorem im_X9_priority : lw_tbl[1782]? = some (.instanceMethod yX9_priority) := by decide +kernel
set_option maxRecDepth 100000 in
theorem se_X9_priority : lw_tbl[1783]? = some (.selects RX9 yX9_priority yX9_priority) := by decide +kernel
set_option maxRecDepth 100000 in
theorem cd_X9_pv : Cond.code yX9_pv cX9_pv 3 (some .int) ∈ wG := wG_in (i := 1810) (by decide +kernel) rfl
set_option maxRecDepth 100000 in
theorem im_X9_pv : lw_tbl[1809]? = some (.instanceMethod yX9_pv) := by decide +kernel
set_option maxRecDepth 100000 in
theorem se_X9_pv : lw_tbl[52]? = some (.selects RX9 yX9_pv yX9_pv) := by decide +kernel
set_option maxRecDepth 100000 in
theorem cd_X9_ranked : Cond.code yX9_ranked cX9_ranked 6 (some .int) ∈ wG := wG_in (i := 1996) (by decide +kernel) rfl
set_option maxRecDepth 100000 in
theorem im_X9_ranked : lw_tbl[1994]? = some (.instanceMethod yX9_ranked) := by decide +kernel
set_option maxRecDepth 100000 in
theorem se_X9_ranked : lw_tbl[1995]? = some (.selects RX9 yX9_ranked yX9_ranked) := by decide +kernel
set_option maxRecDepth 100000 in
theorem cd_X9_read : Cond.code yX9_read cX9_read 2 (some .int) ∈ wG := wG_in (i := 2056) (by decide +kernel) rfl
set_option maxRecDepth 100000 in
theorem im_X9_read : lw_tbl[2054]? = some (.instanceMethod yX9_read) := by decide +kernel
set_option maxRecDepth 100000 in
theorem se_X9_read : lw_tbl[2055]? = some (.selects RX9 yX9_read yX9_read) := by decide +kernel
set_option maxRecDepth 100000 in
theorem cd_X9_readAt : Cond.code yX9_readAt cX9_readAt 3 (some .int) ∈ wG := wG_in (i := 1988) (by decide +kernel) rfl
set_option maxRecDepth 100000 in
theorem im_X9_readAt : lw_tbl[1987]? = some (.instanceMethod yX9_readAt) := by decide +kernel
set_option maxRecDepth 100000 in
theorem se_X9_readAt : lw_tbl[75]? = some (.selects RX9 yX9_readAt yX9_readAt) := by decide +kernel
set_option maxRecDepth 100000 in
theorem cd_X9_reading : Cond.code yX9_reading cX9_reading 5 (some .int) ∈ wG := wG_in (i := 1984) (by decide +kernel) rfl
set_option maxRecDepth 100000 in
theorem im_X9_reading : lw_tbl[1982]? = some (.instanceMethod yX9_reading) := by decide +kernel
set_option maxRecDepth 100000 in
theorem se_X9_reading : lw_tbl[1983]? = some (.selects RX9 yX9_reading yX9_reading) := by decide +kernel
set_option maxRecDepth 100000 in
theorem cd_X9_reads : Cond.code yX9_reads cX9_reads 1 none ∈ wG := wG_in (i := 2060) (by decide +kernel) rfl
set_option maxRecDepth 100000 in
theorem im_X9_reads : lw_tbl[2059]? = some (.instanceMethod yX9_reads) := by decide +kernel
set_option maxRecDepth 100000 in
theorem se_X9_reads : lw_tbl[81]? = some (.selects RX9 yX9_reads yX9_reads) := by decide +kernel
set_option maxRecDepth 100000 in
theorem cd_X9_refusal : Cond.code yX9_refusal cX9_refusal 2 (some .int) ∈ wG := wG_in (i := 2028) (by decide +kernel) rfl
set_option maxRecDepth 100000 in
theorem im_X9_refusal : lw_tbl[2026]? = some (.instanceMethod yX9_refusal) := by decide +kernel
set_option maxRecDepth 100000 in
theorem se_X9_refusal : lw_tbl[2027]? = some (.selects RX9 yX9_refusal yX9_refusal) := by decide +kernel
set_option maxRecDepth 100000 in
theorem cd_X9_refused : Cond.code yX9_refused cX9_refused 2 (some .int) ∈ wG := wG_in (i := 1753) (by decide +kernel) rfl
set_option maxRecDepth 100000 in
theorem im_X9_refused : lw_tbl[1752]? = some (.instanceMethod yX9_refused) := by decide +kernel
set_option maxRecDepth 100000 in
theorem se_X9_refused : lw_tbl[43]? = some (.selects RX9 yX9_refused yX9_refused) := by decide +kernel
set_option maxRecDepth 100000 in
theorem cd_X9_refusedItem : Cond.code yX9_refusedItem cX9_refusedItem 1 (some .int) ∈ wG := wG_in (i := 2100) (by decide +kernel) rfl
set_option maxRecDepth 100000 in
theorem im_X9_refusedItem : lw_tbl[2098]? = some (.instanceMethod yX9_refusedItem) := by decide +kernel
set_option maxRecDepth 100000 in
theorem se_X9_refusedItem : lw_tbl[2099]? = some (.selects RX9 yX9_refusedItem yX9_refusedItem) := by decide +kernel
set_option maxRecDepth 100000 in
theorem cd_X9_restore : Cond.code yX9_restore cX9_restore 1 (some .int) ∈ wG := wG_in (i := 2112) (by decide +kernel) rfl
set_option maxRecDepth 100000 in
theorem im_X9_restore : lw_tbl[2110]? = some (.instanceMethod yX9_restore) := by decide +kernel
set_option maxRecDepth 100000 in
theorem se_X9_restore : lw_tbl[2111]? = some (.selects RX9 yX9_restore yX9_restore) := by decide +kernel
set_option maxRecDepth 100000 in
theorem cd_X9_sign : Cond.code yX9_sign cX9_sign 4 (some .int) ∈ wG := wG_in (i := 1721) (by decide +kernel) rfl
set_option maxRecDepth 100000 in
theorem im_X9_sign : lw_tbl[1719]? = some (.instanceMethod yX9_sign) := by decide +kernel
set_option maxRecDepth 100000 in
theorem se_X9_sign : lw_tbl[1720]? = some (.selects RX9 yX9_sign yX9_sign) := by decide +kernel
set_option maxRecDepth 100000 in
theorem cd_X9_signs : Cond.code yX9_signs cX9_signs 3 (some .int) ∈ wG := wG_in (i := 1713) (by decide +kernel) rfl
set_option maxRecDepth 100000 in
theorem im_X9_signs : lw_tbl[1712]? = some (.instanceMethod yX9_signs) := by decide +kernel
set_option maxRecDepth 100000 in
theorem se_X9_signs : lw_tbl[37]? = some (.selects RX9 yX9_signs yX9_signs) := by decide +kernel
set_option maxRecDepth 100000 in
theorem cd_X9_sings : Cond.code yX9_sings cX9_sings 5 (some .int) ∈ wG := wG_in (i := 1826) (by decide +kernel) rfl
set_option maxRecDepth 100000 in
theorem im_X9_sings : lw_tbl[1825]? = some (.instanceMethod yX9_sings) := by decide +kernel
set_option maxRecDepth 100000 in
theorem se_X9_sings : lw_tbl[55]? = some (.selects RX9 yX9_sings yX9_sings) := by decide +kernel
set_option maxRecDepth 100000 in
theorem cd_X9_snapshot : Cond.code yX9_snapshot cX9_snapshot 1 (some .int) ∈ wG := wG_in (i := 2108) (by decide +kernel) rfl
set_option maxRecDepth 100000 in
theorem im_X9_snapshot : lw_tbl[2106]? = some (.instanceMethod yX9_snapshot) := by decide +kernel
set_option maxRecDepth 100000 in
theorem se_X9_snapshot : lw_tbl[2107]? = some (.selects RX9 yX9_snapshot yX9_snapshot) := by decide +kernel
set_option maxRecDepth 100000 in
theorem cd_X9_soonest : Cond.code yX9_soonest cX9_soonest 5 (some .int) ∈ wG := wG_in (i := 1992) (by decide +kernel) rfl
set_option maxRecDepth 100000 in
theorem im_X9_soonest : lw_tbl[1990]? = some (.instanceMethod yX9_soonest) := by decide +kernel
set_option maxRecDepth 100000 in
theorem se_X9_soonest : lw_tbl[1991]? = some (.selects RX9 yX9_soonest yX9_soonest) := by decide +kernel
set_option maxRecDepth 100000 in
theorem cd_X9_sound : Cond.code yX9_sound cX9_sound 5 (some .int) ∈ wG := wG_in (i := 1829) (by decide +kernel) rfl
set_option maxRecDepth 100000 in
theorem st_X9_sound : lw_tbl[1828]? = some (.static yX9_sound) := by decide +kernel
set_option maxRecDepth 100000 in
theorem cd_X9_sounds : Cond.code yX9_sounds cX9_sounds 2 none ∈ wG := wG_in (i := 1833) (by decide +kernel) rfl
set_option maxRecDepth 100000 in
theorem im_X9_sounds : lw_tbl[1832]? = some (.instanceMethod yX9_sounds) := by decide +kernel
set_option maxRecDepth 100000 in
theorem se_X9_sounds : lw_tbl[56]? = some (.selects RX9 yX9_sounds yX9_sounds) := by decide +kernel
set_option maxRecDepth 100000 in
theorem cd_X9_stands : Cond.code yX9_stands cX9_stands 5 (some .boolean) ∈ wG := wG_in (i := 1980) (by decide +kernel) rfl
set_option maxRecDepth 100000 in
theorem im_X9_stands : lw_tbl[1979]? = some (.instanceMethod yX9_stands) := by decide +kernel
set_option maxRecDepth 100000 in
theorem se_X9_stands : lw_tbl[74]? = some (.selects RX9 yX9_stands yX9_stands) := by decide +kernel
set_option maxRecDepth 100000 in
theorem cd_X9_starts : Cond.code yX9_starts cX9_starts 4 (some .boolean) ∈ wG := wG_in (i := 1952) (by decide +kernel) rfl
set_option maxRecDepth 100000 in
theorem st_X9_starts : lw_tbl[1951]? = some (.static yX9_starts) := by decide +kernel
set_option maxRecDepth 100000 in
theorem cd_X9_startsThat : Cond.code yX9_startsThat cX9_startsThat 3 (some .boolean) ∈ wG := wG_in (i := 1949) (by decide +kernel) rfl
set_option maxRecDepth 100000 in
theorem im_X9_startsThat : lw_tbl[1948]? = some (.instanceMethod yX9_startsThat) := by decide +kernel
set_option maxRecDepth 100000 in
theorem se_X9_startsThat : lw_tbl[70]? = some (.selects RX9 yX9_startsThat yX9_startsThat) := by decide +kernel
set_option maxRecDepth 100000 in
theorem cd_X9_steamOf : Cond.code yX9_steamOf cX9_steamOf 4 (some .int) ∈ wG := wG_in (i := 1764) (by decide +kernel) rfl
set_option maxRecDepth 100000 in
theorem st_X9_steamOf : lw_tbl[1763]? = some (.static yX9_steamOf) := by decide +kernel
set_option maxRecDepth 100000 in
theorem cd_X9_strip : Cond.code yX9_strip cX9_strip 2 (some .int) ∈ wG := wG_in (i := 2020) (by decide +kernel) rfl
set_option maxRecDepth 100000 in
theorem im_X9_strip : lw_tbl[2018]? = some (.instanceMethod yX9_strip) := by decide +kernel
set_option maxRecDepth 100000 in
theorem se_X9_strip : lw_tbl[2019]? = some (.selects RX9 yX9_strip yX9_strip) := by decide +kernel
set_option maxRecDepth 100000 in
theorem cd_X9_sumOf : Cond.code yX9_sumOf cX9_sumOf 4 (some .int) ∈ wG := wG_in (i := 2040) (by decide +kernel) rfl
set_option maxRecDepth 100000 in
theorem im_X9_sumOf : lw_tbl[2039]? = some (.instanceMethod yX9_sumOf) := by decide +kernel
set_option maxRecDepth 100000 in
theorem se_X9_sumOf : lw_tbl[80]? = some (.selects RX9 yX9_sumOf yX9_sumOf) := by decide +kernel
set_option maxRecDepth 100000 in
theorem cd_X9_takes : Cond.code yX9_takes cX9_takes 2 none ∈ wG := wG_in (i := 2076) (by decide +kernel) rfl
set_option maxRecDepth 100000 in
theorem im_X9_takes : lw_tbl[2075]? = some (.instanceMethod yX9_takes) := by decide +kernel
set_option maxRecDepth 100000 in
theorem se_X9_takes : lw_tbl[85]? = some (.selects RX9 yX9_takes yX9_takes) := by decide +kernel
set_option maxRecDepth 100000 in
theorem cd_X9_takesDigit : Cond.code yX9_takesDigit cX9_takesDigit 2 none ∈ wG := wG_in (i := 2072) (by decide +kernel) rfl
set_option maxRecDepth 100000 in
theorem im_X9_takesDigit : lw_tbl[2071]? = some (.instanceMethod yX9_takesDigit) := by decide +kernel
set_option maxRecDepth 100000 in
theorem se_X9_takesDigit : lw_tbl[84]? = some (.selects RX9 yX9_takesDigit yX9_takesDigit) := by decide +kernel
set_option maxRecDepth 100000 in
theorem cd_X9_takesWord : Cond.code yX9_takesWord cX9_takesWord 3 none ∈ wG := wG_in (i := 2080) (by decide +kernel) rfl
set_option maxRecDepth 100000 in
theorem im_X9_takesWord : lw_tbl[2079]? = some (.instanceMethod yX9_takesWord) := by decide +kernel
set_option maxRecDepth 100000 in
theorem se_X9_takesWord : lw_tbl[86]? = some (.selects RX9 yX9_takesWord yX9_takesWord) := by decide +kernel
set_option maxRecDepth 100000 in
theorem cd_X9_tells : Cond.code yX9_tells cX9_tells 4 (some .int) ∈ wG := wG_in (i := 1757) (by decide +kernel) rfl
set_option maxRecDepth 100000 in
theorem im_X9_tells : lw_tbl[1756]? = some (.instanceMethod yX9_tells) := by decide +kernel
set_option maxRecDepth 100000 in
theorem se_X9_tells : lw_tbl[44]? = some (.selects RX9 yX9_tells yX9_tells) := by decide +kernel
set_option maxRecDepth 100000 in
theorem cd_X9_text : Cond.code yX9_text cX9_text 3 (some .int) ∈ wG := wG_in (i := 2008) (by decide +kernel) rfl
set_option maxRecDepth 100000 in
theorem im_X9_text : lw_tbl[2006]? = some (.instanceMethod yX9_text) := by decide +kernel
set_option maxRecDepth 100000 in
theorem se_X9_text : lw_tbl[2007]? = some (.selects RX9 yX9_text yX9_text) := by decide +kernel
set_option maxRecDepth 100000 in
theorem cd_X9_thrown : Cond.code yX9_thrown cX9_thrown 1 (some .int) ∈ wG := wG_in (i := 1705) (by decide +kernel) rfl
set_option maxRecDepth 100000 in
theorem im_X9_thrown : lw_tbl[1703]? = some (.instanceMethod yX9_thrown) := by decide +kernel
set_option maxRecDepth 100000 in
theorem se_X9_thrown : lw_tbl[1704]? = some (.selects RX9 yX9_thrown yX9_thrown) := by decide +kernel
set_option maxRecDepth 100000 in
theorem cd_X9_toldIn : Cond.code yX9_toldIn cX9_toldIn 1 (some .int) ∈ wG := wG_in (i := 1912) (by decide +kernel) rfl
set_option maxRecDepth 100000 in
theorem st_X9_toldIn : lw_tbl[1911]? = some (.static yX9_toldIn) := by decide +kernel
set_option maxRecDepth 100000 in
theorem cd_X9_undo : Cond.code yX9_undo cX9_undo 1 (some .int) ∈ wG := wG_in (i := 2104) (by decide +kernel) rfl
set_option maxRecDepth 100000 in
theorem im_X9_undo : lw_tbl[2102]? = some (.instanceMethod yX9_undo) := by decide +kernel
set_option maxRecDepth 100000 in
theorem se_X9_undo : lw_tbl[2103]? = some (.selects RX9 yX9_undo yX9_undo) := by decide +kernel
set_option maxRecDepth 100000 in
theorem cd_X9_unsign : Cond.code yX9_unsign cX9_unsign 2 (some .int) ∈ wG := wG_in (i := 1772) (by decide +kernel) rfl
set_option maxRecDepth 100000 in
theorem im_X9_unsign : lw_tbl[1770]? = some (.instanceMethod yX9_unsign) := by decide +kernel
set_option maxRecDepth 100000 in
theorem se_X9_unsign : lw_tbl[1771]? = some (.selects RX9 yX9_unsign yX9_unsign) := by decide +kernel
set_option maxRecDepth 100000 in
theorem cd_X9_unsigns : Cond.code yX9_unsigns cX9_unsigns 2 (some .int) ∈ wG := wG_in (i := 1780) (by decide +kernel) rfl
set_option maxRecDepth 100000 in
theorem im_X9_unsigns : lw_tbl[1779]? = some (.instanceMethod yX9_unsigns) := by decide +kernel
set_option maxRecDepth 100000 in
theorem se_X9_unsigns : lw_tbl[48]? = some (.selects RX9 yX9_unsigns yX9_unsigns) := by decide +kernel
set_option maxRecDepth 100000 in
theorem cd_X9_way : Cond.code yX9_way cX9_way 1 (some .int) ∈ wG := wG_in (i := 1925) (by decide +kernel) rfl
set_option maxRecDepth 100000 in
theorem im_X9_way : lw_tbl[1923]? = some (.instanceMethod yX9_way) := by decide +kernel
set_option maxRecDepth 100000 in
theorem se_X9_way : lw_tbl[1924]? = some (.selects RX9 yX9_way yX9_way) := by decide +kernel
set_option maxRecDepth 100000 in
theorem cd_X9_wayAt : Cond.code yX9_wayAt cX9_wayAt 3 (some .int) ∈ wG := wG_in (i := 1909) (by decide +kernel) rfl
set_option maxRecDepth 100000 in
theorem im_X9_wayAt : lw_tbl[1908]? = some (.instanceMethod yX9_wayAt) := by decide +kernel
set_option maxRecDepth 100000 in
theorem se_X9_wayAt : lw_tbl[66]? = some (.selects RX9 yX9_wayAt yX9_wayAt) := by decide +kernel
set_option maxRecDepth 100000 in
theorem cd_X9_wayOf : Cond.code yX9_wayOf cX9_wayOf 2 (some .int) ∈ wG := wG_in (i := 1917) (by decide +kernel) rfl
set_option maxRecDepth 100000 in
theorem im_X9_wayOf : lw_tbl[1916]? = some (.instanceMethod yX9_wayOf) := by decide +kernel
set_option maxRecDepth 100000 in
theorem se_X9_wayOf : lw_tbl[67]? = some (.selects RX9 yX9_wayOf yX9_wayOf) := by decide +kernel
set_option maxRecDepth 100000 in
theorem cd_X9_ways : Cond.code yX9_ways cX9_ways 2 (some .int) ∈ wG := wG_in (i := 1968) (by decide +kernel) rfl
set_option maxRecDepth 100000 in
theorem im_X9_ways : lw_tbl[1966]? = some (.instanceMethod yX9_ways) := by decide +kernel
set_option maxRecDepth 100000 in
theorem se_X9_ways : lw_tbl[1967]? = some (.selects RX9 yX9_ways yX9_ways) := by decide +kernel
set_option maxRecDepth 100000 in
theorem cd_X9_whistle : Cond.code yX9_whistle cX9_whistle 2 (some .int) ∈ wG := wG_in (i := 1814) (by decide +kernel) rfl
set_option maxRecDepth 100000 in
theorem im_X9_whistle : lw_tbl[1812]? = some (.instanceMethod yX9_whistle) := by decide +kernel
set_option maxRecDepth 100000 in
theorem se_X9_whistle : lw_tbl[1813]? = some (.selects RX9 yX9_whistle yX9_whistle) := by decide +kernel
set_option maxRecDepth 100000 in
theorem cd_X9_whistles : Cond.code yX9_whistles cX9_whistles 2 (some .int) ∈ wG := wG_in (i := 1822) (by decide +kernel) rfl
set_option maxRecDepth 100000 in
theorem im_X9_whistles : lw_tbl[1821]? = some (.instanceMethod yX9_whistles) := by decide +kernel
set_option maxRecDepth 100000 in
theorem se_X9_whistles : lw_tbl[54]? = some (.selects RX9 yX9_whistles yX9_whistles) := by decide +kernel
set_option maxRecDepth 100000 in
theorem cd_X9_writes : Cond.code yX9_writes cX9_writes 2 none ∈ wG := wG_in (i := 2016) (by decide +kernel) rfl
set_option maxRecDepth 100000 in
theorem im_X9_writes : lw_tbl[2015]? = some (.instanceMethod yX9_writes) := by decide +kernel
set_option maxRecDepth 100000 in
theorem se_X9_writes : lw_tbl[78]? = some (.selects RX9 yX9_writes yX9_writes) := by decide +kernel
set_option maxRecDepth 100000 in
theorem cd_X9_writesNumber : Cond.code yX9_writesNumber cX9_writesNumber 2 none ∈ wG := wG_in (i := 2012) (by decide +kernel) rfl
set_option maxRecDepth 100000 in
theorem im_X9_writesNumber : lw_tbl[2011]? = some (.instanceMethod yX9_writesNumber) := by decide +kernel
set_option maxRecDepth 100000 in
theorem se_X9_writesNumber : lw_tbl[77]? = some (.selects RX9 yX9_writesNumber yX9_writesNumber) := by decide +kernel
set_option maxRecDepth 100000 in
theorem cd_J5_init_d00df : Cond.code yJ5_init_d00df cJ5_init_d00df 2 none ∈ wG := wG_in (i := 299) (by decide +kernel) rfl
set_option maxRecDepth 100000 in
theorem im_J5_init_d00df : lw_tbl[298]? = some (.instanceMethod yJ5_init_d00df) := by decide +kernel
set_option maxRecDepth 100000 in
theorem cd_J5_append_3fe6f : Cond.code yJ5_append_3fe6f cJ5_append_3fe6f 2 (some (.object "java/lang/AbstractStringBuilder")) ∈ wG := wG_in (i := 965) (by decide +kernel) rfl
set_option maxRecDepth 100000 in
theorem im_J5_append_3fe6f : lw_tbl[964]? = some (.instanceMethod yJ5_append_3fe6f) := by decide +kernel
set_option maxRecDepth 100000 in
theorem cd_J5_append_c97b9 : Cond.code yJ5_append_c97b9 cJ5_append_c97b9 4 (some (.object "java/lang/AbstractStringBuilder")) ∈ wG := wG_in (i := 816) (by decide +kernel) rfl
set_option maxRecDepth 100000 in
theorem im_J5_append_c97b9 : lw_tbl[815]? = some (.instanceMethod yJ5_append_c97b9) := by decide +kernel
set_option maxRecDepth 100000 in
theorem cd_J5_append_cf1ce : Cond.code yJ5_append_cf1ce cJ5_append_cf1ce 3 (some (.object "java/lang/AbstractStringBuilder")) ∈ wG := wG_in (i := 700) (by decide +kernel) rfl
set_option maxRecDepth 100000 in
theorem im_J5_append_cf1ce : lw_tbl[699]? = some (.instanceMethod yJ5_append_cf1ce) := by decide +kernel
set_option maxRecDepth 100000 in
theorem cd_J5_appendNull_278bc : Cond.code yJ5_appendNull_278bc cJ5_appendNull_278bc 3 (some (.object "java/lang/AbstractStringBuilder")) ∈ wG := wG_in (i := 704) (by decide +kernel) rfl
set_option maxRecDepth 100000 in
theorem im_J5_appendNull_278bc : lw_tbl[703]? = some (.instanceMethod yJ5_appendNull_278bc) := by decide +kernel
set_option maxRecDepth 100000 in
theorem cd_J5_charAt_5068e : Cond.code yJ5_charAt_5068e cJ5_charAt_5068e 5 (some .char) ∈ wG := wG_in (i := 1355) (by decide +kernel) rfl
set_option maxRecDepth 100000 in
theorem im_J5_charAt_5068e : lw_tbl[1354]? = some (.instanceMethod yJ5_charAt_5068e) := by decide +kernel
set_option maxRecDepth 100000 in
theorem cd_J5_ensureCapacityInternal_d00df : Cond.code yJ5_ensureCapacityInternal_d00df cJ5_ensureCapacityInternal_d00df 3 none ∈ wG := wG_in (i := 708) (by decide +kernel) rfl
set_option maxRecDepth 100000 in
theorem im_J5_ensureCapacityInternal_d00df : lw_tbl[707]? = some (.instanceMethod yJ5_ensureCapacityInternal_d00df) := by decide +kernel
set_option maxRecDepth 100000 in
theorem cd_J5_getValue_6d5f1 : Cond.code yJ5_getValue_6d5f1 cJ5_getValue_6d5f1 1 (some (.array .byte)) ∈ wG := wG_in (i := 852) (by decide +kernel) rfl
set_option maxRecDepth 100000 in
theorem im_J5_getValue_6d5f1 : lw_tbl[849]? = some (.instanceMethod yJ5_getValue_6d5f1) := by decide +kernel
set_option maxRecDepth 100000 in
theorem cd_J5_inflate_da8c8 : Cond.code yJ5_inflate_da8c8 cJ5_inflate_da8c8 2 none ∈ wG := wG_in (i := 788) (by decide +kernel) rfl
set_option maxRecDepth 100000 in
theorem im_J5_inflate_da8c8 : lw_tbl[787]? = some (.instanceMethod yJ5_inflate_da8c8) := by decide +kernel
set_option maxRecDepth 100000 in
theorem cd_J5_inflateIfNeededFor_a7421 : Cond.code yJ5_inflateIfNeededFor_a7421 cJ5_inflateIfNeededFor_a7421 2 none ∈ wG := wG_in (i := 783) (by decide +kernel) rfl
set_option maxRecDepth 100000 in
theorem im_J5_inflateIfNeededFor_a7421 : lw_tbl[782]? = some (.instanceMethod yJ5_inflateIfNeededFor_a7421) := by decide +kernel
set_option maxRecDepth 100000 in
theorem cd_J5_isLatin1_aae02 : Cond.code yJ5_isLatin1_aae02 cJ5_isLatin1_aae02 1 (some .boolean) ∈ wG := wG_in (i := 740) (by decide +kernel) rfl
set_option maxRecDepth 100000 in
theorem im_J5_isLatin1_aae02 : lw_tbl[737]? = some (.instanceMethod yJ5_isLatin1_aae02) := by decide +kernel
set_option maxRecDepth 100000 in
theorem cd_J5_length_8abf5 : Cond.code yJ5_length_8abf5 cJ5_length_8abf5 1 (some .int) ∈ wG := wG_in (i := 860) (by decide +kernel) rfl
set_option maxRecDepth 100000 in
theorem im_J5_length_8abf5 : lw_tbl[854]? = some (.instanceMethod yJ5_length_8abf5) := by decide +kernel
set_option maxRecDepth 100000 in
theorem cd_J5_newCapacity_0f7a4 : Cond.code yJ5_newCapacity_0f7a4 cJ5_newCapacity_0f7a4 6 (some .int) ∈ wG := wG_in (i := 712) (by decide +kernel) rfl
set_option maxRecDepth 100000 in
theorem im_J5_newCapacity_0f7a4 : lw_tbl[711]? = some (.instanceMethod yJ5_newCapacity_0f7a4) := by decide +kernel
set_option maxRecDepth 100000 in
theorem cd_J5_putStringAt_47b60 : Cond.code yJ5_putStringAt_47b60 cJ5_putStringAt_47b60 3 none ∈ wG := wG_in (i := 779) (by decide +kernel) rfl
set_option maxRecDepth 100000 in
theorem im_J5_putStringAt_47b60 : lw_tbl[778]? = some (.instanceMethod yJ5_putStringAt_47b60) := by decide +kernel
set_option maxRecDepth 100000 in
theorem cd_J5_setLength_d00df : Cond.code yJ5_setLength_d00df cJ5_setLength_d00df 2 none ∈ wG := wG_in (i := 685) (by decide +kernel) rfl
set_option maxRecDepth 100000 in
theorem im_J5_setLength_d00df : lw_tbl[684]? = some (.instanceMethod yJ5_setLength_d00df) := by decide +kernel
set_option maxRecDepth 100000 in
theorem cd_Jx00060_init_d00df : Cond.code yJx00060_init_d00df cJx00060_init_d00df 2 none ∈ wG := wG_in (i := 936) (by decide +kernel) rfl
set_option maxRecDepth 100000 in
theorem im_Jx00060_init_d00df : lw_tbl[935]? = some (.instanceMethod yJx00060_init_d00df) := by decide +kernel
set_option maxRecDepth 100000 in
theorem cd_J6_bitCount_0f7a4 : Cond.code yJ6_bitCount_0f7a4 cJ6_bitCount_0f7a4 1 (some .int) ∈ wG := wG_in (i := 1025) (by decide +kernel) rfl
set_option maxRecDepth 100000 in
theorem st_J6_bitCount_0f7a4 : lw_tbl[1024]? = some (.static yJ6_bitCount_0f7a4) := by decide +kernel
set_option maxRecDepth 100000 in
theorem cd_J6_getChars_ba4f3 : Cond.code yJ6_getChars_ba4f3 cJ6_getChars_ba4f3 7 (some .int) ∈ wG := wG_in (i := 822) (by decide +kernel) rfl
set_option maxRecDepth 100000 in
theorem st_J6_getChars_ba4f3 : lw_tbl[821]? = some (.static yJ6_getChars_ba4f3) := by decide +kernel
set_option maxRecDepth 100000 in
theorem cd_J6_stringSize_0f7a4 : Cond.code yJ6_stringSize_0f7a4 cJ6_stringSize_0f7a4 4 (some .int) ∈ wG := wG_in (i := 819) (by decide +kernel) rfl
set_option maxRecDepth 100000 in
theorem st_J6_stringSize_0f7a4 : lw_tbl[818]? = some (.static yJ6_stringSize_0f7a4) := by decide +kernel
set_option maxRecDepth 100000 in
theorem cd_J9_max_7cf53 : Cond.code yJ9_max_7cf53 cJ9_max_7cf53 2 (some .int) ∈ wG := wG_in (i := 165) (by decide +kernel) rfl
set_option maxRecDepth 100000 in
theorem st_J9_max_7cf53 : lw_tbl[164]? = some (.static yJ9_max_7cf53) := by decide +kernel
set_option maxRecDepth 100000 in
theorem cd_J9_min_7cf53 : Cond.code yJ9_min_7cf53 cJ9_min_7cf53 2 (some .int) ∈ wG := wG_in (i := 162) (by decide +kernel) rfl
set_option maxRecDepth 100000 in
theorem st_J9_min_7cf53 : lw_tbl[161]? = some (.static yJ9_min_7cf53) := by decide +kernel
set_option maxRecDepth 100000 in
theorem cd_J0_init_db425 : Cond.code yJ0_init_db425 cJ0_init_db425 5 none ∈ wG := wG_in (i := 846) (by decide +kernel) rfl
set_option maxRecDepth 100000 in
theorem im_J0_init_db425 : lw_tbl[845]? = some (.instanceMethod yJ0_init_db425) := by decide +kernel
set_option maxRecDepth 100000 in
theorem cd_J0_init_81219 : Cond.code yJ0_init_81219 cJ0_init_81219 2 none ∈ wG := wG_in (i := 843) (by decide +kernel) rfl
set_option maxRecDepth 100000 in
theorem im_J0_init_81219 : lw_tbl[842]? = some (.instanceMethod yJ0_init_81219) := by decide +kernel
set_option maxRecDepth 100000 in
theorem cd_J0_charAt_5068e : Cond.code yJ0_charAt_5068e cJ0_charAt_5068e 2 (some .char) ∈ wG := wG_in (i := 1502) (by decide +kernel) rfl
set_option maxRecDepth 100000 in
theorem im_J0_charAt_5068e : lw_tbl[1500]? = some (.instanceMethod yJ0_charAt_5068e) := by decide +kernel
set_option maxRecDepth 100000 in
theorem se_J0_charAt_5068e : lw_tbl[1501]? = some (.selects RJ0 yJ0_charAt_5068e yJ0_charAt_5068e) := by decide +kernel
set_option maxRecDepth 100000 in
theorem cd_J0_checkBoundsBeginEnd_23922 : Cond.code yJ0_checkBoundsBeginEnd_23922 cJ0_checkBoundsBeginEnd_23922 3 none ∈ wG := wG_in (i := 752) (by decide +kernel) rfl
set_option maxRecDepth 100000 in
theorem st_J0_checkBoundsBeginEnd_23922 : lw_tbl[751]? = some (.static yJ0_checkBoundsBeginEnd_23922) := by decide +kernel
set_option maxRecDepth 100000 in
theorem cd_J0_checkBoundsOffCount_cabcc : Cond.code yJ0_checkBoundsOffCount_cabcc cJ0_checkBoundsOffCount_cabcc 3 (some .int) ∈ wG := wG_in (i := 800) (by decide +kernel) rfl
set_option maxRecDepth 100000 in
theorem st_J0_checkBoundsOffCount_cabcc : lw_tbl[799]? = some (.static yJ0_checkBoundsOffCount_cabcc) := by decide +kernel
set_option maxRecDepth 100000 in
theorem cd_J0_checkIndex_df160 : Cond.code yJ0_checkIndex_df160 cJ0_checkIndex_df160 2 none ∈ wG := wG_in (i := 977) (by decide +kernel) rfl
set_option maxRecDepth 100000 in
theorem st_J0_checkIndex_df160 : lw_tbl[976]? = some (.static yJ0_checkIndex_df160) := by decide +kernel
set_option maxRecDepth 100000 in
theorem cd_J0_coder_7d493 : Cond.code yJ0_coder_7d493 cJ0_coder_7d493 1 (some .byte) ∈ wG := wG_in (i := 774) (by decide +kernel) rfl
set_option maxRecDepth 100000 in
theorem im_J0_coder_7d493 : lw_tbl[772]? = some (.instanceMethod yJ0_coder_7d493) := by decide +kernel
set_option maxRecDepth 100000 in
theorem se_J0_coder_7d493 : lw_tbl[773]? = some (.selects RJ0 yJ0_coder_7d493 yJ0_coder_7d493) := by decide +kernel
set_option maxRecDepth 100000 in
theorem cd_J0_getBytes_840e7 : Cond.code yJ0_getBytes_840e7 cJ0_getBytes_840e7 4 none ∈ wG := wG_in (i := 807) (by decide +kernel) rfl
set_option maxRecDepth 100000 in
theorem im_J0_getBytes_840e7 : lw_tbl[805]? = some (.instanceMethod yJ0_getBytes_840e7) := by decide +kernel
set_option maxRecDepth 100000 in
theorem se_J0_getBytes_840e7 : lw_tbl[806]? = some (.selects RJ0 yJ0_getBytes_840e7 yJ0_getBytes_840e7) := by decide +kernel
set_option maxRecDepth 100000 in
theorem cd_J0_isEmpty_aae02 : Cond.code yJ0_isEmpty_aae02 cJ0_isEmpty_aae02 1 (some .boolean) ∈ wG := wG_in (i := 1497) (by decide +kernel) rfl
set_option maxRecDepth 100000 in
theorem im_J0_isEmpty_aae02 : lw_tbl[1495]? = some (.instanceMethod yJ0_isEmpty_aae02) := by decide +kernel
set_option maxRecDepth 100000 in
theorem se_J0_isEmpty_aae02 : lw_tbl[1496]? = some (.selects RJ0 yJ0_isEmpty_aae02 yJ0_isEmpty_aae02) := by decide +kernel
set_option maxRecDepth 100000 in
theorem cd_J0_isLatin1_aae02 : Cond.code yJ0_isLatin1_aae02 cJ0_isLatin1_aae02 1 (some .boolean) ∈ wG := wG_in (i := 1506) (by decide +kernel) rfl
set_option maxRecDepth 100000 in
theorem im_J0_isLatin1_aae02 : lw_tbl[1504]? = some (.instanceMethod yJ0_isLatin1_aae02) := by decide +kernel
set_option maxRecDepth 100000 in
theorem se_J0_isLatin1_aae02 : lw_tbl[1505]? = some (.selects RJ0 yJ0_isLatin1_aae02 yJ0_isLatin1_aae02) := by decide +kernel
set_option maxRecDepth 100000 in
theorem cd_J0_length_8abf5 : Cond.code yJ0_length_8abf5 cJ0_length_8abf5 1 (some .int) ∈ wG := wG_in (i := 770) (by decide +kernel) rfl
set_option maxRecDepth 100000 in
theorem im_J0_length_8abf5 : lw_tbl[768]? = some (.instanceMethod yJ0_length_8abf5) := by decide +kernel
set_option maxRecDepth 100000 in
theorem se_J0_length_8abf5 : lw_tbl[769]? = some (.selects RJ0 yJ0_length_8abf5 yJ0_length_8abf5) := by decide +kernel
set_option maxRecDepth 100000 in
theorem cd_J4_init_da8c8 : Cond.code yJ4_init_da8c8 cJ4_init_da8c8 1 none ∈ wG := wG_in (i := 296) (by decide +kernel) rfl
set_option maxRecDepth 100000 in
theorem im_J4_init_da8c8 : lw_tbl[295]? = some (.instanceMethod yJ4_init_da8c8) := by decide +kernel
set_option maxRecDepth 100000 in
theorem cd_J4_append_cf468 : Cond.code yJ4_append_cf468 cJ4_append_cf468 2 (some (.object "java/lang/StringBuilder")) ∈ wG := wG_in (i := 962) (by decide +kernel) rfl
set_option maxRecDepth 100000 in
theorem im_J4_append_cf468 : lw_tbl[960]? = some (.instanceMethod yJ4_append_cf468) := by decide +kernel
set_option maxRecDepth 100000 in
theorem se_J4_append_cf468 : lw_tbl[961]? = some (.selects RJ4 yJ4_append_cf468 yJ4_append_cf468) := by decide +kernel
set_option maxRecDepth 100000 in
theorem cd_J4_append_bf812 : Cond.code yJ4_append_bf812 cJ4_append_bf812 2 (some (.object "java/lang/StringBuilder")) ∈ wG := wG_in (i := 813) (by decide +kernel) rfl
set_option maxRecDepth 100000 in
theorem im_J4_append_bf812 : lw_tbl[811]? = some (.instanceMethod yJ4_append_bf812) := by decide +kernel
set_option maxRecDepth 100000 in
theorem se_J4_append_bf812 : lw_tbl[812]? = some (.selects RJ4 yJ4_append_bf812 yJ4_append_bf812) := by decide +kernel
set_option maxRecDepth 100000 in
theorem cd_J4_append_15ec4 : Cond.code yJ4_append_15ec4 cJ4_append_15ec4 2 (some (.object "java/lang/StringBuilder")) ∈ wG := wG_in (i := 697) (by decide +kernel) rfl
set_option maxRecDepth 100000 in
theorem im_J4_append_15ec4 : lw_tbl[695]? = some (.instanceMethod yJ4_append_15ec4) := by decide +kernel
set_option maxRecDepth 100000 in
theorem se_J4_append_15ec4 : lw_tbl[696]? = some (.selects RJ4 yJ4_append_15ec4 yJ4_append_15ec4) := by decide +kernel
set_option maxRecDepth 100000 in
theorem cd_J4_charAt_5068e : Cond.code yJ4_charAt_5068e cJ4_charAt_5068e 2 (some .char) ∈ wG := wG_in (i := 1352) (by decide +kernel) rfl
set_option maxRecDepth 100000 in
theorem im_J4_charAt_5068e : lw_tbl[1350]? = some (.instanceMethod yJ4_charAt_5068e) := by decide +kernel
set_option maxRecDepth 100000 in
theorem se_J4_charAt_5068e : lw_tbl[1351]? = some (.selects RJ4 yJ4_charAt_5068e yJ4_charAt_5068e) := by decide +kernel
set_option maxRecDepth 100000 in
theorem cd_J4_length_8abf5 : Cond.code yJ4_length_8abf5 cJ4_length_8abf5 1 (some .int) ∈ wG := wG_in (i := 858) (by decide +kernel) rfl
set_option maxRecDepth 100000 in
theorem im_J4_length_8abf5 : lw_tbl[857]? = some (.instanceMethod yJ4_length_8abf5) := by decide +kernel
set_option maxRecDepth 100000 in
theorem se_J4_length_8abf5 : lw_tbl[2126]? = some (.selects RJ4 yJ4_length_8abf5 yJ4_length_8abf5) := by decide +kernel
set_option maxRecDepth 100000 in
theorem cd_J4_setLength_d00df : Cond.code yJ4_setLength_d00df cJ4_setLength_d00df 2 none ∈ wG := wG_in (i := 682) (by decide +kernel) rfl
set_option maxRecDepth 100000 in
theorem im_J4_setLength_d00df : lw_tbl[680]? = some (.instanceMethod yJ4_setLength_d00df) := by decide +kernel
set_option maxRecDepth 100000 in
theorem se_J4_setLength_d00df : lw_tbl[681]? = some (.selects RJ4 yJ4_setLength_d00df yJ4_setLength_d00df) := by decide +kernel
set_option maxRecDepth 100000 in
theorem cd_J4_toString_0e30d : Cond.code yJ4_toString_0e30d cJ4_toString_0e30d 1 (some (.object "java/lang/String")) ∈ wG := wG_in (i := 838) (by decide +kernel) rfl
set_option maxRecDepth 100000 in
theorem im_J4_toString_0e30d : lw_tbl[836]? = some (.instanceMethod yJ4_toString_0e30d) := by decide +kernel
set_option maxRecDepth 100000 in
theorem se_J4_toString_0e30d : lw_tbl[837]? = some (.selects RJ4 yJ4_toString_0e30d yJ4_toString_0e30d) := by decide +kernel
set_option maxRecDepth 100000 in
theorem cd_Jx7c733_init_d00df : Cond.code yJx7c733_init_d00df cJx7c733_init_d00df 2 none ∈ wG := wG_in (i := 690) (by decide +kernel) rfl
set_option maxRecDepth 100000 in
theorem im_Jx7c733_init_d00df : lw_tbl[689]? = some (.instanceMethod yJx7c733_init_d00df) := by decide +kernel
set_option maxRecDepth 100000 in
theorem cd_J1_canEncode_fc78d : Cond.code yJ1_canEncode_fc78d cJ1_canEncode_fc78d 1 (some .boolean) ∈ wG := wG_in (i := 968) (by decide +kernel) rfl
set_option maxRecDepth 100000 in
theorem st_J1_canEncode_fc78d : lw_tbl[967]? = some (.static yJ1_canEncode_fc78d) := by decide +kernel
set_option maxRecDepth 100000 in
theorem cd_J1_charAt_3b067 : Cond.code yJ1_charAt_3b067 cJ1_charAt_3b067 2 (some .char) ∈ wG := wG_in (i := 1509) (by decide +kernel) rfl
set_option maxRecDepth 100000 in
theorem st_J1_charAt_3b067 : lw_tbl[1508]? = some (.static yJ1_charAt_3b067) := by decide +kernel
set_option maxRecDepth 100000 in
theorem cd_J1_fillNull_b72d1 : Cond.code yJ1_fillNull_b72d1 cJ1_fillNull_b72d1 3 none ∈ wG := wG_in (i := 913) (by decide +kernel) rfl
set_option maxRecDepth 100000 in
theorem st_J1_fillNull_b72d1 : lw_tbl[912]? = some (.static yJ1_fillNull_b72d1) := by decide +kernel
set_option maxRecDepth 100000 in
theorem cd_J1_inflate_0e8fd : Cond.code yJ1_inflate_0e8fd cJ1_inflate_0e8fd 5 none ∈ wG := wG_in (i := 791) (by decide +kernel) rfl
set_option maxRecDepth 100000 in
theorem st_J1_inflate_0e8fd : lw_tbl[790]? = some (.static yJ1_inflate_0e8fd) := by decide +kernel
set_option maxRecDepth 100000 in
theorem cd_J2_charAt_3b067 : Cond.code yJ2_charAt_3b067 cJ2_charAt_3b067 2 (some .char) ∈ wG := wG_in (i := 1513) (by decide +kernel) rfl
set_option maxRecDepth 100000 in
theorem st_J2_charAt_3b067 : lw_tbl[1512]? = some (.static yJ2_charAt_3b067) := by decide +kernel
set_option maxRecDepth 100000 in
theorem cd_J2_checkBoundsBeginEnd_d044e : Cond.code yJ2_checkBoundsBeginEnd_d044e cJ2_checkBoundsBeginEnd_d044e 3 none ∈ wG := wG_in (i := 746) (by decide +kernel) rfl
set_option maxRecDepth 100000 in
theorem st_J2_checkBoundsBeginEnd_d044e : lw_tbl[745]? = some (.static yJ2_checkBoundsBeginEnd_d044e) := by decide +kernel
set_option maxRecDepth 100000 in
theorem cd_J2_checkBoundsOffCount_d044e : Cond.code yJ2_checkBoundsOffCount_d044e cJ2_checkBoundsOffCount_d044e 3 none ∈ wG := wG_in (i := 797) (by decide +kernel) rfl
set_option maxRecDepth 100000 in
theorem st_J2_checkBoundsOffCount_d044e : lw_tbl[796]? = some (.static yJ2_checkBoundsOffCount_d044e) := by decide +kernel
set_option maxRecDepth 100000 in
theorem cd_J2_checkIndex_2214a : Cond.code yJ2_checkIndex_2214a cJ2_checkIndex_2214a 2 none ∈ wG := wG_in (i := 974) (by decide +kernel) rfl
set_option maxRecDepth 100000 in
theorem st_J2_checkIndex_2214a : lw_tbl[973]? = some (.static yJ2_checkIndex_2214a) := by decide +kernel
set_option maxRecDepth 100000 in
theorem cd_J2_coderFromArrayLen_85cad : Cond.code yJ2_coderFromArrayLen_85cad cJ2_coderFromArrayLen_85cad 2 (some .byte) ∈ wG := wG_in (i := 891) (by decide +kernel) rfl
set_option maxRecDepth 100000 in
theorem st_J2_coderFromArrayLen_85cad : lw_tbl[890]? = some (.static yJ2_coderFromArrayLen_85cad) := by decide +kernel
set_option maxRecDepth 100000 in
theorem cd_J2_compress_39247 : Cond.code yJ2_compress_39247 cJ2_compress_39247 6 (some (.array .byte)) ∈ wG := wG_in (i := 881) (by decide +kernel) rfl
set_option maxRecDepth 100000 in
theorem st_J2_compress_39247 : lw_tbl[880]? = some (.static yJ2_compress_39247) := by decide +kernel
set_option maxRecDepth 100000 in
theorem cd_J2_compress_5af95 : Cond.code yJ2_compress_5af95 cJ2_compress_5af95 7 (some .int) ∈ wG := wG_in (i := 884) (by decide +kernel) rfl
set_option maxRecDepth 100000 in
theorem st_J2_compress_5af95 : lw_tbl[883]? = some (.static yJ2_compress_5af95) := by decide +kernel
set_option maxRecDepth 100000 in
theorem cd_J2_fillNull_b72d1 : Cond.code yJ2_fillNull_b72d1 cJ2_fillNull_b72d1 3 none ∈ wG := wG_in (i := 948) (by decide +kernel) rfl
set_option maxRecDepth 100000 in
theorem st_J2_fillNull_b72d1 : lw_tbl[947]? = some (.static yJ2_fillNull_b72d1) := by decide +kernel
set_option maxRecDepth 100000 in
theorem cd_J2_getChar_3b067 : Cond.code yJ2_getChar_3b067 cJ2_getChar_3b067 2 (some .char) ∈ wG := wG_in (i := 887) (by decide +kernel) rfl
set_option maxRecDepth 100000 in
theorem st_J2_getChar_3b067 : lw_tbl[886]? = some (.static yJ2_getChar_3b067) := by decide +kernel
set_option maxRecDepth 100000 in
theorem cd_J2_getChars_46870 : Cond.code yJ2_getChars_46870 cJ2_getChars_46870 5 (some .int) ∈ wG := wG_in (i := 829) (by decide +kernel) rfl
set_option maxRecDepth 100000 in
theorem st_J2_getChars_46870 : lw_tbl[828]? = some (.static yJ2_getChars_46870) := by decide +kernel
set_option maxRecDepth 100000 in
theorem cd_J2_getChars_ba4f3 : Cond.code yJ2_getChars_ba4f3 cJ2_getChars_ba4f3 7 (some .int) ∈ wG := wG_in (i := 832) (by decide +kernel) rfl
set_option maxRecDepth 100000 in
theorem st_J2_getChars_ba4f3 : lw_tbl[831]? = some (.static yJ2_getChars_ba4f3) := by decide +kernel
set_option maxRecDepth 100000 in
theorem cd_J2_inflate_0e8fd : Cond.code yJ2_inflate_0e8fd cJ2_inflate_0e8fd 6 none ∈ wG := wG_in (i := 794) (by decide +kernel) rfl
set_option maxRecDepth 100000 in
theorem st_J2_inflate_0e8fd : lw_tbl[793]? = some (.static yJ2_inflate_0e8fd) := by decide +kernel
set_option maxRecDepth 100000 in
theorem cd_J2_length_9d52b : Cond.code yJ2_length_9d52b cJ2_length_9d52b 1 (some .int) ∈ wG := wG_in (i := 749) (by decide +kernel) rfl
set_option maxRecDepth 100000 in
theorem st_J2_length_9d52b : lw_tbl[748]? = some (.static yJ2_length_9d52b) := by decide +kernel
set_option maxRecDepth 100000 in
theorem cd_J2_newBytesFor_77867 : Cond.code yJ2_newBytesFor_77867 cJ2_newBytesFor_77867 1 (some (.array .byte)) ∈ wG := wG_in (i := 305) (by decide +kernel) rfl
set_option maxRecDepth 100000 in
theorem st_J2_newBytesFor_77867 : lw_tbl[304]? = some (.static yJ2_newBytesFor_77867) := by decide +kernel
set_option maxRecDepth 100000 in
theorem cd_J2_newBytesLength_0f7a4 : Cond.code yJ2_newBytesLength_0f7a4 cJ2_newBytesLength_0f7a4 1 (some .int) ∈ wG := wG_in (i := 308) (by decide +kernel) rfl
set_option maxRecDepth 100000 in
theorem st_J2_newBytesLength_0f7a4 : lw_tbl[307]? = some (.static yJ2_newBytesLength_0f7a4) := by decide +kernel
set_option maxRecDepth 100000 in
theorem cd_J2_putChar_b72d1 : Cond.code yJ2_putChar_b72d1 cJ2_putChar_b72d1 3 none ∈ wG := wG_in (i := 760) (by decide +kernel) rfl
set_option maxRecDepth 100000 in
theorem st_J2_putChar_b72d1 : lw_tbl[759]? = some (.static yJ2_putChar_b72d1) := by decide +kernel
set_option maxRecDepth 100000 in
theorem cd_J2_putCharSB_b72d1 : Cond.code yJ2_putCharSB_b72d1 cJ2_putCharSB_b72d1 3 none ∈ wG := wG_in (i := 971) (by decide +kernel) rfl
set_option maxRecDepth 100000 in
theorem st_J2_putCharSB_b72d1 : lw_tbl[970]? = some (.static yJ2_putCharSB_b72d1) := by decide +kernel
set_option maxRecDepth 100000 in
theorem cd_J2_putCharsAt_cd4e5 : Cond.code yJ2_putCharsAt_cd4e5 cJ2_putCharsAt_cd4e5 7 (some .int) ∈ wG := wG_in (i := 743) (by decide +kernel) rfl
set_option maxRecDepth 100000 in
theorem st_J2_putCharsAt_cd4e5 : lw_tbl[742]? = some (.static yJ2_putCharsAt_cd4e5) := by decide +kernel
set_option maxRecDepth 100000 in
theorem cd_J7_checkLength_df160 : Cond.code yJ7_checkLength_df160 cJ7_checkLength_df160 2 none ∈ wG := wG_in (i := 870) (by decide +kernel) rfl
set_option maxRecDepth 100000 in
theorem st_J7_checkLength_df160 : lw_tbl[869]? = some (.static yJ7_checkLength_df160) := by decide +kernel
set_option maxRecDepth 100000 in
theorem cd_J7_copyOf_9075b : Cond.code yJ7_copyOf_9075b cJ7_copyOf_9075b 3 (some (.array .byte)) ∈ wG := wG_in (i := 724) (by decide +kernel) rfl
set_option maxRecDepth 100000 in
theorem st_J7_copyOf_9075b : lw_tbl[723]? = some (.static yJ7_copyOf_9075b) := by decide +kernel
set_option maxRecDepth 100000 in
theorem cd_J7_copyOfRange_39247 : Cond.code yJ7_copyOfRange_39247 cJ7_copyOfRange_39247 3 (some (.array .byte)) ∈ wG := wG_in (i := 864) (by decide +kernel) rfl
set_option maxRecDepth 100000 in
theorem st_J7_copyOfRange_39247 : lw_tbl[863]? = some (.static yJ7_copyOfRange_39247) := by decide +kernel
set_option maxRecDepth 100000 in
theorem cd_J7_copyOfRangeByte_39247 : Cond.code yJ7_copyOfRangeByte_39247 cJ7_copyOfRangeByte_39247 5 (some (.array .byte)) ∈ wG := wG_in (i := 867) (by decide +kernel) rfl
set_option maxRecDepth 100000 in
theorem st_J7_copyOfRangeByte_39247 : lw_tbl[866]? = some (.static yJ7_copyOfRangeByte_39247) := by decide +kernel
set_option maxRecDepth 100000 in
theorem cd_J7_fill_eb02e : Cond.code yJ7_fill_eb02e cJ7_fill_eb02e 5 none ∈ wG := wG_in (i := 916) (by decide +kernel) rfl
set_option maxRecDepth 100000 in
theorem st_J7_fill_eb02e : lw_tbl[915]? = some (.static yJ7_fill_eb02e) := by decide +kernel
set_option maxRecDepth 100000 in
theorem cd_J7_rangeCheck_23922 : Cond.code yJ7_rangeCheck_23922 cJ7_rangeCheck_23922 3 none ∈ wG := wG_in (i := 919) (by decide +kernel) rfl
set_option maxRecDepth 100000 in
theorem st_J7_rangeCheck_23922 : lw_tbl[918]? = some (.static yJ7_rangeCheck_23922) := by decide +kernel
set_option maxRecDepth 100000 in
theorem cd_J8_hugeLength_7cf53 : Cond.code yJ8_hugeLength_7cf53 cJ8_hugeLength_7cf53 3 (some .int) ∈ wG := wG_in (i := 720) (by decide +kernel) rfl
set_option maxRecDepth 100000 in
theorem st_J8_hugeLength_7cf53 : lw_tbl[719]? = some (.static yJ8_hugeLength_7cf53) := by decide +kernel
set_option maxRecDepth 100000 in
theorem cd_J8_newLength_cabcc : Cond.code yJ8_newLength_cabcc cJ8_newLength_cabcc 4 (some .int) ∈ wG := wG_in (i := 715) (by decide +kernel) rfl
set_option maxRecDepth 100000 in
theorem st_J8_newLength_cabcc : lw_tbl[714]? = some (.static yJ8_newLength_cabcc) := by decide +kernel
set_option maxRecDepth 100000 in
theorem cd_J3_checkFromIndexSize_8c36e : Cond.code yJ3_checkFromIndexSize_8c36e cJ3_checkFromIndexSize_8c36e 4 (some .int) ∈ wG := wG_in (i := 803) (by decide +kernel) rfl
set_option maxRecDepth 100000 in
theorem st_J3_checkFromIndexSize_8c36e : lw_tbl[802]? = some (.static yJ3_checkFromIndexSize_8c36e) := by decide +kernel
set_option maxRecDepth 100000 in
theorem cd_J3_checkFromToIndex_8c36e : Cond.code yJ3_checkFromToIndex_8c36e cJ3_checkFromToIndex_8c36e 4 (some .int) ∈ wG := wG_in (i := 757) (by decide +kernel) rfl
set_option maxRecDepth 100000 in
theorem st_J3_checkFromToIndex_8c36e : lw_tbl[756]? = some (.static yJ3_checkFromToIndex_8c36e) := by decide +kernel
set_option maxRecDepth 100000 in
theorem cd_J3_checkIndex_8e157 : Cond.code yJ3_checkIndex_8e157 cJ3_checkIndex_8e157 3 (some .int) ∈ wG := wG_in (i := 980) (by decide +kernel) rfl
set_option maxRecDepth 100000 in
theorem st_J3_checkIndex_8e157 : lw_tbl[979]? = some (.static yJ3_checkIndex_8e157) := by decide +kernel
set_option maxRecDepth 100000 in
theorem wc_X8_11 : wCall RX8 11 yX5_init cX5_init 1 none 0 := ⟨wG_in (i := 134) (by decide +kernel) rfl, cd_X5_init, in_RX5, by decide +kernel, by decide +kernel, by decide⟩
set_option maxRecDepth 100000 in
theorem wc_X8_28 : wCall RX8 28 yX0_init cX0_init 2 none 0 := ⟨wG_in (i := 230) (by decide +kernel) rfl, cd_X0_init, in_RX0, by decide +kernel, by decide +kernel, by decide⟩
set_option maxRecDepth 100000 in
theorem wc_X8_49 : wCall RX8 49 yJ4_init_da8c8 cJ4_init_da8c8 1 none 0 := ⟨wG_in (i := 294) (by decide +kernel) rfl, cd_J4_init_da8c8, in_RJ4, by decide +kernel, by decide +kernel, by decide⟩
set_option maxRecDepth 100000 in
theorem wc_X8_71 : wCall RX8 71 yX3_number cX3_number 1 (some .int) 1 := ⟨wG_in (i := 366) (by decide +kernel) rfl, cd_X3_number, in_RX3, by decide +kernel, by decide +kernel, by decide⟩
set_option maxRecDepth 100000 in
theorem wc_X8_77 : wCall RX8 77 yX5_reset cX5_reset 1 none 0 := ⟨wG_in (i := 373) (by decide +kernel) rfl, cd_X5_reset, in_RX5, by decide +kernel, by decide +kernel, by decide⟩
set_option maxRecDepth 100000 in
theorem wc_X8_80 : wCall RX8 80 yX0_forget cX0_forget 1 none 0 := ⟨wG_in (i := 374) (by decide +kernel) rfl, cd_X0_forget, in_RX0, by decide +kernel, by decide +kernel, by decide⟩
set_option maxRecDepth 100000 in
theorem wc_X8_83 : wCall RX8 83 yX8_faultOfSign cX8_faultOfSign 5 (some .int) 3 := ⟨wG_in (i := 999) (by decide +kernel) rfl, cd_X8_faultOfSign, in_RX8, by decide +kernel, by decide +kernel, by decide⟩
set_option maxRecDepth 100000 in
theorem wc_X8_87 : wCall RX8 87 yX8_startChange cX8_startChange 2 none 1 := ⟨wG_in (i := 408) (by decide +kernel) rfl, cd_X8_startChange, in_RX8, by decide +kernel, by decide +kernel, by decide⟩
set_option maxRecDepth 100000 in
theorem wc_X8_91 : wCall RX8 91 yX7_of cX7_of 2 (some .int) 2 := ⟨wG_in (i := 1010) (by decide +kernel) rfl, cd_X7_of, in_RX7, by decide +kernel, by decide +kernel, by decide⟩
set_option maxRecDepth 100000 in
theorem wc_X8_97 : wCall RX8 97 yX5_giveSign cX5_giveSign 3 (some .int) 2 := ⟨wG_in (i := 1016) (by decide +kernel) rfl, cd_X5_giveSign, in_RX5, by decide +kernel, by decide +kernel, by decide⟩
set_option maxRecDepth 100000 in
theorem wc_X8_100 : wCall RX8 100 yX8_faultOfUnsign cX8_faultOfUnsign 2 (some .int) 1 := ⟨wG_in (i := 1036) (by decide +kernel) rfl, cd_X8_faultOfUnsign, in_RX8, by decide +kernel, by decide +kernel, by decide⟩
set_option maxRecDepth 100000 in
theorem wc_X8_104 : wCall RX8 104 yX5_takeSign cX5_takeSign 2 (some .int) 1 := ⟨wG_in (i := 1044) (by decide +kernel) rfl, cd_X5_takeSign, in_RX5, by decide +kernel, by decide +kernel, by decide⟩
set_option maxRecDepth 100000 in
theorem wc_X8_107 : wCall RX8 107 yX8_faultOfPriority cX8_faultOfPriority 3 (some .int) 2 := ⟨wG_in (i := 1056) (by decide +kernel) rfl, cd_X8_faultOfPriority, in_RX8, by decide +kernel, by decide +kernel, by decide⟩
set_option maxRecDepth 100000 in
theorem wc_X8_110 : wCall RX8 110 yX5_givePriority cX5_givePriority 4 (some .int) 2 := ⟨wG_in (i := 1060) (by decide +kernel) rfl, cd_X5_givePriority, in_RX5, by decide +kernel, by decide +kernel, by decide⟩
set_option maxRecDepth 100000 in
theorem wc_X8_113 : wCall RX8 113 yX8_faultOfPlatform cX8_faultOfPlatform 4 (some .int) 3 := ⟨wG_in (i := 1071) (by decide +kernel) rfl, cd_X8_faultOfPlatform, in_RX8, by decide +kernel, by decide +kernel, by decide⟩
set_option maxRecDepth 100000 in
theorem wc_X8_116 : wCall RX8 116 yX5_tellPlatform cX5_tellPlatform 4 (some .int) 3 := ⟨wG_in (i := 1078) (by decide +kernel) rfl, cd_X5_tellPlatform, in_RX5, by decide +kernel, by decide +kernel, by decide⟩
set_option maxRecDepth 100000 in
theorem wc_X8_119 : wCall RX8 119 yX8_isLine cX8_isLine 1 (some .boolean) 1 := ⟨wG_in (i := 1003) (by decide +kernel) rfl, cd_X8_isLine, in_RX8, by decide +kernel, by decide +kernel, by decide⟩
set_option maxRecDepth 100000 in
theorem wc_X8_135 : wCall RX8 135 yX5_numberOfLine cX5_numberOfLine 3 (some .int) 2 := ⟨wG_in (i := 1092) (by decide +kernel) rfl, cd_X5_numberOfLine, in_RX5, by decide +kernel, by decide +kernel, by decide⟩
set_option maxRecDepth 100000 in
theorem wc_X8_138 : wCall RX8 138 yX8_isPlatform cX8_isPlatform 1 (some .boolean) 1 := ⟨wG_in (i := 1075) (by decide +kernel) rfl, cd_X8_isPlatform, in_RX8, by decide +kernel, by decide +kernel, by decide⟩
set_option maxRecDepth 100000 in
theorem wc_X8_145 : wCall RX8 145 yX5_numberOfPlatform cX5_numberOfPlatform 3 (some .int) 2 := ⟨wG_in (i := 1115) (by decide +kernel) rfl, cd_X5_numberOfPlatform, in_RX5, by decide +kernel, by decide +kernel, by decide⟩
set_option maxRecDepth 100000 in
theorem wc_X8_148 : wCall RX8 148 yX3_standing cX3_standing 5 (some .int) 3 := ⟨wG_in (i := 1130) (by decide +kernel) rfl, cd_X3_standing, in_RX3, by decide +kernel, by decide +kernel, by decide⟩
set_option maxRecDepth 100000 in
theorem wc_X8_152 : wCall RX8 152 yX3_areClear cX3_areClear 3 (some .boolean) 1 := ⟨wG_in (i := 382) (by decide +kernel) rfl, cd_X3_areClear, in_RX3, by decide +kernel, by decide +kernel, by decide⟩
set_option maxRecDepth 100000 in
theorem wc_X8_156 : wCall RX8 156 yX8_isLength cX8_isLength 1 (some .boolean) 1 := ⟨wG_in (i := 1006) (by decide +kernel) rfl, cd_X8_isLength, in_RX8, by decide +kernel, by decide +kernel, by decide⟩
set_option maxRecDepth 100000 in
theorem wc_X8_161 : wCall RX8 161 yX3_freeByBars cX3_freeByBars 5 (some .int) 2 := ⟨wG_in (i := 664) (by decide +kernel) rfl, cd_X3_freeByBars, in_RX3, by decide +kernel, by decide +kernel, by decide⟩
set_option maxRecDepth 100000 in
theorem wc_X8_165 : wCall RX8 165 yX3_freeByWords cX3_freeByWords 5 (some .int) 2 := ⟨wG_in (i := 655) (by decide +kernel) rfl, cd_X3_freeByWords, in_RX3, by decide +kernel, by decide +kernel, by decide⟩
set_option maxRecDepth 100000 in
theorem wc_X8_168 : wCall RX8 168 yX8_faultOfWhistle cX8_faultOfWhistle 2 (some .int) 1 := ⟨wG_in (i := 1146) (by decide +kernel) rfl, cd_X8_faultOfWhistle, in_RX8, by decide +kernel, by decide +kernel, by decide⟩
set_option maxRecDepth 100000 in
theorem wc_X8_171 : wCall RX8 171 yX5_blow cX5_blow 5 (some .int) 2 := ⟨wG_in (i := 1163) (by decide +kernel) rfl, cd_X5_blow, in_RX5, by decide +kernel, by decide +kernel, by decide⟩
set_option maxRecDepth 100000 in
theorem wc_X8_174 : wCall RX8 174 yX8_faultOfLie cX8_faultOfLie 3 (some .int) 2 := ⟨wG_in (i := 1181) (by decide +kernel) rfl, cd_X8_faultOfLie, in_RX8, by decide +kernel, by decide +kernel, by decide⟩
set_option maxRecDepth 100000 in
theorem wc_X8_177 : wCall RX8 177 yX8_faultOfExpose cX8_faultOfExpose 2 (some .int) 1 := ⟨wG_in (i := 1192) (by decide +kernel) rfl, cd_X8_faultOfExpose, in_RX8, by decide +kernel, by decide +kernel, by decide⟩
set_option maxRecDepth 100000 in
theorem wc_X8_180 : wCall RX8 180 yX5_exposeLiar cX5_exposeLiar 3 (some .int) 1 := ⟨wG_in (i := 1204) (by decide +kernel) rfl, cd_X5_exposeLiar, in_RX5, by decide +kernel, by decide +kernel, by decide⟩
set_option maxRecDepth 100000 in
theorem wc_X8_183 : wCall RX8 183 yX8_faultOfMute cX8_faultOfMute 3 (some .int) 2 := ⟨wG_in (i := 1219) (by decide +kernel) rfl, cd_X8_faultOfMute, in_RX8, by decide +kernel, by decide +kernel, by decide⟩
set_option maxRecDepth 100000 in
theorem wc_X8_186 : wCall RX8 186 yX5_silence cX5_silence 3 (some .int) 2 := ⟨wG_in (i := 1223) (by decide +kernel) rfl, cd_X5_silence, in_RX5, by decide +kernel, by decide +kernel, by decide⟩
set_option maxRecDepth 100000 in
theorem wc_X8_189 : wCall RX8 189 yX8_faultOfFine cX8_faultOfFine 3 (some .int) 1 := ⟨wG_in (i := 1234) (by decide +kernel) rfl, cd_X8_faultOfFine, in_RX8, by decide +kernel, by decide +kernel, by decide⟩
set_option maxRecDepth 100000 in
theorem wc_X8_192 : wCall RX8 192 yX5_payFine cX5_payFine 3 (some .int) 1 := ⟨wG_in (i := 1242) (by decide +kernel) rfl, cd_X5_payFine, in_RX5, by decide +kernel, by decide +kernel, by decide⟩
set_option maxRecDepth 100000 in
theorem wc_X8_195 : wCall RX8 195 yX5_endHour cX5_endHour 3 (some .int) 0 := ⟨wG_in (i := 537) (by decide +kernel) rfl, cd_X5_endHour, in_RX5, by decide +kernel, by decide +kernel, by decide⟩
set_option maxRecDepth 100000 in
theorem wc_X8_199 : wCall RX8 199 yX5_wayGoesTo cX5_wayGoesTo 6 (some .int) 0 := ⟨wG_in (i := 597) (by decide +kernel) rfl, cd_X5_wayGoesTo, in_RX5, by decide +kernel, by decide +kernel, by decide⟩
set_option maxRecDepth 100000 in
theorem wc_X8_202 : wCall RX8 202 yX5_indexOfHeard cX5_indexOfHeard 4 (some .int) 1 := ⟨wG_in (i := 1255) (by decide +kernel) rfl, cd_X5_indexOfHeard, in_RX5, by decide +kernel, by decide +kernel, by decide⟩
set_option maxRecDepth 100000 in
theorem wc_X8_215 : wCall RX8 215 yX2_at cX2_at 2 (some .int) 1 := ⟨wG_in (i := 951) (by decide +kernel) rfl, cd_X2_at, in_RX2, by decide +kernel, by decide +kernel, by decide⟩
set_option maxRecDepth 100000 in
theorem wc_X8_220 : wCall RX8 220 yX4_number cX4_number 2 (some .int) 2 := ⟨wG_in (i := 1276) (by decide +kernel) rfl, cd_X4_number, in_RX4, by decide +kernel, by decide +kernel, by decide⟩
set_option maxRecDepth 100000 in
theorem wc_X8_224 : wCall RX8 224 yX6_load cX6_load 5 none 1 := ⟨wG_in (i := 602) (by decide +kernel) rfl, cd_X6_load, in_RX6, by decide +kernel, by decide +kernel, by decide⟩
set_option maxRecDepth 100000 in
theorem wc_X8_228 : wCall RX8 228 yX6_waysFromEnd cX6_waysFromEnd 4 (some .int) 1 := ⟨wG_in (i := 617) (by decide +kernel) rfl, cd_X6_waysFromEnd, in_RX6, by decide +kernel, by decide +kernel, by decide⟩
set_option maxRecDepth 100000 in
theorem wc_X8_231 : wCall RX8 231 yX6_waysFromBeginning cX6_waysFromBeginning 4 (some .int) 1 := ⟨wG_in (i := 633) (by decide +kernel) rfl, cd_X6_waysFromBeginning, in_RX6, by decide +kernel, by decide +kernel, by decide⟩
set_option maxRecDepth 100000 in
theorem wc_X8_234 : wCall RX8 234 yX6_lineAt cX6_lineAt 6 (some .int) 2 := ⟨wG_in (i := 1292) (by decide +kernel) rfl, cd_X6_lineAt, in_RX6, by decide +kernel, by decide +kernel, by decide⟩
set_option maxRecDepth 100000 in
theorem wc_X8_241 : wCall RX8 241 yX5_hoursToWait cX5_hoursToWait 7 (some .int) 1 := ⟨wG_in (i := 1310) (by decide +kernel) rfl, cd_X5_hoursToWait, in_RX5, by decide +kernel, by decide +kernel, by decide⟩
set_option maxRecDepth 100000 in
theorem wc_X8_257 : wCall RX8 257 yX8_lineRanked cX8_lineRanked 4 (some .int) 2 := ⟨wG_in (i := 1323) (by decide +kernel) rfl, cd_X8_lineRanked, in_RX8, by decide +kernel, by decide +kernel, by decide⟩
set_option maxRecDepth 100000 in
theorem wc_X8_260 : wCall RX8 260 yX3_areDistinct cX3_areDistinct 2 (some .boolean) 1 := ⟨wG_in (i := 645) (by decide +kernel) rfl, cd_X3_areDistinct, in_RX3, by decide +kernel, by decide +kernel, by decide⟩
set_option maxRecDepth 100000 in
theorem wc_X8_263 : wCall RX8 263 yX8_areFreeWordsRight cX8_areFreeWordsRight 2 (some .boolean) 0 := ⟨wG_in (i := 651) (by decide +kernel) rfl, cd_X8_areFreeWordsRight, in_RX8, by decide +kernel, by decide +kernel, by decide⟩
set_option maxRecDepth 100000 in
theorem wc_X8_267 : wCall RX8 267 yJ4_setLength_d00df cJ4_setLength_d00df 2 none 1 := ⟨wG_in (i := 679) (by decide +kernel) rfl, cd_J4_setLength_d00df, in_RJ4, by decide +kernel, by decide +kernel, by decide⟩
set_option maxRecDepth 100000 in
theorem wc_X8_270 : wCall RX8 270 yX8_writeLine cX8_writeLine 2 none 1 := ⟨wG_in (i := 1336) (by decide +kernel) rfl, cd_X8_writeLine, in_RX8, by decide +kernel, by decide +kernel, by decide⟩
set_option maxRecDepth 100000 in
theorem wc_X8_273 : wCall RX8 273 yJ4_length_8abf5 cJ4_length_8abf5 1 (some .int) 0 := ⟨wG_in (i := 981) (by decide +kernel) rfl, cd_J4_length_8abf5, in_RJ4, by decide +kernel, by decide +kernel, by decide⟩
set_option maxRecDepth 100000 in
theorem wc_X8_276 : wCall RX8 276 yX2_size cX2_size 1 (some .int) 0 := ⟨wG_in (i := 950) (by decide +kernel) rfl, cd_X2_size, in_RX2, by decide +kernel, by decide +kernel, by decide⟩
set_option maxRecDepth 100000 in
theorem wc_X8_279 : wCall RX8 279 yX4_word cX4_word 1 (some .int) 1 := ⟨wG_in (i := 952) (by decide +kernel) rfl, cd_X4_word, in_RX4, by decide +kernel, by decide +kernel, by decide⟩
set_option maxRecDepth 100000 in
theorem wc_X8_282 : wCall RX8 282 yX8_writeWord cX8_writeWord 3 none 1 := ⟨wG_in (i := 953) (by decide +kernel) rfl, cd_X8_writeWord, in_RX8, by decide +kernel, by decide +kernel, by decide⟩
set_option maxRecDepth 100000 in
theorem wc_X8_287 : wCall RX8 287 yJ4_charAt_5068e cJ4_charAt_5068e 2 (some .char) 1 := ⟨wG_in (i := 1349) (by decide +kernel) rfl, cd_J4_charAt_5068e, in_RJ4, by decide +kernel, by decide +kernel, by decide⟩
set_option maxRecDepth 100000 in
theorem wc_X8_298 : wCall RX8 298 yX1_size cX1_size 1 (some .int) 0 := ⟨wG_in (i := 1391) (by decide +kernel) rfl, cd_X1_size, in_RX1, by decide +kernel, by decide +kernel, by decide⟩
set_option maxRecDepth 100000 in
theorem wc_X8_299 : wCall RX8 299 yX0_size cX0_size 1 (some .int) 0 := ⟨wG_in (i := 1396) (by decide +kernel) rfl, cd_X0_size, in_RX0, by decide +kernel, by decide +kernel, by decide⟩
set_option maxRecDepth 100000 in
theorem wc_X8_300 : wCall RX8 300 yX5_accountOf cX5_accountOf 2 (some .int) 1 := ⟨wG_in (i := 1400) (by decide +kernel) rfl, cd_X5_accountOf, in_RX5, by decide +kernel, by decide +kernel, by decide⟩
set_option maxRecDepth 100000 in
theorem wc_X8_308 : wCall RX8 308 yX3_sumOfLengths cX3_sumOfLengths 3 (some .int) 1 := ⟨wG_in (i := 1438) (by decide +kernel) rfl, cd_X3_sumOfLengths, in_RX3, by decide +kernel, by decide +kernel, by decide⟩
set_option maxRecDepth 100000 in
theorem wc_X8_319 : wCall RX8 319 yX2_total cX2_total 3 (some .int) 0 := ⟨wG_in (i := 1449) (by decide +kernel) rfl, cd_X2_total, in_RX2, by decide +kernel, by decide +kernel, by decide⟩
set_option maxRecDepth 100000 in
theorem wc_X8_326 : wCall RX8 326 yX1_addAll cX1_addAll 4 none 1 := ⟨wG_in (i := 1459) (by decide +kernel) rfl, cd_X1_addAll, in_RX1, by decide +kernel, by decide +kernel, by decide⟩
set_option maxRecDepth 100000 in
theorem wc_X8_329 : wCall RX8 329 yX1_parse cX1_parse 3 (some .boolean) 0 := ⟨wG_in (i := 1471) (by decide +kernel) rfl, cd_X1_parse, in_RX1, by decide +kernel, by decide +kernel, by decide⟩
set_option maxRecDepth 100000 in
theorem wc_X8_332 : wCall RX8 332 yX1_empty cX1_empty 1 none 0 := ⟨wG_in (i := 1535) (by decide +kernel) rfl, cd_X1_empty, in_RX1, by decide +kernel, by decide +kernel, by decide⟩
set_option maxRecDepth 100000 in
theorem wc_X8_335 : wCall RX8 335 yX1_position cX1_position 1 (some .int) 0 := ⟨wG_in (i := 1539) (by decide +kernel) rfl, cd_X1_position, in_RX1, by decide +kernel, by decide +kernel, by decide⟩
set_option maxRecDepth 100000 in
theorem wc_X8_340 : wCall RX8 340 yX5_copyFrom cX5_copyFrom 2 none 1 := ⟨wG_in (i := 986) (by decide +kernel) rfl, cd_X5_copyFrom, in_RX5, by decide +kernel, by decide +kernel, by decide⟩
set_option maxRecDepth 100000 in
theorem wc_X8_344 : wCall RX8 344 yX1_orders cX1_orders 1 (some .int) 0 := ⟨wG_in (i := 1544) (by decide +kernel) rfl, cd_X1_orders, in_RX1, by decide +kernel, by decide +kernel, by decide⟩
set_option maxRecDepth 100000 in
theorem wc_X8_347 : wCall RX8 347 yX8_faultOfOrder cX8_faultOfOrder 4 (some .int) 1 := ⟨wG_in (i := 1548) (by decide +kernel) rfl, cd_X8_faultOfOrder, in_RX8, by decide +kernel, by decide +kernel, by decide⟩
set_option maxRecDepth 100000 in
theorem wc_X8_355 : wCall RX8 355 yX8_carryOut cX8_carryOut 4 none 1 := ⟨wG_in (i := 1566) (by decide +kernel) rfl, cd_X8_carryOut, in_RX8, by decide +kernel, by decide +kernel, by decide⟩
set_option maxRecDepth 100000 in
theorem wc_X8_358 : wCall RX8 358 yX0_push cX0_push 3 none 1 := ⟨wG_in (i := 516) (by decide +kernel) rfl, cd_X0_push, in_RX0, by decide +kernel, by decide +kernel, by decide⟩
set_option maxRecDepth 100000 in
theorem wc_X8_367 : wCall RX8 367 yX0_pop cX0_pop 3 none 1 := ⟨wG_in (i := 1594) (by decide +kernel) rfl, cd_X0_pop, in_RX0, by decide +kernel, by decide +kernel, by decide⟩
set_option maxRecDepth 100000 in
theorem wc_X8_378 : wCall RX8 378 yX7_mask cX7_mask 1 (some .int) 1 := ⟨wG_in (i := 1009) (by decide +kernel) rfl, cd_X7_mask, in_RX7, by decide +kernel, by decide +kernel, by decide⟩
set_option maxRecDepth 100000 in
theorem wc_X8_381 : wCall RX8 381 yX3_owner cX3_owner 3 (some .int) 2 := ⟨wG_in (i := 1011) (by decide +kernel) rfl, cd_X3_owner, in_RX3, by decide +kernel, by decide +kernel, by decide⟩
set_option maxRecDepth 100000 in
theorem wc_X8_384 : wCall RX8 384 yX8_refuse cX8_refuse 3 (some .int) 2 := ⟨wG_in (i := 1012) (by decide +kernel) rfl, cd_X8_refuse, in_RX8, by decide +kernel, by decide +kernel, by decide⟩
set_option maxRecDepth 100000 in
theorem wc_X8_387 : wCall RX8 387 yX8_faultOfNoSign cX8_faultOfNoSign 2 (some .int) 1 := ⟨wG_in (i := 1040) (by decide +kernel) rfl, cd_X8_faultOfNoSign, in_RX8, by decide +kernel, by decide +kernel, by decide⟩
set_option maxRecDepth 100000 in
theorem wc_X8_390 : wCall RX8 390 yX8_faultOfBlow cX8_faultOfBlow 5 (some .int) 2 := ⟨wG_in (i := 1150) (by decide +kernel) rfl, cd_X8_faultOfBlow, in_RX8, by decide +kernel, by decide +kernel, by decide⟩
set_option maxRecDepth 100000 in
theorem wc_X8_393 : wCall RX8 393 yX8_faultOfMuted cX8_faultOfMuted 3 (some .int) 1 := ⟨wG_in (i := 1154) (by decide +kernel) rfl, cd_X8_faultOfMuted, in_RX8, by decide +kernel, by decide +kernel, by decide⟩
set_option maxRecDepth 100000 in
theorem wc_X8_396 : wCall RX8 396 yX5_hasWhistled cX5_hasWhistled 2 (some .boolean) 1 := ⟨wG_in (i := 1158) (by decide +kernel) rfl, cd_X5_hasWhistled, in_RX5, by decide +kernel, by decide +kernel, by decide⟩
set_option maxRecDepth 100000 in
theorem wc_X8_402 : wCall RX8 402 yX5_steamToBlow cX5_steamToBlow 4 (some .int) 2 := ⟨wG_in (i := 1159) (by decide +kernel) rfl, cd_X5_steamToBlow, in_RX5, by decide +kernel, by decide +kernel, by decide⟩
set_option maxRecDepth 100000 in
theorem wc_X8_405 : wCall RX8 405 yX5_indexOfLie cX5_indexOfLie 4 (some .int) 1 := ⟨wG_in (i := 1196) (by decide +kernel) rfl, cd_X5_indexOfLie, in_RX5, by decide +kernel, by decide +kernel, by decide⟩
set_option maxRecDepth 100000 in
theorem wc_X8_408 : wCall RX8 408 yX5_numberHeard cX5_numberHeard 3 (some .int) 0 := ⟨wG_in (i := 1200) (by decide +kernel) rfl, cd_X5_numberHeard, in_RX5, by decide +kernel, by decide +kernel, by decide⟩
set_option maxRecDepth 100000 in
theorem wc_X8_417 : wCall RX8 417 yX5_fineOf cX5_fineOf 2 (some .int) 1 := ⟨wG_in (i := 1238) (by decide +kernel) rfl, cd_X5_fineOf, in_RX5, by decide +kernel, by decide +kernel, by decide⟩
set_option maxRecDepth 100000 in
theorem wc_X8_420 : wCall RX8 420 yX1_line cX1_line 2 (some .int) 1 := ⟨wG_in (i := 1552) (by decide +kernel) rfl, cd_X1_line, in_RX1, by decide +kernel, by decide +kernel, by decide⟩
set_option maxRecDepth 100000 in
theorem wc_X8_423 : wCall RX8 423 yX1_second cX1_second 2 (some .int) 1 := ⟨wG_in (i := 1556) (by decide +kernel) rfl, cd_X1_second, in_RX1, by decide +kernel, by decide +kernel, by decide⟩
set_option maxRecDepth 100000 in
theorem wc_X8_426 : wCall RX8 426 yX1_kind cX1_kind 2 (some .int) 1 := ⟨wG_in (i := 1560) (by decide +kernel) rfl, cd_X1_kind, in_RX1, by decide +kernel, by decide +kernel, by decide⟩
set_option maxRecDepth 100000 in
theorem wc_X8_429 : wCall RX8 429 yX7_length cX7_length 1 (some .int) 1 := ⟨wG_in (i := 957) (by decide +kernel) rfl, cd_X7_length, in_RX7, by decide +kernel, by decide +kernel, by decide⟩
set_option maxRecDepth 100000 in
theorem wc_X8_431 : wCall RX8 431 yX7_bits cX7_bits 1 (some .int) 1 := ⟨wG_in (i := 1564) (by decide +kernel) rfl, cd_X7_bits, in_RX7, by decide +kernel, by decide +kernel, by decide⟩
set_option maxRecDepth 100000 in
theorem wc_X8_434 : wCall RX8 434 yX8_numberAhead cX8_numberAhead 5 (some .int) 2 := ⟨wG_in (i := 1326) (by decide +kernel) rfl, cd_X8_numberAhead, in_RX8, by decide +kernel, by decide +kernel, by decide⟩
set_option maxRecDepth 100000 in
theorem wc_X8_437 : wCall RX8 437 yJ4_append_bf812 cJ4_append_bf812 2 (some (.object "java/lang/StringBuilder")) 1 := ⟨wG_in (i := 1340) (by decide +kernel) rfl, cd_J4_append_bf812, in_RJ4, by decide +kernel, by decide +kernel, by decide⟩
set_option maxRecDepth 100000 in
theorem wc_X8_441 : wCall RX8 441 yJ4_append_cf468 cJ4_append_cf468 2 (some (.object "java/lang/StringBuilder")) 1 := ⟨wG_in (i := 959) (by decide +kernel) rfl, cd_J4_append_cf468, in_RJ4, by decide +kernel, by decide +kernel, by decide⟩
set_option maxRecDepth 100000 in
theorem wc_X8_444 : wCall RX8 444 yX7_letter cX7_letter 2 (some .int) 2 := ⟨wG_in (i := 958) (by decide +kernel) rfl, cd_X7_letter, in_RX7, by decide +kernel, by decide +kernel, by decide⟩
set_option maxRecDepth 100000 in
theorem wc_X0_24 : wCall RX0 24 yX5_init cX5_init 1 none 0 := ⟨wG_in (i := 236) (by decide +kernel) rfl, cd_X5_init, in_RX5, by decide +kernel, by decide +kernel, by decide⟩
set_option maxRecDepth 100000 in
theorem wc_X0_25 : wCall RX0 25 yX0_slotAt cX0_slotAt 3 (some (.object "WhistleJunction$State")) 1 := ⟨wG_in (i := 520) (by decide +kernel) rfl, cd_X0_slotAt, in_RX0, by decide +kernel, by decide +kernel, by decide⟩
set_option maxRecDepth 100000 in
theorem wc_X0_29 : wCall RX0 29 yX5_copyFrom cX5_copyFrom 2 none 1 := ⟨wG_in (i := 524) (by decide +kernel) rfl, cd_X5_copyFrom, in_RX5, by decide +kernel, by decide +kernel, by decide⟩
set_option maxRecDepth 100000 in
theorem wc_X1_11 : wCall RX1 11 yX2_init cX2_init 2 none 1 := ⟨wG_in (i := 254) (by decide +kernel) rfl, cd_X2_init, in_RX2, by decide +kernel, by decide +kernel, by decide⟩
set_option maxRecDepth 100000 in
theorem wc_X1_39 : wCall RX1 39 yX2_size cX2_size 1 (some .int) 0 := ⟨wG_in (i := 1395) (by decide +kernel) rfl, cd_X2_size, in_RX2, by decide +kernel, by decide +kernel, by decide⟩
set_option maxRecDepth 100000 in
theorem wc_X1_43 : wCall RX1 43 yX2_fill cX2_fill 4 none 2 := ⟨wG_in (i := 1475) (by decide +kernel) rfl, cd_X2_fill, in_RX2, by decide +kernel, by decide +kernel, by decide⟩
set_option maxRecDepth 100000 in
theorem wc_X1_47 : wCall RX1 47 yX2_add cX2_add 2 none 1 := ⟨wG_in (i := 1463) (by decide +kernel) rfl, cd_X2_add, in_RX2, by decide +kernel, by decide +kernel, by decide⟩
set_option maxRecDepth 100000 in
theorem wc_X1_50 : wCall RX1 50 yX2_at cX2_at 2 (some .int) 1 := ⟨wG_in (i := 1480) (by decide +kernel) rfl, cd_X2_at, in_RX2, by decide +kernel, by decide +kernel, by decide⟩
set_option maxRecDepth 100000 in
theorem wc_X1_54 : wCall RX1 54 yX1_parseOrder cX1_parseOrder 4 (some .boolean) 0 := ⟨wG_in (i := 1476) (by decide +kernel) rfl, cd_X1_parseOrder, in_RX1, by decide +kernel, by decide +kernel, by decide⟩
set_option maxRecDepth 100000 in
theorem wc_X1_58 : wCall RX1 58 yX1_size cX1_size 1 (some .int) 0 := ⟨wG_in (i := 1534) (by decide +kernel) rfl, cd_X1_size, in_RX1, by decide +kernel, by decide +kernel, by decide⟩
set_option maxRecDepth 100000 in
theorem wc_X1_59 : wCall RX1 59 yX1_parseSign cX1_parseSign 2 (some .boolean) 1 := ⟨wG_in (i := 1530) (by decide +kernel) rfl, cd_X1_parseSign, in_RX1, by decide +kernel, by decide +kernel, by decide⟩
set_option maxRecDepth 100000 in
theorem wc_X1_63 : wCall RX1 63 yX1_shapeOf cX1_shapeOf 1 (some (.object "java/lang/String")) 1 := ⟨wG_in (i := 1481) (by decide +kernel) rfl, cd_X1_shapeOf, in_RX1, by decide +kernel, by decide +kernel, by decide⟩
set_option maxRecDepth 100000 in
theorem wc_X1_67 : wCall RX1 67 yJ0_isEmpty_aae02 cJ0_isEmpty_aae02 1 (some .boolean) 0 := ⟨wG_in (i := 1494) (by decide +kernel) rfl, cd_J0_isEmpty_aae02, in_RJ0, by decide +kernel, by decide +kernel, by decide⟩
set_option maxRecDepth 100000 in
theorem wc_X1_72 : wCall RX1 72 yJ0_length_8abf5 cJ0_length_8abf5 1 (some .int) 0 := ⟨wG_in (i := 1498) (by decide +kernel) rfl, cd_J0_length_8abf5, in_RJ0, by decide +kernel, by decide +kernel, by decide⟩
set_option maxRecDepth 100000 in
theorem wc_X1_75 : wCall RX1 75 yJ0_charAt_5068e cJ0_charAt_5068e 2 (some .char) 1 := ⟨wG_in (i := 1499) (by decide +kernel) rfl, cd_J0_charAt_5068e, in_RJ0, by decide +kernel, by decide +kernel, by decide⟩
set_option maxRecDepth 100000 in
theorem wc_X1_79 : wCall RX1 79 yX1_parsePart cX1_parsePart 2 (some .boolean) 1 := ⟨wG_in (i := 1514) (by decide +kernel) rfl, cd_X1_parsePart, in_RX1, by decide +kernel, by decide +kernel, by decide⟩
set_option maxRecDepth 100000 in
theorem wc_X1_102 : wCall RX1 102 yX1_parseDigit cX1_parseDigit 1 (some .boolean) 0 := ⟨wG_in (i := 1518) (by decide +kernel) rfl, cd_X1_parseDigit, in_RX1, by decide +kernel, by decide +kernel, by decide⟩
set_option maxRecDepth 100000 in
theorem wc_X1_105 : wCall RX1 105 yX1_parseWord cX1_parseWord 3 (some .boolean) 0 := ⟨wG_in (i := 1522) (by decide +kernel) rfl, cd_X1_parseWord, in_RX1, by decide +kernel, by decide +kernel, by decide⟩
set_option maxRecDepth 100000 in
theorem wc_X1_108 : wCall RX1 108 yX1_isLetter cX1_isLetter 1 (some .boolean) 1 := ⟨wG_in (i := 1526) (by decide +kernel) rfl, cd_X1_isLetter, in_RX1, by decide +kernel, by decide +kernel, by decide⟩
set_option maxRecDepth 100000 in
theorem wc_X1_111 : wCall RX1 111 yX7_of cX7_of 2 (some .int) 2 := ⟨wG_in (i := 1529) (by decide +kernel) rfl, cd_X7_of, in_RX7, by decide +kernel, by decide +kernel, by decide⟩
set_option maxRecDepth 100000 in
theorem wc_X2_17 : wCall RX2 17 yX2_at cX2_at 2 (some .int) 1 := ⟨wG_in (i := 536) (by decide +kernel) rfl, cd_X2_at, in_RX2, by decide +kernel, by decide +kernel, by decide⟩
set_option maxRecDepth 100000 in
theorem wc_X2_21 : wCall RX2 21 yX2_put cX2_put 3 none 2 := ⟨wG_in (i := 564) (by decide +kernel) rfl, cd_X2_put, in_RX2, by decide +kernel, by decide +kernel, by decide⟩
set_option maxRecDepth 100000 in
theorem wc_X2_25 : wCall RX2 25 yJ9_min_7cf53 cJ9_min_7cf53 2 (some .int) 2 := ⟨wG_in (i := 160) (by decide +kernel) rfl, cd_J9_min_7cf53, in_RJ9, by decide +kernel, by decide +kernel, by decide⟩
set_option maxRecDepth 100000 in
theorem wc_X2_31 : wCall RX2 31 yJ9_max_7cf53 cJ9_max_7cf53 2 (some .int) 2 := ⟨wG_in (i := 163) (by decide +kernel) rfl, cd_J9_max_7cf53, in_RJ9, by decide +kernel, by decide +kernel, by decide⟩
set_option maxRecDepth 100000 in
theorem wc_X2_34 : wCall RX2 34 yX2_size cX2_size 1 (some .int) 0 := ⟨wG_in (i := 532) (by decide +kernel) rfl, cd_X2_size, in_RX2, by decide +kernel, by decide +kernel, by decide⟩
set_option maxRecDepth 100000 in
theorem wc_X3_9 : wCall RX3 9 yX2_numberAboveZero cX2_numberAboveZero 3 (some .int) 0 := ⟨wG_in (i := 369) (by decide +kernel) rfl, cd_X2_numberAboveZero, in_RX2, by decide +kernel, by decide +kernel, by decide⟩
set_option maxRecDepth 100000 in
theorem wc_X3_15 : wCall RX3 15 yX2_at cX2_at 2 (some .int) 1 := ⟨wG_in (i := 388) (by decide +kernel) rfl, cd_X2_at, in_RX2, by decide +kernel, by decide +kernel, by decide⟩
set_option maxRecDepth 100000 in
theorem wc_X3_19 : wCall RX3 19 yX7_length cX7_length 1 (some .int) 1 := ⟨wG_in (i := 674) (by decide +kernel) rfl, cd_X7_length, in_RX7, by decide +kernel, by decide +kernel, by decide⟩
set_option maxRecDepth 100000 in
theorem wc_X3_24 : wCall RX3 24 yX7_begins cX7_begins 2 (some .boolean) 2 := ⟨wG_in (i := 392) (by decide +kernel) rfl, cd_X7_begins, in_RX7, by decide +kernel, by decide +kernel, by decide⟩
set_option maxRecDepth 100000 in
theorem wc_X3_28 : wCall RX3 28 yX3_standing cX3_standing 5 (some .int) 3 := ⟨wG_in (i := 385) (by decide +kernel) rfl, cd_X3_standing, in_RX3, by decide +kernel, by decide +kernel, by decide⟩
set_option maxRecDepth 100000 in
theorem wc_X3_34 : wCall RX3 34 yX3_owner cX3_owner 3 (some .int) 2 := ⟨wG_in (i := 648) (by decide +kernel) rfl, cd_X3_owner, in_RX3, by decide +kernel, by decide +kernel, by decide⟩
set_option maxRecDepth 100000 in
theorem wc_X3_38 : wCall RX3 38 yX7_of cX7_of 2 (some .int) 2 := ⟨wG_in (i := 658) (by decide +kernel) rfl, cd_X7_of, in_RX7, by decide +kernel, by decide +kernel, by decide⟩
set_option maxRecDepth 100000 in
theorem wc_X3_42 : wCall RX3 42 yX3_isFree cX3_isFree 4 (some .boolean) 2 := ⟨wG_in (i := 661) (by decide +kernel) rfl, cd_X3_isFree, in_RX3, by decide +kernel, by decide +kernel, by decide⟩
set_option maxRecDepth 100000 in
theorem wc_X3_46 : wCall RX3 46 yX7_cut cX7_cut 2 (some .int) 2 := ⟨wG_in (i := 667) (by decide +kernel) rfl, cd_X7_cut, in_RX7, by decide +kernel, by decide +kernel, by decide⟩
set_option maxRecDepth 100000 in
theorem wc_X3_49 : wCall RX3 49 yX3_isBarredByAnother cX3_isBarredByAnother 7 (some .boolean) 3 := ⟨wG_in (i := 671) (by decide +kernel) rfl, cd_X3_isBarredByAnother, in_RX3, by decide +kernel, by decide +kernel, by decide⟩
set_option maxRecDepth 100000 in
theorem wc_X4_11 : wCall RX4 11 yX4_told cX4_told 1 (some .int) 1 := ⟨wG_in (i := 1279) (by decide +kernel) rfl, cd_X4_told, in_RX4, by decide +kernel, by decide +kernel, by decide⟩
set_option maxRecDepth 100000 in
theorem wc_X4_15 : wCall RX4 15 yX4_whistler cX4_whistler 1 (some .int) 1 := ⟨wG_in (i := 1280) (by decide +kernel) rfl, cd_X4_whistler, in_RX4, by decide +kernel, by decide +kernel, by decide⟩
set_option maxRecDepth 100000 in
theorem wc_X4_18 : wCall RX4 18 yX4_echoer cX4_echoer 1 (some .int) 1 := ⟨wG_in (i := 1281) (by decide +kernel) rfl, cd_X4_echoer, in_RX4, by decide +kernel, by decide +kernel, by decide⟩
set_option maxRecDepth 100000 in
theorem wc_X4_21 : wCall RX4 21 yX4_word cX4_word 1 (some .int) 1 := ⟨wG_in (i := 1282) (by decide +kernel) rfl, cd_X4_word, in_RX4, by decide +kernel, by decide +kernel, by decide⟩
set_option maxRecDepth 100000 in
theorem wc_X4_24 : wCall RX4 24 yX7_length cX7_length 1 (some .int) 1 := ⟨wG_in (i := 1283) (by decide +kernel) rfl, cd_X7_length, in_RX7, by decide +kernel, by decide +kernel, by decide⟩
set_option maxRecDepth 100000 in
theorem wc_X4_29 : wCall RX4 29 yX7_bits cX7_bits 1 (some .int) 1 := ⟨wG_in (i := 1284) (by decide +kernel) rfl, cd_X7_bits, in_RX7, by decide +kernel, by decide +kernel, by decide⟩
set_option maxRecDepth 100000 in
theorem wc_X5_11 : wCall RX5 11 yX2_init cX2_init 2 none 1 := ⟨wG_in (i := 140) (by decide +kernel) rfl, cd_X2_init, in_RX2, by decide +kernel, by decide +kernel, by decide⟩
set_option maxRecDepth 100000 in
theorem wc_X5_69 : wCall RX5 69 yX5_reset cX5_reset 1 none 0 := ⟨wG_in (i := 152) (by decide +kernel) rfl, cd_X5_reset, in_RX5, by decide +kernel, by decide +kernel, by decide⟩
set_option maxRecDepth 100000 in
theorem wc_X5_72 : wCall RX5 72 yX2_fill cX2_fill 4 none 2 := ⟨wG_in (i := 156) (by decide +kernel) rfl, cd_X2_fill, in_RX2, by decide +kernel, by decide +kernel, by decide⟩
set_option maxRecDepth 100000 in
theorem wc_X5_76 : wCall RX5 76 yX2_copyFrom cX2_copyFrom 3 none 1 := ⟨wG_in (i := 528) (by decide +kernel) rfl, cd_X2_copyFrom, in_RX2, by decide +kernel, by decide +kernel, by decide⟩
set_option maxRecDepth 100000 in
theorem wc_X5_80 : wCall RX5 80 yX2_put cX2_put 3 none 2 := ⟨wG_in (i := 573) (by decide +kernel) rfl, cd_X2_put, in_RX2, by decide +kernel, by decide +kernel, by decide⟩
set_option maxRecDepth 100000 in
theorem wc_X5_83 : wCall RX5 83 yX7_steam cX7_steam 1 (some .int) 1 := ⟨wG_in (i := 1020) (by decide +kernel) rfl, cd_X7_steam, in_RX7, by decide +kernel, by decide +kernel, by decide⟩
set_option maxRecDepth 100000 in
theorem wc_X5_88 : wCall RX5 88 yX3_number cX3_number 1 (some .int) 1 := ⟨wG_in (i := 1048) (by decide +kernel) rfl, cd_X3_number, in_RX3, by decide +kernel, by decide +kernel, by decide⟩
set_option maxRecDepth 100000 in
theorem wc_X5_94 : wCall RX5 94 yX2_at cX2_at 2 (some .int) 1 := ⟨wG_in (i := 546) (by decide +kernel) rfl, cd_X2_at, in_RX2, by decide +kernel, by decide +kernel, by decide⟩
set_option maxRecDepth 100000 in
theorem wc_X5_97 : wCall RX5 97 yX2_numberAboveZero cX2_numberAboveZero 3 (some .int) 0 := ⟨wG_in (i := 1082) (by decide +kernel) rfl, cd_X2_numberAboveZero, in_RX2, by decide +kernel, by decide +kernel, by decide⟩
set_option maxRecDepth 100000 in
theorem wc_X5_101 : wCall RX5 101 yX5_steamToBlow cX5_steamToBlow 4 (some .int) 2 := ⟨wG_in (i := 1167) (by decide +kernel) rfl, cd_X5_steamToBlow, in_RX5, by decide +kernel, by decide +kernel, by decide⟩
set_option maxRecDepth 100000 in
theorem wc_X5_105 : wCall RX5 105 yX2_raise cX2_raise 3 none 2 := ⟨wG_in (i := 560) (by decide +kernel) rfl, cd_X2_raise, in_RX2, by decide +kernel, by decide +kernel, by decide⟩
set_option maxRecDepth 100000 in
theorem wc_X5_108 : wCall RX5 108 yX4_of cX4_of 3 (some .int) 3 := ⟨wG_in (i := 1168) (by decide +kernel) rfl, cd_X4_of, in_RX4, by decide +kernel, by decide +kernel, by decide⟩
set_option maxRecDepth 100000 in
theorem wc_X5_114 : wCall RX5 114 yX2_add cX2_add 2 none 1 := ⟨wG_in (i := 585) (by decide +kernel) rfl, cd_X2_add, in_RX2, by decide +kernel, by decide +kernel, by decide⟩
set_option maxRecDepth 100000 in
theorem wc_X5_117 : wCall RX5 117 yX4_echo cX4_echo 3 (some .int) 3 := ⟨wG_in (i := 1171) (by decide +kernel) rfl, cd_X4_echo, in_RX4, by decide +kernel, by decide +kernel, by decide⟩
set_option maxRecDepth 100000 in
theorem wc_X5_120 : wCall RX5 120 yX5_indexOfLie cX5_indexOfLie 4 (some .int) 1 := ⟨wG_in (i := 1208) (by decide +kernel) rfl, cd_X5_indexOfLie, in_RX5, by decide +kernel, by decide +kernel, by decide⟩
set_option maxRecDepth 100000 in
theorem wc_X5_123 : wCall RX5 123 yX4_asExposed cX4_asExposed 1 (some .int) 1 := ⟨wG_in (i := 1209) (by decide +kernel) rfl, cd_X4_asExposed, in_RX4, by decide +kernel, by decide +kernel, by decide⟩
set_option maxRecDepth 100000 in
theorem wc_X5_126 : wCall RX5 126 yX5_fineOf cX5_fineOf 2 (some .int) 1 := ⟨wG_in (i := 1246) (by decide +kernel) rfl, cd_X5_fineOf, in_RX5, by decide +kernel, by decide +kernel, by decide⟩
set_option maxRecDepth 100000 in
theorem wc_X5_129 : wCall RX5 129 yX5_wayGoesTo cX5_wayGoesTo 6 (some .int) 0 := ⟨wG_in (i := 541) (by decide +kernel) rfl, cd_X5_wayGoesTo, in_RX5, by decide +kernel, by decide +kernel, by decide⟩
set_option maxRecDepth 100000 in
theorem wc_X5_132 : wCall RX5 132 yX5_rest cX5_rest 2 none 1 := ⟨wG_in (i := 568) (by decide +kernel) rfl, cd_X5_rest, in_RX5, by decide +kernel, by decide +kernel, by decide⟩
set_option maxRecDepth 100000 in
theorem wc_X5_135 : wCall RX5 135 yX5_hearEchoes cX5_hearEchoes 4 none 0 := ⟨wG_in (i := 574) (by decide +kernel) rfl, cd_X5_hearEchoes, in_RX5, by decide +kernel, by decide +kernel, by decide⟩
set_option maxRecDepth 100000 in
theorem wc_X5_138 : wCall RX5 138 yJ9_min_7cf53 cJ9_min_7cf53 2 (some .int) 2 := ⟨wG_in (i := 572) (by decide +kernel) rfl, cd_J9_min_7cf53, in_RJ9, by decide +kernel, by decide +kernel, by decide⟩
set_option maxRecDepth 100000 in
theorem wc_X5_143 : wCall RX5 143 yX2_size cX2_size 1 (some .int) 0 := ⟨wG_in (i := 545) (by decide +kernel) rfl, cd_X2_size, in_RX2, by decide +kernel, by decide +kernel, by decide⟩
set_option maxRecDepth 100000 in
theorem wc_X5_146 : wCall RX5 146 yX4_anHourLater cX4_anHourLater 1 (some .int) 1 := ⟨wG_in (i := 578) (by decide +kernel) rfl, cd_X4_anHourLater, in_RX4, by decide +kernel, by decide +kernel, by decide⟩
set_option maxRecDepth 100000 in
theorem wc_X5_149 : wCall RX5 149 yX4_hoursToCome cX4_hoursToCome 1 (some .int) 1 := ⟨wG_in (i := 582) (by decide +kernel) rfl, cd_X4_hoursToCome, in_RX4, by decide +kernel, by decide +kernel, by decide⟩
set_option maxRecDepth 100000 in
theorem wc_X5_152 : wCall RX5 152 yX4_echoer cX4_echoer 1 (some .int) 1 := ⟨wG_in (i := 554) (by decide +kernel) rfl, cd_X4_echoer, in_RX4, by decide +kernel, by decide +kernel, by decide⟩
set_option maxRecDepth 100000 in
theorem wc_X5_155 : wCall RX5 155 yX2_shorten cX2_shorten 2 none 1 := ⟨wG_in (i := 589) (by decide +kernel) rfl, cd_X2_shorten, in_RX2, by decide +kernel, by decide +kernel, by decide⟩
set_option maxRecDepth 100000 in
theorem wc_X5_158 : wCall RX5 158 yX4_told cX4_told 1 (some .int) 1 := ⟨wG_in (i := 547) (by decide +kernel) rfl, cd_X4_told, in_RX4, by decide +kernel, by decide +kernel, by decide⟩
set_option maxRecDepth 100000 in
theorem wc_X5_161 : wCall RX5 161 yX4_isExposed cX4_isExposed 1 (some .boolean) 1 := ⟨wG_in (i := 550) (by decide +kernel) rfl, cd_X4_isExposed, in_RX4, by decide +kernel, by decide +kernel, by decide⟩
set_option maxRecDepth 100000 in
theorem wc_X5_165 : wCall RX5 165 yX4_whistler cX4_whistler 1 (some .int) 1 := ⟨wG_in (i := 557) (by decide +kernel) rfl, cd_X4_whistler, in_RX4, by decide +kernel, by decide +kernel, by decide⟩
set_option maxRecDepth 100000 in
theorem wc_X5_168 : wCall RX5 168 yX5_indexOfWhistle cX5_indexOfWhistle 3 (some .int) 1 := ⟨wG_in (i := 1102) (by decide +kernel) rfl, cd_X5_indexOfWhistle, in_RX5, by decide +kernel, by decide +kernel, by decide⟩
set_option maxRecDepth 100000 in
theorem wc_X5_171 : wCall RX5 171 yX5_hasWhistled cX5_hasWhistled 2 (some .boolean) 1 := ⟨wG_in (i := 1098) (by decide +kernel) rfl, cd_X5_hasWhistled, in_RX5, by decide +kernel, by decide +kernel, by decide⟩
set_option maxRecDepth 100000 in
theorem wc_X5_174 : wCall RX5 174 yX7_length cX7_length 1 (some .int) 1 := ⟨wG_in (i := 1096) (by decide +kernel) rfl, cd_X7_length, in_RX7, by decide +kernel, by decide +kernel, by decide⟩
set_option maxRecDepth 100000 in
theorem wc_X5_177 : wCall RX5 177 yX7_bits cX7_bits 1 (some .int) 1 := ⟨wG_in (i := 1097) (by decide +kernel) rfl, cd_X7_bits, in_RX7, by decide +kernel, by decide +kernel, by decide⟩
set_option maxRecDepth 100000 in
theorem wc_X5_180 : wCall RX5 180 yX5_echoesToCome cX5_echoesToCome 4 (some .int) 1 := ⟨wG_in (i := 1119) (by decide +kernel) rfl, cd_X5_echoesToCome, in_RX5, by decide +kernel, by decide +kernel, by decide⟩
set_option maxRecDepth 100000 in
theorem wc_X5_183 : wCall RX5 183 yX4_word cX4_word 1 (some .int) 1 := ⟨wG_in (i := 1409) (by decide +kernel) rfl, cd_X4_word, in_RX4, by decide +kernel, by decide +kernel, by decide⟩
set_option maxRecDepth 100000 in
theorem wc_X5_186 : wCall RX5 186 yX5_numberHeard cX5_numberHeard 3 (some .int) 0 := ⟨wG_in (i := 1404) (by decide +kernel) rfl, cd_X5_numberHeard, in_RX5, by decide +kernel, by decide +kernel, by decide⟩
set_option maxRecDepth 100000 in
theorem wc_X5_189 : wCall RX5 189 yX5_lettersOnStrip cX5_lettersOnStrip 3 (some .int) 0 := ⟨wG_in (i := 1405) (by decide +kernel) rfl, cd_X5_lettersOnStrip, in_RX5, by decide +kernel, by decide +kernel, by decide⟩
set_option maxRecDepth 100000 in
theorem wc_X5_192 : wCall RX5 192 yX2_total cX2_total 3 (some .int) 0 := ⟨wG_in (i := 1410) (by decide +kernel) rfl, cd_X2_total, in_RX2, by decide +kernel, by decide +kernel, by decide⟩
set_option maxRecDepth 100000 in
theorem wc_X6_11 : wCall RX6 11 yX2_init cX2_init 2 none 1 := ⟨wG_in (i := 284) (by decide +kernel) rfl, cd_X2_init, in_RX2, by decide +kernel, by decide +kernel, by decide⟩
set_option maxRecDepth 100000 in
theorem wc_X6_23 : wCall RX6 23 yX2_fill cX2_fill 4 none 2 := ⟨wG_in (i := 606) (by decide +kernel) rfl, cd_X2_fill, in_RX2, by decide +kernel, by decide +kernel, by decide⟩
set_option maxRecDepth 100000 in
theorem wc_X6_27 : wCall RX6 27 yX2_size cX2_size 1 (some .int) 0 := ⟨wG_in (i := 607) (by decide +kernel) rfl, cd_X2_size, in_RX2, by decide +kernel, by decide +kernel, by decide⟩
set_option maxRecDepth 100000 in
theorem wc_X6_31 : wCall RX6 31 yX2_at cX2_at 2 (some .int) 1 := ⟨wG_in (i := 608) (by decide +kernel) rfl, cd_X2_at, in_RX2, by decide +kernel, by decide +kernel, by decide⟩
set_option maxRecDepth 100000 in
theorem wc_X6_35 : wCall RX6 35 yX4_word cX4_word 1 (some .int) 1 := ⟨wG_in (i := 609) (by decide +kernel) rfl, cd_X4_word, in_RX4, by decide +kernel, by decide +kernel, by decide⟩
set_option maxRecDepth 100000 in
theorem wc_X6_40 : wCall RX6 40 yX7_length cX7_length 1 (some .int) 1 := ⟨wG_in (i := 612) (by decide +kernel) rfl, cd_X7_length, in_RX7, by decide +kernel, by decide +kernel, by decide⟩
set_option maxRecDepth 100000 in
theorem wc_X6_45 : wCall RX6 45 yX7_letter cX7_letter 2 (some .int) 2 := ⟨wG_in (i := 613) (by decide +kernel) rfl, cd_X7_letter, in_RX7, by decide +kernel, by decide +kernel, by decide⟩
set_option maxRecDepth 100000 in
theorem wc_X6_49 : wCall RX6 49 yX2_add cX2_add 2 none 1 := ⟨wG_in (i := 616) (by decide +kernel) rfl, cd_X2_add, in_RX2, by decide +kernel, by decide +kernel, by decide⟩
set_option maxRecDepth 100000 in
theorem wc_X6_52 : wCall RX6 52 yX2_put cX2_put 3 none 2 := ⟨wG_in (i := 621) (by decide +kernel) rfl, cd_X2_put, in_RX2, by decide +kernel, by decide +kernel, by decide⟩
set_option maxRecDepth 100000 in
theorem wc_X6_55 : wCall RX6 55 yX6_waysTo cX6_waysTo 8 (some .int) 3 := ⟨wG_in (i := 637) (by decide +kernel) rfl, cd_X6_waysTo, in_RX6, by decide +kernel, by decide +kernel, by decide⟩
set_option maxRecDepth 100000 in
theorem wc_X6_59 : wCall RX6 59 yX7_bits cX7_bits 1 (some .int) 1 := ⟨wG_in (i := 631) (by decide +kernel) rfl, cd_X7_bits, in_RX7, by decide +kernel, by decide +kernel, by decide⟩
set_option maxRecDepth 100000 in
theorem wc_X6_62 : wCall RX6 62 yJ9_min_7cf53 cJ9_min_7cf53 2 (some .int) 2 := ⟨wG_in (i := 632) (by decide +kernel) rfl, cd_J9_min_7cf53, in_RJ9, by decide +kernel, by decide +kernel, by decide⟩
set_option maxRecDepth 100000 in
theorem wc_X6_67 : wCall RX6 67 yX7_mask cX7_mask 1 (some .int) 1 := ⟨wG_in (i := 622) (by decide +kernel) rfl, cd_X7_mask, in_RX7, by decide +kernel, by decide +kernel, by decide⟩
set_option maxRecDepth 100000 in
theorem wc_X6_70 : wCall RX6 70 yX6_waysFrom cX6_waysFrom 7 (some .int) 3 := ⟨wG_in (i := 623) (by decide +kernel) rfl, cd_X6_waysFrom, in_RX6, by decide +kernel, by decide +kernel, by decide⟩
set_option maxRecDepth 100000 in
theorem wc_X6_73 : wCall RX6 73 yX6_isNext cX6_isNext 5 (some .boolean) 3 := ⟨wG_in (i := 627) (by decide +kernel) rfl, cd_X6_isNext, in_RX6, by decide +kernel, by decide +kernel, by decide⟩
set_option maxRecDepth 100000 in
theorem wc_X6_77 : wCall RX6 77 yX6_waysFromEnd cX6_waysFromEnd 4 (some .int) 1 := ⟨wG_in (i := 1296) (by decide +kernel) rfl, cd_X6_waysFromEnd, in_RX6, by decide +kernel, by decide +kernel, by decide⟩
set_option maxRecDepth 100000 in
theorem wc_X6_81 : wCall RX6 81 yX6_firstLine cX6_firstLine 6 (some .int) 2 := ⟨wG_in (i := 1297) (by decide +kernel) rfl, cd_X6_firstLine, in_RX6, by decide +kernel, by decide +kernel, by decide⟩
set_option maxRecDepth 100000 in
theorem wc_X7_7 : wCall RX7 7 yX7_bits cX7_bits 1 (some .int) 1 := ⟨wG_in (i := 398) (by decide +kernel) rfl, cd_X7_bits, in_RX7, by decide +kernel, by decide +kernel, by decide⟩
set_option maxRecDepth 100000 in
theorem wc_X7_13 : wCall RX7 13 yX7_length cX7_length 1 (some .int) 1 := ⟨wG_in (i := 395) (by decide +kernel) rfl, cd_X7_length, in_RX7, by decide +kernel, by decide +kernel, by decide⟩
set_option maxRecDepth 100000 in
theorem wc_X7_16 : wCall RX7 16 yJ6_bitCount_0f7a4 cJ6_bitCount_0f7a4 1 (some .int) 1 := ⟨wG_in (i := 1023) (by decide +kernel) rfl, cd_J6_bitCount_0f7a4, in_RJ6, by decide +kernel, by decide +kernel, by decide⟩
set_option maxRecDepth 100000 in
theorem wc_X7_21 : wCall RX7 21 yX7_mask cX7_mask 1 (some .int) 1 := ⟨wG_in (i := 401) (by decide +kernel) rfl, cd_X7_mask, in_RX7, by decide +kernel, by decide +kernel, by decide⟩
set_option maxRecDepth 100000 in
theorem wc_X7_24 : wCall RX7 24 yX7_of cX7_of 2 (some .int) 2 := ⟨wG_in (i := 670) (by decide +kernel) rfl, cd_X7_of, in_RX7, by decide +kernel, by decide +kernel, by decide⟩
set_option maxRecDepth 100000 in
theorem wc_L_7 : wCall RL 7 yX8_sign cX8_sign 4 (some .int) 3 := ⟨wG_in (i := 995) (by decide +kernel) rfl, cd_X8_sign, in_RX8, by decide +kernel, by decide +kernel, by decide⟩
set_option maxRecDepth 100000 in
theorem wc_L_19 : wCall RL 19 yX8_unsign cX8_unsign 2 (some .int) 1 := ⟨wG_in (i := 1032) (by decide +kernel) rfl, cd_X8_unsign, in_RX8, by decide +kernel, by decide +kernel, by decide⟩
set_option maxRecDepth 100000 in
theorem wc_L_23 : wCall RL 23 yX8_priority cX8_priority 3 (some .int) 2 := ⟨wG_in (i := 1052) (by decide +kernel) rfl, cd_X8_priority, in_RX8, by decide +kernel, by decide +kernel, by decide⟩
set_option maxRecDepth 100000 in
theorem wc_L_27 : wCall RL 27 yX8_platform cX8_platform 4 (some .int) 3 := ⟨wG_in (i := 1067) (by decide +kernel) rfl, cd_X8_platform, in_RX8, by decide +kernel, by decide +kernel, by decide⟩
set_option maxRecDepth 100000 in
theorem wc_L_30 : wCall RL 30 yX8_lineOf cX8_lineOf 3 (some .int) 2 := ⟨wG_in (i := 1086) (by decide +kernel) rfl, cd_X8_lineOf, in_RX8, by decide +kernel, by decide +kernel, by decide⟩
set_option maxRecDepth 100000 in
theorem wc_L_33 : wCall RL 33 yX8_platformOf cX8_platformOf 3 (some .int) 2 := ⟨wG_in (i := 1109) (by decide +kernel) rfl, cd_X8_platformOf, in_RX8, by decide +kernel, by decide +kernel, by decide⟩
set_option maxRecDepth 100000 in
theorem wc_L_36 : wCall RL 36 yX8_clash cX8_clash 3 (some .int) 2 := ⟨wG_in (i := 1126) (by decide +kernel) rfl, cd_X8_clash, in_RX8, by decide +kernel, by decide +kernel, by decide⟩
set_option maxRecDepth 100000 in
theorem wc_L_39 : wCall RL 39 yX8_free cX8_free 3 (some .int) 2 := ⟨wG_in (i := 1134) (by decide +kernel) rfl, cd_X8_free, in_RX8, by decide +kernel, by decide +kernel, by decide⟩
set_option maxRecDepth 100000 in
theorem wc_L_43 : wCall RL 43 yX8_whistle cX8_whistle 2 (some .int) 1 := ⟨wG_in (i := 1142) (by decide +kernel) rfl, cd_X8_whistle, in_RX8, by decide +kernel, by decide +kernel, by decide⟩
set_option maxRecDepth 100000 in
theorem wc_L_46 : wCall RL 46 yX8_lie cX8_lie 3 (some .int) 2 := ⟨wG_in (i := 1177) (by decide +kernel) rfl, cd_X8_lie, in_RX8, by decide +kernel, by decide +kernel, by decide⟩
set_option maxRecDepth 100000 in
theorem wc_L_49 : wCall RL 49 yX8_expose cX8_expose 2 (some .int) 1 := ⟨wG_in (i := 1188) (by decide +kernel) rfl, cd_X8_expose, in_RX8, by decide +kernel, by decide +kernel, by decide⟩
set_option maxRecDepth 100000 in
theorem wc_L_52 : wCall RL 52 yX8_mute cX8_mute 3 (some .int) 2 := ⟨wG_in (i := 1215) (by decide +kernel) rfl, cd_X8_mute, in_RX8, by decide +kernel, by decide +kernel, by decide⟩
set_option maxRecDepth 100000 in
theorem wc_L_55 : wCall RL 55 yX8_fine cX8_fine 2 (some .int) 1 := ⟨wG_in (i := 1230) (by decide +kernel) rfl, cd_X8_fine, in_RX8, by decide +kernel, by decide +kernel, by decide⟩
set_option maxRecDepth 100000 in
theorem wc_L_58 : wCall RL 58 yX8_heard cX8_heard 4 (some .int) 2 := ⟨wG_in (i := 1251) (by decide +kernel) rfl, cd_X8_heard, in_RX8, by decide +kernel, by decide +kernel, by decide⟩
set_option maxRecDepth 100000 in
theorem wc_L_63 : wCall RL 63 yX8_reading cX8_reading 3 (some .int) 1 := ⟨wG_in (i := 1288) (by decide +kernel) rfl, cd_X8_reading, in_RX8, by decide +kernel, by decide +kernel, by decide⟩
set_option maxRecDepth 100000 in
theorem wc_L_66 : wCall RL 66 yX8_soonest cX8_soonest 2 (some .int) 1 := ⟨wG_in (i := 1305) (by decide +kernel) rfl, cd_X8_soonest, in_RX8, by decide +kernel, by decide +kernel, by decide⟩
set_option maxRecDepth 100000 in
theorem wc_L_69 : wCall RL 69 yX8_ranked cX8_ranked 3 (some .int) 2 := ⟨wG_in (i := 1317) (by decide +kernel) rfl, cd_X8_ranked, in_RX8, by decide +kernel, by decide +kernel, by decide⟩
set_option maxRecDepth 100000 in
theorem wc_L_72 : wCall RL 72 yX8_text cX8_text 2 (some .int) 1 := ⟨wG_in (i := 1332) (by decide +kernel) rfl, cd_X8_text, in_RX8, by decide +kernel, by decide +kernel, by decide⟩
set_option maxRecDepth 100000 in
theorem wc_L_75 : wCall RL 75 yX8_character cX8_character 2 (some .char) 1 := ⟨wG_in (i := 1344) (by decide +kernel) rfl, cd_X8_character, in_RX8, by decide +kernel, by decide +kernel, by decide⟩
set_option maxRecDepth 100000 in
theorem wc_L_79 : wCall RL 79 yX8_refusal cX8_refusal 2 (some .int) 1 := ⟨wG_in (i := 1363) (by decide +kernel) rfl, cd_X8_refusal, in_RX8, by decide +kernel, by decide +kernel, by decide⟩
set_option maxRecDepth 100000 in
theorem wc_L_85 : wCall RL 85 yX8_account cX8_account 2 (some .int) 1 := ⟨wG_in (i := 1386) (by decide +kernel) rfl, cd_X8_account, in_RX8, by decide +kernel, by decide +kernel, by decide⟩
set_option maxRecDepth 100000 in
theorem wc_L_88 : wCall RL 88 yX8_meanLength cX8_meanLength 2 (some .double) 0 := ⟨wG_in (i := 1431) (by decide +kernel) rfl, cd_X8_meanLength, in_RX8, by decide +kernel, by decide +kernel, by decide⟩
set_option maxRecDepth 100000 in
theorem wc_L_94 : wCall RL 94 yX8_lieShare cX8_lieShare 1 (some .float) 0 := ⟨wG_in (i := 1444) (by decide +kernel) rfl, cd_X8_lieShare, in_RX8, by decide +kernel, by decide +kernel, by decide⟩
set_option maxRecDepth 100000 in
theorem wc_L_98 : wCall RL 98 yX8_append cX8_append 5 (some .int) 1 := ⟨wG_in (i := 1453) (by decide +kernel) rfl, cd_X8_append, in_RX8, by decide +kernel, by decide +kernel, by decide⟩
set_option maxRecDepth 100000 in
theorem wc_L_101 : wCall RL 101 yX8_read cX8_read 3 (some .int) 0 := ⟨wG_in (i := 1467) (by decide +kernel) rfl, cd_X8_read, in_RX8, by decide +kernel, by decide +kernel, by decide⟩
set_option maxRecDepth 100000 in
theorem wc_L_105 : wCall RL 105 yX8_errorPosition cX8_errorPosition 1 (some .int) 0 := ⟨wG_in (i := 1573) (by decide +kernel) rfl, cd_X8_errorPosition, in_RX8, by decide +kernel, by decide +kernel, by decide⟩
set_option maxRecDepth 100000 in
theorem wc_L_108 : wCall RL 108 yX8_refusedItem cX8_refusedItem 1 (some .int) 0 := ⟨wG_in (i := 1581) (by decide +kernel) rfl, cd_X8_refusedItem, in_RX8, by decide +kernel, by decide +kernel, by decide⟩
set_option maxRecDepth 100000 in
theorem wc_L_111 : wCall RL 111 yX8_undo cX8_undo 1 (some .int) 0 := ⟨wG_in (i := 1589) (by decide +kernel) rfl, cd_X8_undo, in_RX8, by decide +kernel, by decide +kernel, by decide⟩
set_option maxRecDepth 100000 in
theorem wc_L_114 : wCall RL 114 yX8_restore cX8_restore 1 (some .int) 0 := ⟨wG_in (i := 1601) (by decide +kernel) rfl, cd_X8_restore, in_RX8, by decide +kernel, by decide +kernel, by decide⟩
set_option maxRecDepth 100000 in
theorem wc_L_117 : wCall RL 117 yX8_init cX8_init 1 none 0 := ⟨wG_in (i := 126) (by decide +kernel) rfl, cd_X8_init, in_RX8, by decide +kernel, by decide +kernel, by decide⟩
set_option maxRecDepth 100000 in
theorem wc_L_120 : wCall RL 120 yX9_init cX9_init 1 none 0 := ⟨wG_in (i := 1608) (by decide +kernel) rfl, cd_X9_init, in_RX9, by decide +kernel, by decide +kernel, by decide⟩
set_option maxRecDepth 100000 in
theorem wc_L_121 : wCall RL 121 yX8_clear cX8_clear 2 (some .int) 0 := ⟨wG_in (i := 362) (by decide +kernel) rfl, cd_X8_clear, in_RX8, by decide +kernel, by decide +kernel, by decide⟩
set_option maxRecDepth 100000 in
theorem wc_L_124 : wCall RL 124 yX9_clear cX9_clear 2 (some .int) 0 := ⟨wG_in (i := 1706) (by decide +kernel) rfl, cd_X9_clear, in_RX9, by decide +kernel, by decide +kernel, by decide⟩
set_option maxRecDepth 100000 in
theorem wc_L_130 : wCall RL 130 yX9_sign cX9_sign 4 (some .int) 3 := ⟨wG_in (i := 1718) (by decide +kernel) rfl, cd_X9_sign, in_RX9, by decide +kernel, by decide +kernel, by decide⟩
set_option maxRecDepth 100000 in
theorem wc_L_131 : wCall RL 131 yX9_thrown cX9_thrown 1 (some .int) 0 := ⟨wG_in (i := 1702) (by decide +kernel) rfl, cd_X9_thrown, in_RX9, by decide +kernel, by decide +kernel, by decide⟩
set_option maxRecDepth 100000 in
theorem wc_L_137 : wCall RL 137 yX9_unsign cX9_unsign 2 (some .int) 1 := ⟨wG_in (i := 1769) (by decide +kernel) rfl, cd_X9_unsign, in_RX9, by decide +kernel, by decide +kernel, by decide⟩
set_option maxRecDepth 100000 in
theorem wc_L_141 : wCall RL 141 yX9_priority cX9_priority 3 (some .int) 2 := ⟨wG_in (i := 1781) (by decide +kernel) rfl, cd_X9_priority, in_RX9, by decide +kernel, by decide +kernel, by decide⟩
set_option maxRecDepth 100000 in
theorem wc_L_144 : wCall RL 144 yX9_platform cX9_platform 4 (some .int) 3 := ⟨wG_in (i := 1796) (by decide +kernel) rfl, cd_X9_platform, in_RX9, by decide +kernel, by decide +kernel, by decide⟩
set_option maxRecDepth 100000 in
theorem wc_L_147 : wCall RL 147 yX9_lineOf cX9_lineOf 3 (some .int) 2 := ⟨wG_in (i := 1930) (by decide +kernel) rfl, cd_X9_lineOf, in_RX9, by decide +kernel, by decide +kernel, by decide⟩
set_option maxRecDepth 100000 in
theorem wc_L_150 : wCall RL 150 yX9_platformOf cX9_platformOf 3 (some .int) 2 := ⟨wG_in (i := 1934) (by decide +kernel) rfl, cd_X9_platformOf, in_RX9, by decide +kernel, by decide +kernel, by decide⟩
set_option maxRecDepth 100000 in
theorem wc_L_153 : wCall RL 153 yX9_clash cX9_clash 3 (some .int) 2 := ⟨wG_in (i := 1942) (by decide +kernel) rfl, cd_X9_clash, in_RX9, by decide +kernel, by decide +kernel, by decide⟩
set_option maxRecDepth 100000 in
theorem wc_L_154 : wCall RL 154 yX8_isClear cX8_isClear 1 (some .boolean) 0 := ⟨wG_in (i := 378) (by decide +kernel) rfl, cd_X8_isClear, in_RX8, by decide +kernel, by decide +kernel, by decide⟩
set_option maxRecDepth 100000 in
theorem wc_L_158 : wCall RL 158 yX9_isClear cX9_isClear 3 (some .boolean) 0 := ⟨wG_in (i := 1953) (by decide +kernel) rfl, cd_X9_isClear, in_RX9, by decide +kernel, by decide +kernel, by decide⟩
set_option maxRecDepth 100000 in
theorem wc_L_162 : wCall RL 162 yX9_free cX9_free 5 (some .int) 2 := ⟨wG_in (i := 1957) (by decide +kernel) rfl, cd_X9_free, in_RX9, by decide +kernel, by decide +kernel, by decide⟩
set_option maxRecDepth 100000 in
theorem wc_L_165 : wCall RL 165 yX9_whistle cX9_whistle 2 (some .int) 1 := ⟨wG_in (i := 1811) (by decide +kernel) rfl, cd_X9_whistle, in_RX9, by decide +kernel, by decide +kernel, by decide⟩
set_option maxRecDepth 100000 in
theorem wc_L_168 : wCall RL 168 yX9_lie cX9_lie 3 (some .int) 2 := ⟨wG_in (i := 1841) (by decide +kernel) rfl, cd_X9_lie, in_RX9, by decide +kernel, by decide +kernel, by decide⟩
set_option maxRecDepth 100000 in
theorem wc_L_171 : wCall RL 171 yX9_expose cX9_expose 2 (some .int) 1 := ⟨wG_in (i := 1849) (by decide +kernel) rfl, cd_X9_expose, in_RX9, by decide +kernel, by decide +kernel, by decide⟩
set_option maxRecDepth 100000 in
theorem wc_L_174 : wCall RL 174 yX9_mute cX9_mute 3 (some .int) 2 := ⟨wG_in (i := 1867) (by decide +kernel) rfl, cd_X9_mute, in_RX9, by decide +kernel, by decide +kernel, by decide⟩
set_option maxRecDepth 100000 in
theorem wc_L_177 : wCall RL 177 yX9_fine cX9_fine 2 (some .int) 1 := ⟨wG_in (i := 1886) (by decide +kernel) rfl, cd_X9_fine, in_RX9, by decide +kernel, by decide +kernel, by decide⟩
set_option maxRecDepth 100000 in
theorem wc_L_178 : wCall RL 178 yX8_hour cX8_hour 1 (some .int) 0 := ⟨wG_in (i := 404) (by decide +kernel) rfl, cd_X8_hour, in_RX8, by decide +kernel, by decide +kernel, by decide⟩
set_option maxRecDepth 100000 in
theorem wc_L_181 : wCall RL 181 yX9_hour cX9_hour 1 (some .int) 0 := ⟨wG_in (i := 1898) (by decide +kernel) rfl, cd_X9_hour, in_RX9, by decide +kernel, by decide +kernel, by decide⟩
set_option maxRecDepth 100000 in
theorem wc_L_182 : wCall RL 182 yX8_way cX8_way 1 (some .int) 0 := ⟨wG_in (i := 593) (by decide +kernel) rfl, cd_X8_way, in_RX8, by decide +kernel, by decide +kernel, by decide⟩
set_option maxRecDepth 100000 in
theorem wc_L_185 : wCall RL 185 yX9_way cX9_way 1 (some .int) 0 := ⟨wG_in (i := 1922) (by decide +kernel) rfl, cd_X9_way, in_RX9, by decide +kernel, by decide +kernel, by decide⟩
set_option maxRecDepth 100000 in
theorem wc_L_188 : wCall RL 188 yX9_heard cX9_heard 4 (some .int) 2 := ⟨wG_in (i := 1926) (by decide +kernel) rfl, cd_X9_heard, in_RX9, by decide +kernel, by decide +kernel, by decide⟩
set_option maxRecDepth 100000 in
theorem wc_L_189 : wCall RL 189 yX8_ways cX8_ways 2 (some .int) 1 := ⟨wG_in (i := 598) (by decide +kernel) rfl, cd_X8_ways, in_RX8, by decide +kernel, by decide +kernel, by decide⟩
set_option maxRecDepth 100000 in
theorem wc_L_192 : wCall RL 192 yX9_ways cX9_ways 2 (some .int) 1 := ⟨wG_in (i := 1965) (by decide +kernel) rfl, cd_X9_ways, in_RX9, by decide +kernel, by decide +kernel, by decide⟩
set_option maxRecDepth 100000 in
theorem wc_L_195 : wCall RL 195 yX9_reading cX9_reading 5 (some .int) 1 := ⟨wG_in (i := 1981) (by decide +kernel) rfl, cd_X9_reading, in_RX9, by decide +kernel, by decide +kernel, by decide⟩
set_option maxRecDepth 100000 in
theorem wc_L_198 : wCall RL 198 yX9_soonest cX9_soonest 5 (some .int) 1 := ⟨wG_in (i := 1989) (by decide +kernel) rfl, cd_X9_soonest, in_RX9, by decide +kernel, by decide +kernel, by decide⟩
set_option maxRecDepth 100000 in
theorem wc_L_201 : wCall RL 201 yX9_ranked cX9_ranked 6 (some .int) 2 := ⟨wG_in (i := 1993) (by decide +kernel) rfl, cd_X9_ranked, in_RX9, by decide +kernel, by decide +kernel, by decide⟩
set_option maxRecDepth 100000 in
theorem wc_L_202 : wCall RL 202 yX8_isRight cX8_isRight 2 (some .boolean) 0 := ⟨wG_in (i := 641) (by decide +kernel) rfl, cd_X8_isRight, in_RX8, by decide +kernel, by decide +kernel, by decide⟩
set_option maxRecDepth 100000 in
theorem wc_L_205 : wCall RL 205 yX9_isRight cX9_isRight 1 (some .boolean) 0 := ⟨wG_in (i := 2001) (by decide +kernel) rfl, cd_X9_isRight, in_RX9, by decide +kernel, by decide +kernel, by decide⟩
set_option maxRecDepth 100000 in
theorem wc_L_208 : wCall RL 208 yX9_text cX9_text 3 (some .int) 1 := ⟨wG_in (i := 2005) (by decide +kernel) rfl, cd_X9_text, in_RX9, by decide +kernel, by decide +kernel, by decide⟩
set_option maxRecDepth 100000 in
theorem wc_L_209 : wCall RL 209 yX8_strip cX8_strip 2 (some .int) 0 := ⟨wG_in (i := 675) (by decide +kernel) rfl, cd_X8_strip, in_RX8, by decide +kernel, by decide +kernel, by decide⟩
set_option maxRecDepth 100000 in
theorem wc_L_212 : wCall RL 212 yX9_strip cX9_strip 2 (some .int) 0 := ⟨wG_in (i := 2017) (by decide +kernel) rfl, cd_X9_strip, in_RX9, by decide +kernel, by decide +kernel, by decide⟩
set_option maxRecDepth 100000 in
theorem wc_L_215 : wCall RL 215 yX9_character cX9_character 2 (some .char) 1 := ⟨wG_in (i := 2021) (by decide +kernel) rfl, cd_X9_character, in_RX9, by decide +kernel, by decide +kernel, by decide⟩
set_option maxRecDepth 100000 in
theorem wc_L_219 : wCall RL 219 yX9_refusal cX9_refusal 2 (some .int) 1 := ⟨wG_in (i := 2025) (by decide +kernel) rfl, cd_X9_refusal, in_RX9, by decide +kernel, by decide +kernel, by decide⟩
set_option maxRecDepth 100000 in
theorem wc_L_222 : wCall RL 222 yX9_account cX9_account 2 (some .int) 1 := ⟨wG_in (i := 2029) (by decide +kernel) rfl, cd_X9_account, in_RX9, by decide +kernel, by decide +kernel, by decide⟩
set_option maxRecDepth 100000 in
theorem wc_L_226 : wCall RL 226 yX9_meanLength cX9_meanLength 2 (some .double) 0 := ⟨wG_in (i := 2041) (by decide +kernel) rfl, cd_X9_meanLength, in_RX9, by decide +kernel, by decide +kernel, by decide⟩
set_option maxRecDepth 100000 in
theorem wc_L_229 : wCall RL 229 yX9_lieShare cX9_lieShare 2 (some .float) 0 := ⟨wG_in (i := 2045) (by decide +kernel) rfl, cd_X9_lieShare, in_RX9, by decide +kernel, by decide +kernel, by decide⟩
set_option maxRecDepth 100000 in
theorem wc_L_232 : wCall RL 232 yX9_append cX9_append 5 (some .int) 1 := ⟨wG_in (i := 2049) (by decide +kernel) rfl, cd_X9_append, in_RX9, by decide +kernel, by decide +kernel, by decide⟩
set_option maxRecDepth 100000 in
theorem wc_L_236 : wCall RL 236 yX9_read cX9_read 2 (some .int) 0 := ⟨wG_in (i := 2053) (by decide +kernel) rfl, cd_X9_read, in_RX9, by decide +kernel, by decide +kernel, by decide⟩
set_option maxRecDepth 100000 in
theorem wc_L_239 : wCall RL 239 yX9_errorPosition cX9_errorPosition 1 (some .int) 0 := ⟨wG_in (i := 2093) (by decide +kernel) rfl, cd_X9_errorPosition, in_RX9, by decide +kernel, by decide +kernel, by decide⟩
set_option maxRecDepth 100000 in
theorem wc_L_242 : wCall RL 242 yX9_refusedItem cX9_refusedItem 1 (some .int) 0 := ⟨wG_in (i := 2097) (by decide +kernel) rfl, cd_X9_refusedItem, in_RX9, by decide +kernel, by decide +kernel, by decide⟩
set_option maxRecDepth 100000 in
theorem wc_L_245 : wCall RL 245 yX9_undo cX9_undo 1 (some .int) 0 := ⟨wG_in (i := 2101) (by decide +kernel) rfl, cd_X9_undo, in_RX9, by decide +kernel, by decide +kernel, by decide⟩
set_option maxRecDepth 100000 in
theorem wc_L_246 : wCall RL 246 yX8_snapshot cX8_snapshot 1 (some .int) 0 := ⟨wG_in (i := 982) (by decide +kernel) rfl, cd_X8_snapshot, in_RX8, by decide +kernel, by decide +kernel, by decide⟩
set_option maxRecDepth 100000 in
theorem wc_L_249 : wCall RL 249 yX9_snapshot cX9_snapshot 1 (some .int) 0 := ⟨wG_in (i := 2105) (by decide +kernel) rfl, cd_X9_snapshot, in_RX9, by decide +kernel, by decide +kernel, by decide⟩
set_option maxRecDepth 100000 in
theorem wc_L_252 : wCall RL 252 yX9_restore cX9_restore 1 (some .int) 0 := ⟨wG_in (i := 2109) (by decide +kernel) rfl, cd_X9_restore, in_RX9, by decide +kernel, by decide +kernel, by decide⟩
set_option maxRecDepth 100000 in
theorem wc_X9_93 : wCall RX9 93 yX9_clears cX9_clears 2 none 0 := ⟨wG_in (i := 1612) (by decide +kernel) rfl, cd_X9_clears, in_RX9, by decide +kernel, by decide +kernel, by decide⟩
set_option maxRecDepth 100000 in
theorem wc_X9_96 : wCall RX9 96 yX9_no cX9_no 2 (some .int) 1 := ⟨wG_in (i := 1735) (by decide +kernel) rfl, cd_X9_no, in_RX9, by decide +kernel, by decide +kernel, by decide⟩
set_option maxRecDepth 100000 in
theorem wc_X9_100 : wCall RX9 100 yX9_copies cX9_copies 5 none 4 := ⟨wG_in (i := 1726) (by decide +kernel) rfl, cd_X9_copies, in_RX9, by decide +kernel, by decide +kernel, by decide⟩
set_option maxRecDepth 100000 in
theorem wc_X9_104 : wCall RX9 104 yX9_ll cX9_ll 4 none 3 := ⟨wG_in (i := 1616) (by decide +kernel) rfl, cd_X9_ll, in_RX9, by decide +kernel, by decide +kernel, by decide⟩
set_option maxRecDepth 100000 in
theorem wc_X9_108 : wCall RX9 108 yX9_lv cX9_lv 3 (some .int) 2 := ⟨wG_in (i := 1714) (by decide +kernel) rfl, cd_X9_lv, in_RX9, by decide +kernel, by decide +kernel, by decide⟩
set_option maxRecDepth 100000 in
theorem wc_X9_112 : wCall RX9 112 yX9_signs cX9_signs 3 (some .int) 0 := ⟨wG_in (i := 1710) (by decide +kernel) rfl, cd_X9_signs, in_RX9, by decide +kernel, by decide +kernel, by decide⟩
set_option maxRecDepth 100000 in
theorem wc_X9_116 : wCall RX9 116 yX9_in cX9_in 3 (some .boolean) 3 := ⟨wG_in (i := 1732) (by decide +kernel) rfl, cd_X9_in, in_RX9, by decide +kernel, by decide +kernel, by decide⟩
set_option maxRecDepth 100000 in
theorem wc_X9_120 : wCall RX9 120 yX9_steamOf cX9_steamOf 4 (some .int) 2 := ⟨wG_in (i := 1762) (by decide +kernel) rfl, cd_X9_steamOf, in_RX9, by decide +kernel, by decide +kernel, by decide⟩
set_option maxRecDepth 100000 in
theorem wc_X9_123 : wCall RX9 123 yX9_isBad cX9_isBad 3 (some .boolean) 2 := ⟨wG_in (i := 1746) (by decide +kernel) rfl, cd_X9_isBad, in_RX9, by decide +kernel, by decide +kernel, by decide⟩
set_option maxRecDepth 100000 in
theorem wc_X9_127 : wCall RX9 127 yX9_itsSteam cX9_itsSteam 2 (some .int) 1 := ⟨wG_in (i := 1758) (by decide +kernel) rfl, cd_X9_itsSteam, in_RX9, by decide +kernel, by decide +kernel, by decide⟩
set_option maxRecDepth 100000 in
theorem wc_X9_130 : wCall RX9 130 yX9_begins cX9_begins 1 none 0 := ⟨wG_in (i := 1722) (by decide +kernel) rfl, cd_X9_begins, in_RX9, by decide +kernel, by decide +kernel, by decide⟩
set_option maxRecDepth 100000 in
theorem wc_X9_133 : wCall RX9 133 yX9_isLine cX9_isLine 1 (some .boolean) 1 := ⟨wG_in (i := 1729) (by decide +kernel) rfl, cd_X9_isLine, in_RX9, by decide +kernel, by decide +kernel, by decide⟩
set_option maxRecDepth 100000 in
theorem wc_X9_137 : wCall RX9 137 yX9_isWord cX9_isWord 2 (some .boolean) 2 := ⟨wG_in (i := 1739) (by decide +kernel) rfl, cd_X9_isWord, in_RX9, by decide +kernel, by decide +kernel, by decide⟩
set_option maxRecDepth 100000 in
theorem wc_X9_140 : wCall RX9 140 yX9_isRefusedSign cX9_isRefusedSign 4 (some .boolean) 2 := ⟨wG_in (i := 1742) (by decide +kernel) rfl, cd_X9_isRefusedSign, in_RX9, by decide +kernel, by decide +kernel, by decide⟩
set_option maxRecDepth 100000 in
theorem wc_X9_143 : wCall RX9 143 yX9_refused cX9_refused 2 (some .int) 1 := ⟨wG_in (i := 1750) (by decide +kernel) rfl, cd_X9_refused, in_RX9, by decide +kernel, by decide +kernel, by decide⟩
set_option maxRecDepth 100000 in
theorem wc_X9_146 : wCall RX9 146 yX9_tells cX9_tells 4 (some .int) 3 := ⟨wG_in (i := 1754) (by decide +kernel) rfl, cd_X9_tells, in_RX9, by decide +kernel, by decide +kernel, by decide⟩
set_option maxRecDepth 100000 in
theorem wc_X9_150 : wCall RX9 150 yX9_keeps cX9_keeps 3 (some .int) 1 := ⟨wG_in (i := 1765) (by decide +kernel) rfl, cd_X9_keeps, in_RX9, by decide +kernel, by decide +kernel, by decide⟩
set_option maxRecDepth 100000 in
theorem wc_X9_153 : wCall RX9 153 yX9_hasNoSign cX9_hasNoSign 2 (some .boolean) 1 := ⟨wG_in (i := 1773) (by decide +kernel) rfl, cd_X9_hasNoSign, in_RX9, by decide +kernel, by decide +kernel, by decide⟩
set_option maxRecDepth 100000 in
theorem wc_X9_156 : wCall RX9 156 yX9_unsigns cX9_unsigns 2 (some .int) 1 := ⟨wG_in (i := 1777) (by decide +kernel) rfl, cd_X9_unsigns, in_RX9, by decide +kernel, by decide +kernel, by decide⟩
set_option maxRecDepth 100000 in
theorem wc_X9_159 : wCall RX9 159 yX9_isPriority cX9_isPriority 1 (some .boolean) 1 := ⟨wG_in (i := 1785) (by decide +kernel) rfl, cd_X9_isPriority, in_RX9, by decide +kernel, by decide +kernel, by decide⟩
set_option maxRecDepth 100000 in
theorem wc_X9_162 : wCall RX9 162 yX9_isRefusedPriority cX9_isRefusedPriority 3 (some .boolean) 2 := ⟨wG_in (i := 1788) (by decide +kernel) rfl, cd_X9_isRefusedPriority, in_RX9, by decide +kernel, by decide +kernel, by decide⟩
set_option maxRecDepth 100000 in
theorem wc_X9_165 : wCall RX9 165 yX9_orders cX9_orders 4 (some .int) 2 := ⟨wG_in (i := 1792) (by decide +kernel) rfl, cd_X9_orders, in_RX9, by decide +kernel, by decide +kernel, by decide⟩
set_option maxRecDepth 100000 in
theorem wc_X9_168 : wCall RX9 168 yX9_pv cX9_pv 3 (some .int) 2 := ⟨wG_in (i := 1807) (by decide +kernel) rfl, cd_X9_pv, in_RX9, by decide +kernel, by decide +kernel, by decide⟩
set_option maxRecDepth 100000 in
theorem wc_X9_171 : wCall RX9 171 yX9_isPlatform cX9_isPlatform 1 (some .boolean) 1 := ⟨wG_in (i := 1800) (by decide +kernel) rfl, cd_X9_isPlatform, in_RX9, by decide +kernel, by decide +kernel, by decide⟩
set_option maxRecDepth 100000 in
theorem wc_X9_174 : wCall RX9 174 yX9_lays cX9_lays 6 (some .int) 3 := ⟨wG_in (i := 1803) (by decide +kernel) rfl, cd_X9_lays, in_RX9, by decide +kernel, by decide +kernel, by decide⟩
set_option maxRecDepth 100000 in
theorem wc_X9_178 : wCall RX9 178 yX9_lengthIn cX9_lengthIn 1 (some .int) 1 := ⟨wG_in (i := 1834) (by decide +kernel) rfl, cd_X9_lengthIn, in_RX9, by decide +kernel, by decide +kernel, by decide⟩
set_option maxRecDepth 100000 in
theorem wc_X9_181 : wCall RX9 181 yX9_bitsIn cX9_bitsIn 1 (some .int) 1 := ⟨wG_in (i := 1837) (by decide +kernel) rfl, cd_X9_bitsIn, in_RX9, by decide +kernel, by decide +kernel, by decide⟩
set_option maxRecDepth 100000 in
theorem wc_X9_184 : wCall RX9 184 yX9_sound cX9_sound 5 (some .int) 5 := ⟨wG_in (i := 1827) (by decide +kernel) rfl, cd_X9_sound, in_RX9, by decide +kernel, by decide +kernel, by decide⟩
set_option maxRecDepth 100000 in
theorem wc_X9_188 : wCall RX9 188 yX9_sounds cX9_sounds 2 none 1 := ⟨wG_in (i := 1830) (by decide +kernel) rfl, cd_X9_sounds, in_RX9, by decide +kernel, by decide +kernel, by decide⟩
set_option maxRecDepth 100000 in
theorem wc_X9_193 : wCall RX9 193 yX9_sings cX9_sings 5 (some .int) 3 := ⟨wG_in (i := 1823) (by decide +kernel) rfl, cd_X9_sings, in_RX9, by decide +kernel, by decide +kernel, by decide⟩
set_option maxRecDepth 100000 in
theorem wc_X9_196 : wCall RX9 196 yX9_isHushed cX9_isHushed 4 (some .boolean) 3 := ⟨wG_in (i := 1815) (by decide +kernel) rfl, cd_X9_isHushed, in_RX9, by decide +kernel, by decide +kernel, by decide⟩
set_option maxRecDepth 100000 in
theorem wc_X9_199 : wCall RX9 199 yX9_whistles cX9_whistles 2 (some .int) 1 := ⟨wG_in (i := 1819) (by decide +kernel) rfl, cd_X9_whistles, in_RX9, by decide +kernel, by decide +kernel, by decide⟩
set_option maxRecDepth 100000 in
theorem wc_X9_202 : wCall RX9 202 yX9_lies cX9_lies 3 (some .int) 2 := ⟨wG_in (i := 1845) (by decide +kernel) rfl, cd_X9_lies, in_RX9, by decide +kernel, by decide +kernel, by decide⟩
set_option maxRecDepth 100000 in
theorem wc_X9_205 : wCall RX9 205 yX9_byIn cX9_byIn 1 (some .int) 1 := ⟨wG_in (i := 1861) (by decide +kernel) rfl, cd_X9_byIn, in_RX9, by decide +kernel, by decide +kernel, by decide⟩
set_option maxRecDepth 100000 in
theorem wc_X9_208 : wCall RX9 208 yX9_platformIn cX9_platformIn 1 (some .int) 1 := ⟨wG_in (i := 1864) (by decide +kernel) rfl, cd_X9_platformIn, in_RX9, by decide +kernel, by decide +kernel, by decide⟩
set_option maxRecDepth 100000 in
theorem wc_X9_211 : wCall RX9 211 yX9_isRefusedExpose cX9_isRefusedExpose 2 (some .boolean) 1 := ⟨wG_in (i := 1853) (by decide +kernel) rfl, cd_X9_isRefusedExpose, in_RX9, by decide +kernel, by decide +kernel, by decide⟩
set_option maxRecDepth 100000 in
theorem wc_X9_214 : wCall RX9 214 yX9_exposes cX9_exposes 4 (some .int) 1 := ⟨wG_in (i := 1857) (by decide +kernel) rfl, cd_X9_exposes, in_RX9, by decide +kernel, by decide +kernel, by decide⟩
set_option maxRecDepth 100000 in
theorem wc_X9_217 : wCall RX9 217 yX9_mutedMany cX9_mutedMany 3 (some .int) 0 := ⟨wG_in (i := 1882) (by decide +kernel) rfl, cd_X9_mutedMany, in_RX9, by decide +kernel, by decide +kernel, by decide⟩
set_option maxRecDepth 100000 in
theorem wc_X9_220 : wCall RX9 220 yX9_areHours cX9_areHours 1 (some .boolean) 1 := ⟨wG_in (i := 1871) (by decide +kernel) rfl, cd_X9_areHours, in_RX9, by decide +kernel, by decide +kernel, by decide⟩
set_option maxRecDepth 100000 in
theorem wc_X9_223 : wCall RX9 223 yX9_isRefusedMute cX9_isRefusedMute 2 (some .boolean) 1 := ⟨wG_in (i := 1874) (by decide +kernel) rfl, cd_X9_isRefusedMute, in_RX9, by decide +kernel, by decide +kernel, by decide⟩
set_option maxRecDepth 100000 in
theorem wc_X9_226 : wCall RX9 226 yX9_mutes cX9_mutes 3 (some .int) 2 := ⟨wG_in (i := 1878) (by decide +kernel) rfl, cd_X9_mutes, in_RX9, by decide +kernel, by decide +kernel, by decide⟩
set_option maxRecDepth 100000 in
theorem wc_X9_229 : wCall RX9 229 yX9_isRefusedFine cX9_isRefusedFine 2 (some .boolean) 1 := ⟨wG_in (i := 1890) (by decide +kernel) rfl, cd_X9_isRefusedFine, in_RX9, by decide +kernel, by decide +kernel, by decide⟩
set_option maxRecDepth 100000 in
theorem wc_X9_232 : wCall RX9 232 yX9_pays cX9_pays 3 (some .int) 1 := ⟨wG_in (i := 1894) (by decide +kernel) rfl, cd_X9_pays, in_RX9, by decide +kernel, by decide +kernel, by decide⟩
set_option maxRecDepth 100000 in
theorem wc_X9_235 : wCall RX9 235 yX9_toldIn cX9_toldIn 1 (some .int) 1 := ⟨wG_in (i := 1910) (by decide +kernel) rfl, cd_X9_toldIn, in_RX9, by decide +kernel, by decide +kernel, by decide⟩
set_option maxRecDepth 100000 in
theorem wc_X9_238 : wCall RX9 238 yX9_wayAt cX9_wayAt 3 (some .int) 0 := ⟨wG_in (i := 1906) (by decide +kernel) rfl, cd_X9_wayAt, in_RX9, by decide +kernel, by decide +kernel, by decide⟩
set_option maxRecDepth 100000 in
theorem wc_X9_241 : wCall RX9 241 yX9_wayOf cX9_wayOf 2 (some .int) 1 := ⟨wG_in (i := 1914) (by decide +kernel) rfl, cd_X9_wayOf, in_RX9, by decide +kernel, by decide +kernel, by decide⟩
set_option maxRecDepth 100000 in
theorem wc_X9_244 : wCall RX9 244 yX9_hears cX9_hears 5 none 0 := ⟨wG_in (i := 1918) (by decide +kernel) rfl, cd_X9_hears, in_RX9, by decide +kernel, by decide +kernel, by decide⟩
set_option maxRecDepth 100000 in
theorem wc_X9_247 : wCall RX9 247 yX9_goesBy cX9_goesBy 4 (some .int) 0 := ⟨wG_in (i := 1902) (by decide +kernel) rfl, cd_X9_goesBy, in_RX9, by decide +kernel, by decide +kernel, by decide⟩
set_option maxRecDepth 100000 in
theorem wc_X9_250 : wCall RX9 250 yX9_comingTo cX9_comingTo 4 (some .int) 1 := ⟨wG_in (i := 1938) (by decide +kernel) rfl, cd_X9_comingTo, in_RX9, by decide +kernel, by decide +kernel, by decide⟩
set_option maxRecDepth 100000 in
theorem wc_X9_253 : wCall RX9 253 yX9_starts cX9_starts 4 (some .boolean) 4 := ⟨wG_in (i := 1950) (by decide +kernel) rfl, cd_X9_starts, in_RX9, by decide +kernel, by decide +kernel, by decide⟩
set_option maxRecDepth 100000 in
theorem wc_X9_257 : wCall RX9 257 yX9_startsThat cX9_startsThat 3 (some .boolean) 2 := ⟨wG_in (i := 1946) (by decide +kernel) rfl, cd_X9_startsThat, in_RX9, by decide +kernel, by decide +kernel, by decide⟩
set_option maxRecDepth 100000 in
theorem wc_X9_260 : wCall RX9 260 yX9_isFree cX9_isFree 4 (some .boolean) 2 := ⟨wG_in (i := 1961) (by decide +kernel) rfl, cd_X9_isFree, in_RX9, by decide +kernel, by decide +kernel, by decide⟩
set_option maxRecDepth 100000 in
theorem wc_X9_263 : wCall RX9 263 yX9_laysLetters cX9_laysLetters 4 none 0 := ⟨wG_in (i := 1973) (by decide +kernel) rfl, cd_X9_laysLetters, in_RX9, by decide +kernel, by decide +kernel, by decide⟩
set_option maxRecDepth 100000 in
theorem wc_X9_266 : wCall RX9 266 yX9_stands cX9_stands 5 (some .boolean) 2 := ⟨wG_in (i := 1977) (by decide +kernel) rfl, cd_X9_stands, in_RX9, by decide +kernel, by decide +kernel, by decide⟩
set_option maxRecDepth 100000 in
theorem wc_X9_269 : wCall RX9 269 yX9_laysReadings cX9_laysReadings 4 (some .int) 0 := ⟨wG_in (i := 1969) (by decide +kernel) rfl, cd_X9_laysReadings, in_RX9, by decide +kernel, by decide +kernel, by decide⟩
set_option maxRecDepth 100000 in
theorem wc_X9_272 : wCall RX9 272 yX9_readAt cX9_readAt 3 (some .int) 1 := ⟨wG_in (i := 1985) (by decide +kernel) rfl, cd_X9_readAt, in_RX9, by decide +kernel, by decide +kernel, by decide⟩
set_option maxRecDepth 100000 in
theorem wc_X9_275 : wCall RX9 275 yX9_measured cX9_measured 3 (some .int) 2 := ⟨wG_in (i := 1997) (by decide +kernel) rfl, cd_X9_measured, in_RX9, by decide +kernel, by decide +kernel, by decide⟩
set_option maxRecDepth 100000 in
theorem wc_X9_278 : wCall RX9 278 yX9_writes cX9_writes 2 none 1 := ⟨wG_in (i := 2013) (by decide +kernel) rfl, cd_X9_writes, in_RX9, by decide +kernel, by decide +kernel, by decide⟩
set_option maxRecDepth 100000 in
theorem wc_X9_281 : wCall RX9 281 yX9_writesNumber cX9_writesNumber 2 none 1 := ⟨wG_in (i := 2009) (by decide +kernel) rfl, cd_X9_writesNumber, in_RX9, by decide +kernel, by decide +kernel, by decide⟩
set_option maxRecDepth 100000 in
theorem wc_X9_284 : wCall RX9 284 yX9_lettersOnStrip cX9_lettersOnStrip 1 (some .int) 0 := ⟨wG_in (i := 2033) (by decide +kernel) rfl, cd_X9_lettersOnStrip, in_RX9, by decide +kernel, by decide +kernel, by decide⟩
set_option maxRecDepth 100000 in
theorem wc_X9_287 : wCall RX9 287 yX9_sumOf cX9_sumOf 4 (some .int) 1 := ⟨wG_in (i := 2037) (by decide +kernel) rfl, cd_X9_sumOf, in_RX9, by decide +kernel, by decide +kernel, by decide⟩
set_option maxRecDepth 100000 in
theorem wc_X9_290 : wCall RX9 290 yX9_mark cX9_mark 1 (some .int) 0 := ⟨wG_in (i := 2065) (by decide +kernel) rfl, cd_X9_mark, in_RX9, by decide +kernel, by decide +kernel, by decide⟩
set_option maxRecDepth 100000 in
theorem wc_X9_293 : wCall RX9 293 yX9_isLetter cX9_isLetter 1 (some .boolean) 0 := ⟨wG_in (i := 2081) (by decide +kernel) rfl, cd_X9_isLetter, in_RX9, by decide +kernel, by decide +kernel, by decide⟩
set_option maxRecDepth 100000 in
theorem wc_X9_297 : wCall RX9 297 yX9_takesDigit cX9_takesDigit 2 none 1 := ⟨wG_in (i := 2069) (by decide +kernel) rfl, cd_X9_takesDigit, in_RX9, by decide +kernel, by decide +kernel, by decide⟩
set_option maxRecDepth 100000 in
theorem wc_X9_300 : wCall RX9 300 yX9_takes cX9_takes 2 none 1 := ⟨wG_in (i := 2073) (by decide +kernel) rfl, cd_X9_takes, in_RX9, by decide +kernel, by decide +kernel, by decide⟩
set_option maxRecDepth 100000 in
theorem wc_X9_303 : wCall RX9 303 yX9_takesWord cX9_takesWord 3 none 0 := ⟨wG_in (i := 2077) (by decide +kernel) rfl, cd_X9_takesWord, in_RX9, by decide +kernel, by decide +kernel, by decide⟩
set_option maxRecDepth 100000 in
theorem wc_X9_306 : wCall RX9 306 yX9_order cX9_order 2 none 0 := ⟨wG_in (i := 2061) (by decide +kernel) rfl, cd_X9_order, in_RX9, by decide +kernel, by decide +kernel, by decide⟩
set_option maxRecDepth 100000 in
theorem wc_X9_309 : wCall RX9 309 yX9_isNot cX9_isNot 2 (some .boolean) 1 := ⟨wG_in (i := 2089) (by decide +kernel) rfl, cd_X9_isNot, in_RX9, by decide +kernel, by decide +kernel, by decide⟩
set_option maxRecDepth 100000 in
theorem wc_X9_313 : wCall RX9 313 yX9_reads cX9_reads 1 none 0 := ⟨wG_in (i := 2057) (by decide +kernel) rfl, cd_X9_reads, in_RX9, by decide +kernel, by decide +kernel, by decide⟩
set_option maxRecDepth 100000 in
theorem wc_X9_316 : wCall RX9 316 yX9_cannot cX9_cannot 6 (some .boolean) 1 := ⟨wG_in (i := 2085) (by decide +kernel) rfl, cd_X9_cannot, in_RX9, by decide +kernel, by decide +kernel, by decide⟩
set_option maxRecDepth 100000 in
theorem wc_J5_26 : wCall RJ5 26 yJ2_newBytesFor_77867 cJ2_newBytesFor_77867 1 (some (.array .byte)) 1 := ⟨wG_in (i := 303) (by decide +kernel) rfl, cd_J2_newBytesFor_77867, in_RJ2, by decide +kernel, by decide +kernel, by decide⟩
set_option maxRecDepth 100000 in
theorem wc_J5_32 : wCall RJ5 32 yJ0_length_8abf5 cJ0_length_8abf5 1 (some .int) 0 := ⟨wG_in (i := 767) (by decide +kernel) rfl, cd_J0_length_8abf5, in_RJ0, by decide +kernel, by decide +kernel, by decide⟩
set_option maxRecDepth 100000 in
theorem wc_J5_40 : wCall RJ5 40 yJ0_coder_7d493 cJ0_coder_7d493 1 (some .byte) 0 := ⟨wG_in (i := 784) (by decide +kernel) rfl, cd_J0_coder_7d493, in_RJ0, by decide +kernel, by decide +kernel, by decide⟩
set_option maxRecDepth 100000 in
theorem wc_J5_83 : wCall RJ5 83 yJ5_isLatin1_aae02 cJ5_isLatin1_aae02 1 (some .boolean) 0 := ⟨wG_in (i := 736) (by decide +kernel) rfl, cd_J5_isLatin1_aae02, in_RJ5, by decide +kernel, by decide +kernel, by decide⟩
set_option maxRecDepth 100000 in
theorem wc_J5_100 : wCall RJ5 100 yJ5_ensureCapacityInternal_d00df cJ5_ensureCapacityInternal_d00df 3 none 1 := ⟨wG_in (i := 705) (by decide +kernel) rfl, cd_J5_ensureCapacityInternal_d00df, in_RJ5, by decide +kernel, by decide +kernel, by decide⟩
set_option maxRecDepth 100000 in
theorem wc_J5_104 : wCall RJ5 104 yJ5_newCapacity_0f7a4 cJ5_newCapacity_0f7a4 6 (some .int) 1 := ⟨wG_in (i := 709) (by decide +kernel) rfl, cd_J5_newCapacity_0f7a4, in_RJ5, by decide +kernel, by decide +kernel, by decide⟩
set_option maxRecDepth 100000 in
theorem wc_J5_108 : wCall RJ5 108 yJ7_copyOf_9075b cJ7_copyOf_9075b 3 (some (.array .byte)) 2 := ⟨wG_in (i := 722) (by decide +kernel) rfl, cd_J7_copyOf_9075b, in_RJ7, by decide +kernel, by decide +kernel, by decide⟩
set_option maxRecDepth 100000 in
theorem wc_J5_114 : wCall RJ5 114 yJ8_newLength_cabcc cJ8_newLength_cabcc 4 (some .int) 3 := ⟨wG_in (i := 713) (by decide +kernel) rfl, cd_J8_newLength_cabcc, in_RJ8, by decide +kernel, by decide +kernel, by decide⟩
set_option maxRecDepth 100000 in
theorem wc_J5_125 : wCall RJ5 125 yJ1_inflate_0e8fd cJ1_inflate_0e8fd 5 none 5 := ⟨wG_in (i := 789) (by decide +kernel) rfl, cd_J1_inflate_0e8fd, in_RJ1, by decide +kernel, by decide +kernel, by decide⟩
set_option maxRecDepth 100000 in
theorem wc_J5_131 : wCall RJ5 131 yJx7c733_init_d00df cJx7c733_init_d00df 2 none 1 := ⟨wG_in (i := 688) (by decide +kernel) rfl, cd_Jx7c733_init_d00df, in_RJx7c733, by decide +kernel, by decide +kernel, by decide⟩
set_option maxRecDepth 100000 in
theorem wc_J5_133 : wCall RJ5 133 yJ1_fillNull_b72d1 cJ1_fillNull_b72d1 3 none 3 := ⟨wG_in (i := 911) (by decide +kernel) rfl, cd_J1_fillNull_b72d1, in_RJ1, by decide +kernel, by decide +kernel, by decide⟩
set_option maxRecDepth 100000 in
theorem wc_J5_137 : wCall RJ5 137 yJ2_fillNull_b72d1 cJ2_fillNull_b72d1 3 none 3 := ⟨wG_in (i := 946) (by decide +kernel) rfl, cd_J2_fillNull_b72d1, in_RJ2, by decide +kernel, by decide +kernel, by decide⟩
set_option maxRecDepth 100000 in
theorem wc_J5_138 : wCall RJ5 138 yJ9_min_7cf53 cJ9_min_7cf53 2 (some .int) 2 := ⟨wG_in (i := 1356) (by decide +kernel) rfl, cd_J9_min_7cf53, in_RJ9, by decide +kernel, by decide +kernel, by decide⟩
set_option maxRecDepth 100000 in
theorem wc_J5_144 : wCall RJ5 144 yJ0_checkIndex_df160 cJ0_checkIndex_df160 2 none 2 := ⟨wG_in (i := 1357) (by decide +kernel) rfl, cd_J0_checkIndex_df160, in_RJ0, by decide +kernel, by decide +kernel, by decide⟩
set_option maxRecDepth 100000 in
theorem wc_J5_148 : wCall RJ5 148 yJ2_getChar_3b067 cJ2_getChar_3b067 2 (some .char) 2 := ⟨wG_in (i := 1358) (by decide +kernel) rfl, cd_J2_getChar_3b067, in_RJ2, by decide +kernel, by decide +kernel, by decide⟩
set_option maxRecDepth 100000 in
theorem wc_J5_191 : wCall RJ5 191 yJ1_canEncode_fc78d cJ1_canEncode_fc78d 1 (some .boolean) 1 := ⟨wG_in (i := 966) (by decide +kernel) rfl, cd_J1_canEncode_fc78d, in_RJ1, by decide +kernel, by decide +kernel, by decide⟩
set_option maxRecDepth 100000 in
theorem wc_J5_195 : wCall RJ5 195 yJ5_inflate_da8c8 cJ5_inflate_da8c8 2 none 0 := ⟨wG_in (i := 785) (by decide +kernel) rfl, cd_J5_inflate_da8c8, in_RJ5, by decide +kernel, by decide +kernel, by decide⟩
set_option maxRecDepth 100000 in
theorem wc_J5_197 : wCall RJ5 197 yJ2_putCharSB_b72d1 cJ2_putCharSB_b72d1 3 none 3 := ⟨wG_in (i := 969) (by decide +kernel) rfl, cd_J2_putCharSB_b72d1, in_RJ2, by decide +kernel, by decide +kernel, by decide⟩
set_option maxRecDepth 100000 in
theorem wc_J5_204 : wCall RJ5 204 yJ5_appendNull_278bc cJ5_appendNull_278bc 3 (some (.object "java/lang/AbstractStringBuilder")) 0 := ⟨wG_in (i := 701) (by decide +kernel) rfl, cd_J5_appendNull_278bc, in_RJ5, by decide +kernel, by decide +kernel, by decide⟩
set_option maxRecDepth 100000 in
theorem wc_J5_208 : wCall RJ5 208 yJ5_putStringAt_47b60 cJ5_putStringAt_47b60 3 none 2 := ⟨wG_in (i := 776) (by decide +kernel) rfl, cd_J5_putStringAt_47b60, in_RJ5, by decide +kernel, by decide +kernel, by decide⟩
set_option maxRecDepth 100000 in
theorem wc_J5_226 : wCall RJ5 226 yJ2_putCharsAt_cd4e5 cJ2_putCharsAt_cd4e5 7 (some .int) 6 := ⟨wG_in (i := 741) (by decide +kernel) rfl, cd_J2_putCharsAt_cd4e5, in_RJ2, by decide +kernel, by decide +kernel, by decide⟩
set_option maxRecDepth 100000 in
theorem wc_J5_245 : wCall RJ5 245 yJ6_stringSize_0f7a4 cJ6_stringSize_0f7a4 4 (some .int) 1 := ⟨wG_in (i := 817) (by decide +kernel) rfl, cd_J6_stringSize_0f7a4, in_RJ6, by decide +kernel, by decide +kernel, by decide⟩
set_option maxRecDepth 100000 in
theorem wc_J5_248 : wCall RJ5 248 yJ6_getChars_ba4f3 cJ6_getChars_ba4f3 7 (some .int) 3 := ⟨wG_in (i := 820) (by decide +kernel) rfl, cd_J6_getChars_ba4f3, in_RJ6, by decide +kernel, by decide +kernel, by decide⟩
set_option maxRecDepth 100000 in
theorem wc_J5_251 : wCall RJ5 251 yJ2_getChars_46870 cJ2_getChars_46870 5 (some .int) 4 := ⟨wG_in (i := 827) (by decide +kernel) rfl, cd_J2_getChars_46870, in_RJ2, by decide +kernel, by decide +kernel, by decide⟩
set_option maxRecDepth 100000 in
theorem wc_J5_397 : wCall RJ5 397 yJ5_inflateIfNeededFor_a7421 cJ5_inflateIfNeededFor_a7421 2 none 1 := ⟨wG_in (i := 780) (by decide +kernel) rfl, cd_J5_inflateIfNeededFor_a7421, in_RJ5, by decide +kernel, by decide +kernel, by decide⟩
set_option maxRecDepth 100000 in
theorem wc_J5_399 : wCall RJ5 399 yJ0_getBytes_840e7 cJ0_getBytes_840e7 4 none 3 := ⟨wG_in (i := 804) (by decide +kernel) rfl, cd_J0_getBytes_840e7, in_RJ0, by decide +kernel, by decide +kernel, by decide⟩
set_option maxRecDepth 100000 in
theorem wc_J0_47 : wCall RJ0 47 yJ2_coderFromArrayLen_85cad cJ2_coderFromArrayLen_85cad 2 (some .byte) 2 := ⟨wG_in (i := 889) (by decide +kernel) rfl, cd_J2_coderFromArrayLen_85cad, in_RJ2, by decide +kernel, by decide +kernel, by decide⟩
set_option maxRecDepth 100000 in
theorem wc_J0_54 : wCall RJ0 54 yJ7_copyOfRange_39247 cJ7_copyOfRange_39247 3 (some (.array .byte)) 3 := ⟨wG_in (i := 862) (by decide +kernel) rfl, cd_J7_copyOfRange_39247, in_RJ7, by decide +kernel, by decide +kernel, by decide⟩
set_option maxRecDepth 100000 in
theorem wc_J0_106 : wCall RJ0 106 yJ1_inflate_0e8fd cJ1_inflate_0e8fd 5 none 5 := ⟨wG_in (i := 809) (by decide +kernel) rfl, cd_J1_inflate_0e8fd, in_RJ1, by decide +kernel, by decide +kernel, by decide⟩
set_option maxRecDepth 100000 in
theorem wc_J0_335 : wCall RJ0 335 yJ0_coder_7d493 cJ0_coder_7d493 1 (some .byte) 0 := ⟨wG_in (i := 771) (by decide +kernel) rfl, cd_J0_coder_7d493, in_RJ0, by decide +kernel, by decide +kernel, by decide⟩
set_option maxRecDepth 100000 in
theorem wc_J0_489 : wCall RJ0 489 yJ0_init_db425 cJ0_init_db425 5 none 2 := ⟨wG_in (i := 844) (by decide +kernel) rfl, cd_J0_init_db425, in_RJ0, by decide +kernel, by decide +kernel, by decide⟩
set_option maxRecDepth 100000 in
theorem wc_J0_492 : wCall RJ0 492 yJ0_isLatin1_aae02 cJ0_isLatin1_aae02 1 (some .boolean) 0 := ⟨wG_in (i := 1503) (by decide +kernel) rfl, cd_J0_isLatin1_aae02, in_RJ0, by decide +kernel, by decide +kernel, by decide⟩
set_option maxRecDepth 100000 in
theorem wc_J0_495 : wCall RJ0 495 yJ1_charAt_3b067 cJ1_charAt_3b067 2 (some .char) 2 := ⟨wG_in (i := 1507) (by decide +kernel) rfl, cd_J1_charAt_3b067, in_RJ1, by decide +kernel, by decide +kernel, by decide⟩
set_option maxRecDepth 100000 in
theorem wc_J0_498 : wCall RJ0 498 yJ2_charAt_3b067 cJ2_charAt_3b067 2 (some .char) 2 := ⟨wG_in (i := 1511) (by decide +kernel) rfl, cd_J2_charAt_3b067, in_RJ2, by decide +kernel, by decide +kernel, by decide⟩
set_option maxRecDepth 100000 in
theorem wc_J0_549 : wCall RJ0 549 yJ5_length_8abf5 cJ5_length_8abf5 1 (some .int) 0 := ⟨wG_in (i := 853) (by decide +kernel) rfl, cd_J5_length_8abf5, in_RJ5, by decide +kernel, by decide +kernel, by decide⟩
set_option maxRecDepth 100000 in
theorem wc_J0_552 : wCall RJ0 552 yJ5_getValue_6d5f1 cJ5_getValue_6d5f1 1 (some (.array .byte)) 0 := ⟨wG_in (i := 848) (by decide +kernel) rfl, cd_J5_getValue_6d5f1, in_RJ5, by decide +kernel, by decide +kernel, by decide⟩
set_option maxRecDepth 100000 in
theorem wc_J0_1047 : wCall RJ0 1047 yJ5_isLatin1_aae02 cJ5_isLatin1_aae02 1 (some .boolean) 0 := ⟨wG_in (i := 861) (by decide +kernel) rfl, cd_J5_isLatin1_aae02, in_RJ5, by decide +kernel, by decide +kernel, by decide⟩
set_option maxRecDepth 100000 in
theorem wc_J0_1051 : wCall RJ0 1051 yJ2_compress_39247 cJ2_compress_39247 6 (some (.array .byte)) 3 := ⟨wG_in (i := 879) (by decide +kernel) rfl, cd_J2_compress_39247, in_RJ2, by decide +kernel, by decide +kernel, by decide⟩
set_option maxRecDepth 100000 in
theorem wc_J0_1059 : wCall RJ0 1059 yJ3_checkIndex_8e157 cJ3_checkIndex_8e157 3 (some .int) 3 := ⟨wG_in (i := 978) (by decide +kernel) rfl, cd_J3_checkIndex_8e157, in_RJ3, by decide +kernel, by decide +kernel, by decide⟩
set_option maxRecDepth 100000 in
theorem wc_J0_1062 : wCall RJ0 1062 yJ3_checkFromToIndex_8c36e cJ3_checkFromToIndex_8c36e 4 (some .int) 4 := ⟨wG_in (i := 755) (by decide +kernel) rfl, cd_J3_checkFromToIndex_8c36e, in_RJ3, by decide +kernel, by decide +kernel, by decide⟩
set_option maxRecDepth 100000 in
theorem wc_J0_1065 : wCall RJ0 1065 yJ3_checkFromIndexSize_8c36e cJ3_checkFromIndexSize_8c36e 4 (some .int) 4 := ⟨wG_in (i := 801) (by decide +kernel) rfl, cd_J3_checkFromIndexSize_8c36e, in_RJ3, by decide +kernel, by decide +kernel, by decide⟩
set_option maxRecDepth 100000 in
theorem wc_J4_1 : wCall RJ4 1 yJ5_init_d00df cJ5_init_d00df 2 none 1 := ⟨wG_in (i := 297) (by decide +kernel) rfl, cd_J5_init_d00df, in_RJ5, by decide +kernel, by decide +kernel, by decide⟩
set_option maxRecDepth 100000 in
theorem wc_J4_29 : wCall RJ4 29 yJ5_append_cf1ce cJ5_append_cf1ce 3 (some (.object "java/lang/AbstractStringBuilder")) 1 := ⟨wG_in (i := 698) (by decide +kernel) rfl, cd_J5_append_cf1ce, in_RJ5, by decide +kernel, by decide +kernel, by decide⟩
set_option maxRecDepth 100000 in
theorem wc_J4_50 : wCall RJ4 50 yJ5_append_3fe6f cJ5_append_3fe6f 2 (some (.object "java/lang/AbstractStringBuilder")) 1 := ⟨wG_in (i := 963) (by decide +kernel) rfl, cd_J5_append_3fe6f, in_RJ5, by decide +kernel, by decide +kernel, by decide⟩
set_option maxRecDepth 100000 in
theorem wc_J4_53 : wCall RJ4 53 yJ5_append_c97b9 cJ5_append_c97b9 4 (some (.object "java/lang/AbstractStringBuilder")) 1 := ⟨wG_in (i := 814) (by decide +kernel) rfl, cd_J5_append_c97b9, in_RJ5, by decide +kernel, by decide +kernel, by decide⟩
set_option maxRecDepth 100000 in
theorem wc_J4_137 : wCall RJ4 137 yJ0_init_81219 cJ0_init_81219 2 none 1 := ⟨wG_in (i := 841) (by decide +kernel) rfl, cd_J0_init_81219, in_RJ0, by decide +kernel, by decide +kernel, by decide⟩
set_option maxRecDepth 100000 in
theorem wc_J4_329 : wCall RJ4 329 yJ5_charAt_5068e cJ5_charAt_5068e 5 (some .char) 1 := ⟨wG_in (i := 1353) (by decide +kernel) rfl, cd_J5_charAt_5068e, in_RJ5, by decide +kernel, by decide +kernel, by decide⟩
set_option maxRecDepth 100000 in
theorem wc_J4_333 : wCall RJ4 333 yJ5_setLength_d00df cJ5_setLength_d00df 2 none 1 := ⟨wG_in (i := 683) (by decide +kernel) rfl, cd_J5_setLength_d00df, in_RJ5, by decide +kernel, by decide +kernel, by decide⟩
set_option maxRecDepth 100000 in
theorem wc_J4_343 : wCall RJ4 343 yJ5_length_8abf5 cJ5_length_8abf5 1 (some .int) 0 := ⟨wG_in (i := 859) (by decide +kernel) rfl, cd_J5_length_8abf5, in_RJ5, by decide +kernel, by decide +kernel, by decide⟩
set_option maxRecDepth 100000 in
theorem wc_J1_9 : wCall RJ1 9 yJ0_checkIndex_df160 cJ0_checkIndex_df160 2 none 2 := ⟨wG_in (i := 1510) (by decide +kernel) rfl, cd_J0_checkIndex_df160, in_RJ0, by decide +kernel, by decide +kernel, by decide⟩
set_option maxRecDepth 100000 in
theorem wc_J1_236 : wCall RJ1 236 yJ7_fill_eb02e cJ7_fill_eb02e 5 none 4 := ⟨wG_in (i := 914) (by decide +kernel) rfl, cd_J7_fill_eb02e, in_RJ7, by decide +kernel, by decide +kernel, by decide⟩
set_option maxRecDepth 100000 in
theorem wc_J1_240 : wCall RJ1 240 yJ2_inflate_0e8fd cJ2_inflate_0e8fd 6 none 5 := ⟨wG_in (i := 792) (by decide +kernel) rfl, cd_J2_inflate_0e8fd, in_RJ2, by decide +kernel, by decide +kernel, by decide⟩
set_option maxRecDepth 100000 in
theorem wc_J2_11 : wCall RJ2 11 yJ2_newBytesLength_0f7a4 cJ2_newBytesLength_0f7a4 1 (some .int) 1 := ⟨wG_in (i := 306) (by decide +kernel) rfl, cd_J2_newBytesLength_0f7a4, in_RJ2, by decide +kernel, by decide +kernel, by decide⟩
set_option maxRecDepth 100000 in
theorem wc_J2_48 : wCall RJ2 48 yJ2_length_9d52b cJ2_length_9d52b 1 (some .int) 1 := ⟨wG_in (i := 747) (by decide +kernel) rfl, cd_J2_length_9d52b, in_RJ2, by decide +kernel, by decide +kernel, by decide⟩
set_option maxRecDepth 100000 in
theorem wc_J2_67 : wCall RJ2 67 yJ2_checkIndex_2214a cJ2_checkIndex_2214a 2 none 2 := ⟨wG_in (i := 972) (by decide +kernel) rfl, cd_J2_checkIndex_2214a, in_RJ2, by decide +kernel, by decide +kernel, by decide⟩
set_option maxRecDepth 100000 in
theorem wc_J2_71 : wCall RJ2 71 yJ2_getChar_3b067 cJ2_getChar_3b067 2 (some .char) 2 := ⟨wG_in (i := 885) (by decide +kernel) rfl, cd_J2_getChar_3b067, in_RJ2, by decide +kernel, by decide +kernel, by decide⟩
set_option maxRecDepth 100000 in
theorem wc_J2_96 : wCall RJ2 96 yJ2_checkBoundsBeginEnd_d044e cJ2_checkBoundsBeginEnd_d044e 3 none 3 := ⟨wG_in (i := 744) (by decide +kernel) rfl, cd_J2_checkBoundsBeginEnd_d044e, in_RJ2, by decide +kernel, by decide +kernel, by decide⟩
set_option maxRecDepth 100000 in
theorem wc_J2_111 : wCall RJ2 111 yJ2_putChar_b72d1 cJ2_putChar_b72d1 3 none 3 := ⟨wG_in (i := 758) (by decide +kernel) rfl, cd_J2_putChar_b72d1, in_RJ2, by decide +kernel, by decide +kernel, by decide⟩
set_option maxRecDepth 100000 in
theorem wc_J2_123 : wCall RJ2 123 yJ2_compress_5af95 cJ2_compress_5af95 7 (some .int) 5 := ⟨wG_in (i := 882) (by decide +kernel) rfl, cd_J2_compress_5af95, in_RJ2, by decide +kernel, by decide +kernel, by decide⟩
set_option maxRecDepth 100000 in
theorem wc_J2_126 : wCall RJ2 126 yJ7_copyOfRange_39247 cJ7_copyOfRange_39247 3 (some (.array .byte)) 3 := ⟨wG_in (i := 888) (by decide +kernel) rfl, cd_J7_copyOfRange_39247, in_RJ7, by decide +kernel, by decide +kernel, by decide⟩
set_option maxRecDepth 100000 in
theorem wc_J2_173 : wCall RJ2 173 yJ2_checkBoundsOffCount_d044e cJ2_checkBoundsOffCount_d044e 3 none 3 := ⟨wG_in (i := 795) (by decide +kernel) rfl, cd_J2_checkBoundsOffCount_d044e, in_RJ2, by decide +kernel, by decide +kernel, by decide⟩
set_option maxRecDepth 100000 in
theorem wc_J2_241 : wCall RJ2 241 yJ0_checkBoundsBeginEnd_23922 cJ0_checkBoundsBeginEnd_23922 3 none 3 := ⟨wG_in (i := 750) (by decide +kernel) rfl, cd_J0_checkBoundsBeginEnd_23922, in_RJ0, by decide +kernel, by decide +kernel, by decide⟩
set_option maxRecDepth 100000 in
theorem wc_J2_380 : wCall RJ2 380 yJ7_fill_eb02e cJ7_fill_eb02e 5 none 4 := ⟨wG_in (i := 949) (by decide +kernel) rfl, cd_J7_fill_eb02e, in_RJ7, by decide +kernel, by decide +kernel, by decide⟩
set_option maxRecDepth 100000 in
theorem wc_J2_393 : wCall RJ2 393 yJ2_getChars_ba4f3 cJ2_getChars_ba4f3 7 (some .int) 3 := ⟨wG_in (i := 830) (by decide +kernel) rfl, cd_J2_getChars_ba4f3, in_RJ2, by decide +kernel, by decide +kernel, by decide⟩
set_option maxRecDepth 100000 in
theorem wc_J2_414 : wCall RJ2 414 yJ0_checkIndex_df160 cJ0_checkIndex_df160 2 none 2 := ⟨wG_in (i := 975) (by decide +kernel) rfl, cd_J0_checkIndex_df160, in_RJ0, by decide +kernel, by decide +kernel, by decide⟩
set_option maxRecDepth 100000 in
theorem wc_J2_419 : wCall RJ2 419 yJ0_checkBoundsOffCount_cabcc cJ0_checkBoundsOffCount_cabcc 3 (some .int) 3 := ⟨wG_in (i := 798) (by decide +kernel) rfl, cd_J0_checkBoundsOffCount_cabcc, in_RJ0, by decide +kernel, by decide +kernel, by decide⟩
set_option maxRecDepth 100000 in
theorem wc_J7_13 : wCall RJ7 13 yJ7_rangeCheck_23922 cJ7_rangeCheck_23922 3 none 3 := ⟨wG_in (i := 917) (by decide +kernel) rfl, cd_J7_rangeCheck_23922, in_RJ7, by decide +kernel, by decide +kernel, by decide⟩
set_option maxRecDepth 100000 in
theorem wc_J7_47 : wCall RJ7 47 yJ4_init_da8c8 cJ4_init_da8c8 1 none 0 := ⟨wG_in (i := 873) (by decide +kernel) rfl, cd_J4_init_da8c8, in_RJ4, by decide +kernel, by decide +kernel, by decide⟩
set_option maxRecDepth 100000 in
theorem wc_J7_50 : wCall RJ7 50 yJ4_append_15ec4 cJ4_append_15ec4 2 (some (.object "java/lang/StringBuilder")) 1 := ⟨wG_in (i := 876) (by decide +kernel) rfl, cd_J4_append_15ec4, in_RJ4, by decide +kernel, by decide +kernel, by decide⟩
set_option maxRecDepth 100000 in
theorem wc_J7_54 : wCall RJ7 54 yJ4_append_bf812 cJ4_append_bf812 2 (some (.object "java/lang/StringBuilder")) 1 := ⟨wG_in (i := 874) (by decide +kernel) rfl, cd_J4_append_bf812, in_RJ4, by decide +kernel, by decide +kernel, by decide⟩
set_option maxRecDepth 100000 in
theorem wc_J7_61 : wCall RJ7 61 yJ4_toString_0e30d cJ4_toString_0e30d 1 (some (.object "java/lang/String")) 0 := ⟨wG_in (i := 877) (by decide +kernel) rfl, cd_J4_toString_0e30d, in_RJ4, by decide +kernel, by decide +kernel, by decide⟩
set_option maxRecDepth 100000 in
theorem wc_J7_70 : wCall RJ7 70 yJx00060_init_d00df cJx00060_init_d00df 2 none 1 := ⟨wG_in (i := 934) (by decide +kernel) rfl, cd_Jx00060_init_d00df, in_RJx00060, by decide +kernel, by decide +kernel, by decide⟩
set_option maxRecDepth 100000 in
theorem wc_J7_304 : wCall RJ7 304 yJ9_min_7cf53 cJ9_min_7cf53 2 (some .int) 2 := ⟨wG_in (i := 732) (by decide +kernel) rfl, cd_J9_min_7cf53, in_RJ9, by decide +kernel, by decide +kernel, by decide⟩
set_option maxRecDepth 100000 in
theorem wc_J7_339 : wCall RJ7 339 yJ7_copyOfRangeByte_39247 cJ7_copyOfRangeByte_39247 5 (some (.array .byte)) 3 := ⟨wG_in (i := 865) (by decide +kernel) rfl, cd_J7_copyOfRangeByte_39247, in_RJ7, by decide +kernel, by decide +kernel, by decide⟩
set_option maxRecDepth 100000 in
theorem wc_J7_343 : wCall RJ7 343 yJ7_checkLength_df160 cJ7_checkLength_df160 2 none 2 := ⟨wG_in (i := 868) (by decide +kernel) rfl, cd_J7_checkLength_df160, in_RJ7, by decide +kernel, by decide +kernel, by decide⟩
set_option maxRecDepth 100000 in
theorem wc_J8_194 : wCall RJ8 194 yJ9_max_7cf53 cJ9_max_7cf53 2 (some .int) 2 := ⟨wG_in (i := 716) (by decide +kernel) rfl, cd_J9_max_7cf53, in_RJ9, by decide +kernel, by decide +kernel, by decide⟩
set_option maxRecDepth 100000 in
theorem wc_J8_201 : wCall RJ8 201 yJ8_hugeLength_7cf53 cJ8_hugeLength_7cf53 3 (some .int) 2 := ⟨wG_in (i := 718) (by decide +kernel) rfl, cd_J8_hugeLength_7cf53, in_RJ8, by decide +kernel, by decide +kernel, by decide⟩
set_option maxRecDepth 100000 in
theorem fk_X8_12 : lw_tbl[325]? = some (.fieldLink RX8 12 "WhistleJunction" "now" "LWhistleJunction$State;") := by decide +kernel
set_option maxRecDepth 100000 in
theorem fk_X8_16 : lw_tbl[326]? = some (.fieldLink RX8 16 "WhistleJunction" "before" "LWhistleJunction$State;") := by decide +kernel
set_option maxRecDepth 100000 in
theorem fk_X8_19 : lw_tbl[327]? = some (.fieldLink RX8 19 "WhistleJunction" "saved" "LWhistleJunction$State;") := by decide +kernel
set_option maxRecDepth 100000 in
theorem fk_X8_22 : lw_tbl[328]? = some (.fieldLink RX8 22 "WhistleJunction" "isSaved" "Z") := by decide +kernel
set_option maxRecDepth 100000 in
theorem fk_X8_29 : lw_tbl[329]? = some (.fieldLink RX8 29 "WhistleJunction" "history" "LWhistleJunction$History;") := by decide +kernel
set_option maxRecDepth 100000 in
theorem fk_X8_36 : lw_tbl[330]? = some (.fieldLink RX8 36 "WhistleJunction" "input" "LWhistleJunction$Input;") := by decide +kernel
set_option maxRecDepth 100000 in
theorem fk_X8_43 : lw_tbl[331]? = some (.fieldLink RX8 43 "WhistleJunction" "letters" "LWhistleJunction$Strip;") := by decide +kernel
set_option maxRecDepth 100000 in
theorem fk_X8_50 : lw_tbl[332]? = some (.fieldLink RX8 50 "WhistleJunction" "written" "Ljava/lang/StringBuilder;") := by decide +kernel
set_option maxRecDepth 100000 in
theorem fk_X8_54 : lw_tbl[333]? = some (.fieldLink RX8 54 "WhistleJunction" "malformedAt" "I") := by decide +kernel
set_option maxRecDepth 100000 in
theorem fk_X8_58 : lw_tbl[334]? = some (.fieldLink RX8 58 "WhistleJunction" "refusedOrder" "I") := by decide +kernel
set_option maxRecDepth 100000 in
theorem fk_X8_61 : lw_tbl[335]? = some (.fieldLink RX8 61 "WhistleJunction" "refusedFor" "I") := by decide +kernel
set_option maxRecDepth 100000 in
theorem fk_X8_64 : lw_tbl[336]? = some (.fieldLink RX8 64 "WhistleJunction" "refusedDetail" "I") := by decide +kernel
set_option maxRecDepth 100000 in
theorem fk_X8_67 : lw_tbl[167]? = some (.fieldLink RX8 67 "WhistleJunction$State" "words" "LWhistleJunction$Row;") := by decide +kernel
set_option maxRecDepth 100000 in
theorem fk_X8_212 : lw_tbl[185]? = some (.fieldLink RX8 212 "WhistleJunction$State" "sounds" "LWhistleJunction$Row;") := by decide +kernel
set_option maxRecDepth 100000 in
theorem fk_X8_248 : lw_tbl[169]? = some (.fieldLink RX8 248 "WhistleJunction$State" "priorities" "LWhistleJunction$Row;") := by decide +kernel
set_option maxRecDepth 100000 in
theorem fk_X8_251 : lw_tbl[171]? = some (.fieldLink RX8 251 "WhistleJunction$State" "steam" "LWhistleJunction$Row;") := by decide +kernel
set_option maxRecDepth 100000 in
theorem fk_X8_254 : lw_tbl[177]? = some (.fieldLink RX8 254 "WhistleJunction$State" "passes" "LWhistleJunction$Row;") := by decide +kernel
set_option maxRecDepth 100000 in
theorem fk_X8_311 : lw_tbl[190]? = some (.fieldLink RX8 311 "WhistleJunction$State" "whistles" "I") := by decide +kernel
set_option maxRecDepth 100000 in
theorem fk_X8_316 : lw_tbl[179]? = some (.fieldLink RX8 316 "WhistleJunction$State" "lies" "LWhistleJunction$Row;") := by decide +kernel
set_option maxRecDepth 100000 in
theorem fk_X8_399 : lw_tbl[188]? = some (.fieldLink RX8 399 "WhistleJunction$State" "hours" "I") := by decide +kernel
set_option maxRecDepth 100000 in
theorem fk_X8_411 : lw_tbl[175]? = some (.fieldLink RX8 411 "WhistleJunction$State" "mutes" "LWhistleJunction$Row;") := by decide +kernel
set_option maxRecDepth 100000 in
theorem fk_X8_414 : lw_tbl[173]? = some (.fieldLink RX8 414 "WhistleJunction$State" "coins" "LWhistleJunction$Row;") := by decide +kernel
set_option maxRecDepth 100000 in
theorem fk_X0_11 : lw_tbl[237]? = some (.fieldLink RX0 11 "WhistleJunction$History" "states" "[LWhistleJunction$State;") := by decide +kernel
set_option maxRecDepth 100000 in
theorem fk_X0_17 : lw_tbl[238]? = some (.fieldLink RX0 17 "WhistleJunction$History" "oldest" "I") := by decide +kernel
set_option maxRecDepth 100000 in
theorem fk_X0_21 : lw_tbl[239]? = some (.fieldLink RX0 21 "WhistleJunction$History" "size" "I") := by decide +kernel
set_option maxRecDepth 100000 in
theorem fk_X1_14 : lw_tbl[255]? = some (.fieldLink RX1 14 "WhistleJunction$Input" "characters" "LWhistleJunction$Row;") := by decide +kernel
set_option maxRecDepth 100000 in
theorem fk_X1_20 : lw_tbl[256]? = some (.fieldLink RX1 20 "WhistleJunction$Input" "kinds" "LWhistleJunction$Row;") := by decide +kernel
set_option maxRecDepth 100000 in
theorem fk_X1_23 : lw_tbl[257]? = some (.fieldLink RX1 23 "WhistleJunction$Input" "lines" "LWhistleJunction$Row;") := by decide +kernel
set_option maxRecDepth 100000 in
theorem fk_X1_26 : lw_tbl[258]? = some (.fieldLink RX1 26 "WhistleJunction$Input" "seconds" "LWhistleJunction$Row;") := by decide +kernel
set_option maxRecDepth 100000 in
theorem fk_X1_29 : lw_tbl[259]? = some (.fieldLink RX1 29 "WhistleJunction$Input" "position" "I") := by decide +kernel
set_option maxRecDepth 100000 in
theorem fk_X1_33 : lw_tbl[260]? = some (.fieldLink RX1 33 "WhistleJunction$Input" "line" "I") := by decide +kernel
set_option maxRecDepth 100000 in
theorem fk_X1_36 : lw_tbl[261]? = some (.fieldLink RX1 36 "WhistleJunction$Input" "second" "I") := by decide +kernel
set_option maxRecDepth 100000 in
theorem fk_X2_7 : lw_tbl[145]? = some (.fieldLink RX2 7 "WhistleJunction$Row" "size" "I") := by decide +kernel
set_option maxRecDepth 100000 in
theorem fk_X2_13 : lw_tbl[144]? = some (.fieldLink RX2 13 "WhistleJunction$Row" "items" "[I") := by decide +kernel
set_option maxRecDepth 100000 in
theorem fk_X5_14 : lw_tbl[166]? = some (.fieldLink RX5 14 "WhistleJunction$State" "words" "LWhistleJunction$Row;") := by decide +kernel
set_option maxRecDepth 100000 in
theorem fk_X5_20 : lw_tbl[168]? = some (.fieldLink RX5 20 "WhistleJunction$State" "priorities" "LWhistleJunction$Row;") := by decide +kernel
set_option maxRecDepth 100000 in
theorem fk_X5_23 : lw_tbl[170]? = some (.fieldLink RX5 23 "WhistleJunction$State" "steam" "LWhistleJunction$Row;") := by decide +kernel
set_option maxRecDepth 100000 in
theorem fk_X5_26 : lw_tbl[172]? = some (.fieldLink RX5 26 "WhistleJunction$State" "coins" "LWhistleJunction$Row;") := by decide +kernel
set_option maxRecDepth 100000 in
theorem fk_X5_29 : lw_tbl[174]? = some (.fieldLink RX5 29 "WhistleJunction$State" "mutes" "LWhistleJunction$Row;") := by decide +kernel
set_option maxRecDepth 100000 in
theorem fk_X5_32 : lw_tbl[176]? = some (.fieldLink RX5 32 "WhistleJunction$State" "passes" "LWhistleJunction$Row;") := by decide +kernel
set_option maxRecDepth 100000 in
theorem fk_X5_35 : lw_tbl[178]? = some (.fieldLink RX5 35 "WhistleJunction$State" "lies" "LWhistleJunction$Row;") := by decide +kernel
set_option maxRecDepth 100000 in
theorem fk_X5_38 : lw_tbl[180]? = some (.fieldLink RX5 38 "WhistleJunction$State" "exposures" "LWhistleJunction$Row;") := by decide +kernel
set_option maxRecDepth 100000 in
theorem fk_X5_41 : lw_tbl[181]? = some (.fieldLink RX5 41 "WhistleJunction$State" "delays" "LWhistleJunction$Row;") := by decide +kernel
set_option maxRecDepth 100000 in
theorem fk_X5_44 : lw_tbl[182]? = some (.fieldLink RX5 44 "WhistleJunction$State" "sets" "LWhistleJunction$Row;") := by decide +kernel
set_option maxRecDepth 100000 in
theorem fk_X5_47 : lw_tbl[183]? = some (.fieldLink RX5 47 "WhistleJunction$State" "echoed" "LWhistleJunction$Row;") := by decide +kernel
set_option maxRecDepth 100000 in
theorem fk_X5_50 : lw_tbl[184]? = some (.fieldLink RX5 50 "WhistleJunction$State" "sounds" "LWhistleJunction$Row;") := by decide +kernel
set_option maxRecDepth 100000 in
theorem fk_X5_53 : lw_tbl[186]? = some (.fieldLink RX5 53 "WhistleJunction$State" "echoes" "LWhistleJunction$Row;") := by decide +kernel
set_option maxRecDepth 100000 in
theorem fk_X5_56 : lw_tbl[187]? = some (.fieldLink RX5 56 "WhistleJunction$State" "hours" "I") := by decide +kernel
set_option maxRecDepth 100000 in
theorem fk_X5_60 : lw_tbl[189]? = some (.fieldLink RX5 60 "WhistleJunction$State" "whistles" "I") := by decide +kernel
set_option maxRecDepth 100000 in
theorem fk_X5_63 : lw_tbl[191]? = some (.fieldLink RX5 63 "WhistleJunction$State" "waysToEchoes" "I") := by decide +kernel
set_option maxRecDepth 100000 in
theorem fk_X5_66 : lw_tbl[192]? = some (.fieldLink RX5 66 "WhistleJunction$State" "finesPaid" "I") := by decide +kernel
set_option maxRecDepth 100000 in
theorem fk_X6_14 : lw_tbl[285]? = some (.fieldLink RX6 14 "WhistleJunction$Strip" "letters" "LWhistleJunction$Row;") := by decide +kernel
set_option maxRecDepth 100000 in
theorem fk_X6_20 : lw_tbl[286]? = some (.fieldLink RX6 20 "WhistleJunction$Strip" "counts" "LWhistleJunction$Row;") := by decide +kernel
set_option maxRecDepth 100000 in
theorem fk_X9_7 : lw_tbl[1620]? = some (.fieldLink RX9 7 "WhistleJunctionModel" "now" "[I") := by decide +kernel
set_option maxRecDepth 100000 in
theorem fk_X9_13 : lw_tbl[1621]? = some (.fieldLink RX9 13 "WhistleJunctionModel" "before" "[I") := by decide +kernel
set_option maxRecDepth 100000 in
theorem fk_X9_16 : lw_tbl[1622]? = some (.fieldLink RX9 16 "WhistleJunctionModel" "saved" "[I") := by decide +kernel
set_option maxRecDepth 100000 in
theorem fk_X9_19 : lw_tbl[1623]? = some (.fieldLink RX9 19 "WhistleJunctionModel" "changes" "[I") := by decide +kernel
set_option maxRecDepth 100000 in
theorem fk_X9_22 : lw_tbl[1624]? = some (.fieldLink RX9 22 "WhistleJunctionModel" "thrown" "I") := by decide +kernel
set_option maxRecDepth 100000 in
theorem fk_X9_26 : lw_tbl[1625]? = some (.fieldLink RX9 26 "WhistleJunctionModel" "changed" "I") := by decide +kernel
set_option maxRecDepth 100000 in
theorem fk_X9_29 : lw_tbl[1626]? = some (.fieldLink RX9 29 "WhistleJunctionModel" "why" "I") := by decide +kernel
set_option maxRecDepth 100000 in
theorem fk_X9_32 : lw_tbl[1627]? = some (.fieldLink RX9 32 "WhistleJunctionModel" "number" "I") := by decide +kernel
set_option maxRecDepth 100000 in
theorem fk_X9_35 : lw_tbl[1628]? = some (.fieldLink RX9 35 "WhistleJunctionModel" "reason" "I") := by decide +kernel
set_option maxRecDepth 100000 in
theorem fk_X9_38 : lw_tbl[1629]? = some (.fieldLink RX9 38 "WhistleJunctionModel" "detail" "I") := by decide +kernel
set_option maxRecDepth 100000 in
theorem fk_X9_41 : lw_tbl[1630]? = some (.fieldLink RX9 41 "WhistleJunctionModel" "wrongAt" "I") := by decide +kernel
set_option maxRecDepth 100000 in
theorem fk_X9_44 : lw_tbl[1631]? = some (.fieldLink RX9 44 "WhistleJunctionModel" "item" "I") := by decide +kernel
set_option maxRecDepth 100000 in
theorem fk_X9_47 : lw_tbl[1632]? = some (.fieldLink RX9 47 "WhistleJunctionModel" "isSaved" "Z") := by decide +kernel
set_option maxRecDepth 100000 in
theorem fk_X9_51 : lw_tbl[1633]? = some (.fieldLink RX9 51 "WhistleJunctionModel" "letters" "[I") := by decide +kernel
set_option maxRecDepth 100000 in
theorem fk_X9_54 : lw_tbl[1634]? = some (.fieldLink RX9 54 "WhistleJunctionModel" "readings" "[I") := by decide +kernel
set_option maxRecDepth 100000 in
theorem fk_X9_57 : lw_tbl[1635]? = some (.fieldLink RX9 57 "WhistleJunctionModel" "lettersMany" "I") := by decide +kernel
set_option maxRecDepth 100000 in
theorem fk_X9_60 : lw_tbl[1636]? = some (.fieldLink RX9 60 "WhistleJunctionModel" "text" "[I") := by decide +kernel
set_option maxRecDepth 100000 in
theorem fk_X9_63 : lw_tbl[1637]? = some (.fieldLink RX9 63 "WhistleJunctionModel" "textLong" "I") := by decide +kernel
set_option maxRecDepth 100000 in
theorem fk_X9_66 : lw_tbl[1638]? = some (.fieldLink RX9 66 "WhistleJunctionModel" "input" "[I") := by decide +kernel
set_option maxRecDepth 100000 in
theorem fk_X9_69 : lw_tbl[1639]? = some (.fieldLink RX9 69 "WhistleJunctionModel" "kinds" "[I") := by decide +kernel
set_option maxRecDepth 100000 in
theorem fk_X9_72 : lw_tbl[1640]? = some (.fieldLink RX9 72 "WhistleJunctionModel" "numbers" "[I") := by decide +kernel
set_option maxRecDepth 100000 in
theorem fk_X9_75 : lw_tbl[1641]? = some (.fieldLink RX9 75 "WhistleJunctionModel" "fed" "I") := by decide +kernel
set_option maxRecDepth 100000 in
theorem fk_X9_78 : lw_tbl[1642]? = some (.fieldLink RX9 78 "WhistleJunctionModel" "inputLong" "I") := by decide +kernel
set_option maxRecDepth 100000 in
theorem fk_X9_81 : lw_tbl[1643]? = some (.fieldLink RX9 81 "WhistleJunctionModel" "spot" "I") := by decide +kernel
set_option maxRecDepth 100000 in
theorem fk_X9_84 : lw_tbl[1644]? = some (.fieldLink RX9 84 "WhistleJunctionModel" "read" "I") := by decide +kernel
set_option maxRecDepth 100000 in
theorem fk_X9_87 : lw_tbl[1645]? = some (.fieldLink RX9 87 "WhistleJunctionModel" "isWrong" "Z") := by decide +kernel
set_option maxRecDepth 100000 in
theorem fk_X9_90 : lw_tbl[1646]? = some (.fieldLink RX9 90 "WhistleJunctionModel" "isElse" "Z") := by decide +kernel
set_option maxRecDepth 100000 in
theorem fk_J5_15 : lw_tbl[310]? = some (.fieldLink RJ5 15 "java/lang/AbstractStringBuilder" "value" "[B") := by decide +kernel
set_option maxRecDepth 100000 in
theorem fk_J5_18 : lw_tbl[301]? = some (.fieldLink RJ5 18 "java/lang/String" "COMPACT_STRINGS" "Z") := by decide +kernel
set_option maxRecDepth 100000 in
theorem fk_J5_22 : lw_tbl[311]? = some (.fieldLink RJ5 22 "java/lang/AbstractStringBuilder" "coder" "B") := by decide +kernel
set_option maxRecDepth 100000 in
theorem fk_J5_73 : lw_tbl[312]? = some (.fieldLink RJ5 73 "java/lang/AbstractStringBuilder" "maybeLatin1" "Z") := by decide +kernel
set_option maxRecDepth 100000 in
theorem fk_J5_79 : lw_tbl[314]? = some (.fieldLink RJ5 79 "java/lang/AbstractStringBuilder" "count" "I") := by decide +kernel
set_option maxRecDepth 100000 in
theorem fk_J6_83 : lw_tbl[823]? = some (.fieldLink RJ6 83 "java/lang/Integer" "DigitOnes" "[B") := by decide +kernel
set_option maxRecDepth 100000 in
theorem fk_J6_87 : lw_tbl[825]? = some (.fieldLink RJ6 87 "java/lang/Integer" "DigitTens" "[B") := by decide +kernel
set_option maxRecDepth 100000 in
theorem fk_J0_9 : lw_tbl[892]? = some (.fieldLink RJ0 9 "java/lang/String" "value" "[B") := by decide +kernel
set_option maxRecDepth 100000 in
theorem fk_J0_15 : lw_tbl[893]? = some (.fieldLink RJ0 15 "java/lang/String" "coder" "B") := by decide +kernel
set_option maxRecDepth 100000 in
theorem fk_J0_38 : lw_tbl[775]? = some (.fieldLink RJ0 38 "java/lang/String" "COMPACT_STRINGS" "Z") := by decide +kernel
set_option maxRecDepth 100000 in
theorem fk_J0_1048 : lw_tbl[313]? = some (.fieldLink RJ0 1048 "java/lang/AbstractStringBuilder" "maybeLatin1" "Z") := by decide +kernel
set_option maxRecDepth 100000 in
theorem fk_J0_1053 : lw_tbl[753]? = some (.fieldLink RJ0 1053 "jdk/internal/util/Preconditions" "SIOOBE_FORMATTER" "Ljava/util/function/BiFunction;") := by decide +kernel
set_option maxRecDepth 100000 in
theorem fk_J2_44 : lw_tbl[761]? = some (.fieldLink RJ2 44 "java/lang/StringUTF16" "$assertionsDisabled" "Z") := by decide +kernel
set_option maxRecDepth 100000 in
theorem fk_J2_59 : lw_tbl[763]? = some (.fieldLink RJ2 59 "java/lang/StringUTF16" "HI_BYTE_SHIFT" "I") := by decide +kernel
set_option maxRecDepth 100000 in
theorem fk_J2_63 : lw_tbl[765]? = some (.fieldLink RJ2 63 "java/lang/StringUTF16" "LO_BYTE_SHIFT" "I") := by decide +kernel
set_option maxRecDepth 100000 in
theorem fk_J2_403 : lw_tbl[833]? = some (.fieldLink RJ2 403 "java/lang/Integer" "DigitOnes" "[B") := by decide +kernel
set_option maxRecDepth 100000 in
theorem fk_J2_407 : lw_tbl[834]? = some (.fieldLink RJ2 407 "java/lang/Integer" "DigitTens" "[B") := by decide +kernel
set_option maxRecDepth 100000 in
theorem kc_X4_10 : lw_tbl[553]? = some (.constant RX4 10 2097152) := by decide +kernel
set_option maxRecDepth 100000 in
theorem kc_X4_9 : lw_tbl[581]? = some (.constant RX4 9 262144) := by decide +kernel
set_option maxRecDepth 100000 in
theorem kc_X9_177 : lw_tbl[1913]? = some (.constant RX9 177 32768) := by decide +kernel
set_option maxRecDepth 100000 in
theorem kc_X9_192 : lw_tbl[1840]? = some (.constant RX9 192 1000000) := by decide +kernel
set_option maxRecDepth 100000 in
theorem kc_J5_39 : lw_tbl[721]? = some (.constant RJ5 39 2147483647) := by decide +kernel
set_option maxRecDepth 100000 in
theorem kc_J6_265 : lw_tbl[1026]? = some (.constant RJ6 265 1431655765) := by decide +kernel
set_option maxRecDepth 100000 in
theorem kc_J6_266 : lw_tbl[1027]? = some (.constant RJ6 266 858993459) := by decide +kernel
set_option maxRecDepth 100000 in
theorem kc_J6_267 : lw_tbl[1028]? = some (.constant RJ6 267 252645135) := by decide +kernel
set_option maxRecDepth 100000 in
theorem kc_J2_20 : lw_tbl[309]? = some (.constant RJ2 20 1073741823) := by decide +kernel
set_option maxRecDepth 100000 in
theorem kc_J8_200 : lw_tbl[717]? = some (.constant RJ8 200 2147483639) := by decide +kernel
set_option maxRecDepth 100000 in
theorem li_RX8 : ∀ j : Nat, j < 12 → lw_tbl[([337, 339, 341, 343, 345, 347, 349, 351, 353, 355, 357, 359] : List Nat).getD j 0]? = some (u_lay RX8 TX8 j) := by decide +kernel
set_option maxRecDepth 100000 in
theorem wi_RX8 : ∀ w ∈ u_ws RX8 TX8 12, w ∈ wG := uG_in fun j hj => ⟨_, li_RX8 j hj⟩
set_option maxRecDepth 100000 in
theorem li_RX0 : ∀ j : Nat, j < 3 → lw_tbl[([240, 242, 244] : List Nat).getD j 0]? = some (u_lay RX0 TX0 j) := by decide +kernel
set_option maxRecDepth 100000 in
theorem wi_RX0 : ∀ w ∈ u_ws RX0 TX0 3, w ∈ wG := uG_in fun j hj => ⟨_, li_RX0 j hj⟩
set_option maxRecDepth 100000 in
theorem li_RX1 : ∀ j : Nat, j < 7 → lw_tbl[([262, 264, 266, 268, 270, 272, 274] : List Nat).getD j 0]? = some (u_lay RX1 TX1 j) := by decide +kernel
set_option maxRecDepth 100000 in
theorem wi_RX1 : ∀ w ∈ u_ws RX1 TX1 7, w ∈ wG := uG_in fun j hj => ⟨_, li_RX1 j hj⟩
set_option maxRecDepth 100000 in
theorem li_RX2 : ∀ j : Nat, j < 2 → lw_tbl[([146, 148] : List Nat).getD j 0]? = some (u_lay RX2 TX2 j) := by decide +kernel
set_option maxRecDepth 100000 in
theorem wi_RX2 : ∀ w ∈ u_ws RX2 TX2 2, w ∈ wG := uG_in fun j hj => ⟨_, li_RX2 j hj⟩
set_option maxRecDepth 100000 in
theorem li_RX5 : ∀ j : Nat, j < 17 → lw_tbl[([193, 195, 197, 199, 201, 203, 205, 207, 209, 211, 213, 215, 217, 219, 221, 223, 225] : List Nat).getD j 0]? = some (u_lay RX5 TX5 j) := by decide +kernel
set_option maxRecDepth 100000 in
theorem wi_RX5 : ∀ w ∈ u_ws RX5 TX5 17, w ∈ wG := uG_in fun j hj => ⟨_, li_RX5 j hj⟩
set_option maxRecDepth 100000 in
theorem li_RX6 : ∀ j : Nat, j < 2 → lw_tbl[([287, 289] : List Nat).getD j 0]? = some (u_lay RX6 TX6 j) := by decide +kernel
set_option maxRecDepth 100000 in
theorem wi_RX6 : ∀ w ∈ u_ws RX6 TX6 2, w ∈ wG := uG_in fun j hj => ⟨_, li_RX6 j hj⟩
set_option maxRecDepth 100000 in
theorem li_RX9 : ∀ j : Nat, j < 27 → lw_tbl[([1647, 1649, 1651, 1653, 1655, 1657, 1659, 1661, 1663, 1665, 1667, 1669, 1671, 1673, 1675, 1677, 1679, 1681, 1683, 1685, 1687, 1689, 1691, 1693, 1695, 1697, 1699] : List Nat).getD j 0]? = some (u_lay RX9 TX9 j) := by decide +kernel
set_option maxRecDepth 100000 in
theorem wi_RX9 : ∀ w ∈ u_ws RX9 TX9 27, w ∈ wG := uG_in fun j hj => ⟨_, li_RX9 j hj⟩
set_option maxRecDepth 100000 in
theorem li_RJ4 : ∀ j : Nat, j < 4 → lw_tbl[([315, 317, 319, 321] : List Nat).getD j 0]? = some (u_lay RJ4 TJ4 j) := by decide +kernel
set_option maxRecDepth 100000 in
theorem wi_RJ4 : ∀ w ∈ u_ws RJ4 TJ4 4, w ∈ wG := uG_in fun j hj => ⟨_, li_RJ4 j hj⟩
end WWD
