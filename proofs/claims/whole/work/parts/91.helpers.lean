/-! THE LAW'S HELPERS: a call, and what it throws as a number -/
section W91
variable {G : En} {d k n : Nat} {M : Me} {Q : Option Value → Me → Prop} {QX : String → Me → Prop}
theorem kl_L_8 : lw_tbl[124]? = some (.classLink RL 8 "WhistleJunction") := by decide +kernel
theorem kl_L_13 : lw_tbl[990]? = some (.classLink RL 13 "java/lang/IndexOutOfBoundsException") := by decide +kernel
theorem kl_L_15 : lw_tbl[993]? = some (.classLink RL 15 "java/lang/IllegalArgumentException") := by decide +kernel
theorem kl_L_17 : lw_tbl[994]? = some (.classLink RL 17 "java/lang/UnsupportedOperationException") := by decide +kernel
theorem kl_L_61 : lw_tbl[1250]? = some (.classLink RL 61 "java/util/NoSuchElementException") := by decide +kernel
theorem kl_L_83 : lw_tbl[1362]? = some (.classLink RL 83 "java/lang/IllegalStateException") := by decide +kernel
theorem kl_L_92 : lw_tbl[1417]? = some (.classLink RL 92 "java/lang/ArithmeticException") := by decide +kernel
theorem kl_L_118 : lw_tbl[1606]? = some (.classLink RL 118 "WhistleJunctionModel") := by decide +kernel
theorem ka_IndexOutOfBoundsException : lw_tbl[414]? = some (.castable "java/lang/IndexOutOfBoundsException" "java/lang/IndexOutOfBoundsException") := by decide +kernel
theorem ka_IllegalArgumentException : lw_tbl[486]? = some (.castable "java/lang/IllegalArgumentException" "java/lang/IllegalArgumentException") := by decide +kernel
theorem ka_UnsupportedOperationException : lw_tbl[502]? = some (.castable "java/lang/UnsupportedOperationException" "java/lang/UnsupportedOperationException") := by decide +kernel
theorem ka_NoSuchElementException : lw_tbl[1261]? = some (.castable "java/util/NoSuchElementException" "java/util/NoSuchElementException") := by decide +kernel
theorem ka_IllegalStateException : lw_tbl[1369]? = some (.castable "java/lang/IllegalStateException" "java/lang/IllegalStateException") := by decide +kernel
theorem ka_ArithmeticException : lw_tbl[1429]? = some (.castable "java/lang/ArithmeticException" "java/lang/ArithmeticException") := by decide +kernel
theorem in_RL : Cond.initialized RL ∈ wG := wG_in (i := 90) (by decide +kernel) rfl
def oM (G : En) (ao : Nat) (g : Nat → Int64) (y : Int32) (M : Me) : Me := fun z => if z = (12, 0, 0) then some (ao, .inl (G.2.2.1 1, 1, .inr (.inl (vp_updL g (nI 0).toNatClampNeg y.toInt64)))) else M z
def oD (G : En) (ao : Nat) (g : Nat → UInt64) (y : UInt64) (M : Me) : Me := fun z => if z = (12, 1, 0) then some (ao, .inl (G.2.2.1 2, 1, .inr (.inr (.inr (.inl (vf_upd g (nI 0).toNatClampNeg y)))))) else M z
theorem vp_01 : vp_in (nI 0) 1 := by
  rintro (h | h)
  · exact absurd h (by decide)
  · exact absurd h (by decide)
theorem r_f2d {X : Fx} {pc q : Nat} {lv : List (Option Value)} {st : List Value} {x : UInt32} (dg : decode X.2.1 pc = .ok (.f2d, 1)) (h0 : vf_n64 (FP.f2d x)) (hq : pc + 1 = q) (kk : AW G X d k n q lv (.double (FP.f2d x) :: st) M) : AW G X d k n pc lv (.float x :: st) M := by
  intro p e R s m args below meth c H locs cells slots ls cx hl hm hS hk hn
  subst hq
  exact lv_f2d cx.1 cx.2.1 dg h0 (kk p e R s m args below meth c H locs cells slots ls cx hl hm hS hk hn)
def hh_sign : Tb := [(0, 12, 15, 13), (0, 12, 19, 15), (0, 12, 23, 17)]
theorem wh_sign : wCallH RL 125 yL_sign cL_sign 6 (some .int) hh_sign 5 := ⟨wG_in (i := 987) (by decide +kernel) rfl, wG_in (i := 989) (by decide +kernel) rfl, in_RL, by decide +kernel, by decide +kernel, by decide⟩
theorem st_L_sign : lw_tbl[988]? = some (.static yL_sign) := by decide +kernel
def hh_unsign : Tb := [(0, 9, 12, 13), (0, 9, 15, 17)]
theorem wh_unsign : wCallH RL 134 yL_unsign cL_unsign 4 (some .int) hh_unsign 3 := ⟨wG_in (i := 1029) (by decide +kernel) rfl, wG_in (i := 1031) (by decide +kernel) rfl, in_RL, by decide +kernel, by decide +kernel, by decide⟩
theorem st_L_unsign : lw_tbl[1030]? = some (.static yL_unsign) := by decide +kernel
def hh_priority : Tb := [(0, 10, 13, 13), (0, 10, 17, 15), (0, 10, 21, 17)]
theorem wh_priority : wCallH RL 138 yL_priority cL_priority 5 (some .int) hh_priority 4 := ⟨wG_in (i := 1049) (by decide +kernel) rfl, wG_in (i := 1051) (by decide +kernel) rfl, in_RL, by decide +kernel, by decide +kernel, by decide⟩
theorem st_L_priority : lw_tbl[1050]? = some (.static yL_priority) := by decide +kernel
def hh_platform : Tb := [(0, 12, 15, 13), (0, 12, 19, 15)]
theorem wh_platform : wCallH RL 142 yL_platform cL_platform 6 (some .int) hh_platform 5 := ⟨wG_in (i := 1064) (by decide +kernel) rfl, wG_in (i := 1066) (by decide +kernel) rfl, in_RL, by decide +kernel, by decide +kernel, by decide⟩
theorem st_L_platform : lw_tbl[1065]? = some (.static yL_platform) := by decide +kernel
def hh_lineOf : Tb := [(0, 10, 13, 13), (0, 10, 17, 15)]
theorem wh_lineOf : wCallH RL 145 yL_lineOf cL_lineOf 5 (some .int) hh_lineOf 4 := ⟨wG_in (i := 1083) (by decide +kernel) rfl, wG_in (i := 1085) (by decide +kernel) rfl, in_RL, by decide +kernel, by decide +kernel, by decide⟩
theorem st_L_lineOf : lw_tbl[1084]? = some (.static yL_lineOf) := by decide +kernel
def hh_platformOf : Tb := [(0, 10, 13, 13), (0, 10, 17, 15)]
theorem wh_platformOf : wCallH RL 148 yL_platformOf cL_platformOf 5 (some .int) hh_platformOf 4 := ⟨wG_in (i := 1106) (by decide +kernel) rfl, wG_in (i := 1108) (by decide +kernel) rfl, in_RL, by decide +kernel, by decide +kernel, by decide⟩
theorem st_L_platformOf : lw_tbl[1107]? = some (.static yL_platformOf) := by decide +kernel
def hh_clash : Tb := [(0, 10, 13, 13)]
theorem wh_clash : wCallH RL 151 yL_clash cL_clash 5 (some .int) hh_clash 4 := ⟨wG_in (i := 1123) (by decide +kernel) rfl, wG_in (i := 1125) (by decide +kernel) rfl, in_RL, by decide +kernel, by decide +kernel, by decide⟩
theorem st_L_clash : lw_tbl[1124]? = some (.static yL_clash) := by decide +kernel
def hh_free : Tb := [(0, 10, 13, 15)]
theorem wh_free : wCallH RL 159 yL_free cL_free 5 (some .int) hh_free 4 := ⟨wG_in (i := 1131) (by decide +kernel) rfl, wG_in (i := 1133) (by decide +kernel) rfl, in_RL, by decide +kernel, by decide +kernel, by decide⟩
theorem st_L_free : lw_tbl[1132]? = some (.static yL_free) := by decide +kernel
def hh_whistle : Tb := [(0, 9, 12, 13), (0, 9, 15, 17)]
theorem wh_whistle : wCallH RL 163 yL_whistle cL_whistle 4 (some .int) hh_whistle 3 := ⟨wG_in (i := 1139) (by decide +kernel) rfl, wG_in (i := 1141) (by decide +kernel) rfl, in_RL, by decide +kernel, by decide +kernel, by decide⟩
theorem st_L_whistle : lw_tbl[1140]? = some (.static yL_whistle) := by decide +kernel
def hh_lie : Tb := [(0, 10, 13, 13), (0, 10, 17, 15), (0, 10, 21, 17)]
theorem wh_lie : wCallH RL 166 yL_lie cL_lie 5 (some .int) hh_lie 4 := ⟨wG_in (i := 1174) (by decide +kernel) rfl, wG_in (i := 1176) (by decide +kernel) rfl, in_RL, by decide +kernel, by decide +kernel, by decide⟩
theorem st_L_lie : lw_tbl[1175]? = some (.static yL_lie) := by decide +kernel
def hh_expose : Tb := [(0, 9, 12, 13), (0, 9, 15, 17)]
theorem wh_expose : wCallH RL 169 yL_expose cL_expose 4 (some .int) hh_expose 3 := ⟨wG_in (i := 1185) (by decide +kernel) rfl, wG_in (i := 1187) (by decide +kernel) rfl, in_RL, by decide +kernel, by decide +kernel, by decide⟩
theorem st_L_expose : lw_tbl[1186]? = some (.static yL_expose) := by decide +kernel
def hh_mute : Tb := [(0, 10, 13, 13), (0, 10, 17, 15), (0, 10, 21, 17)]
theorem wh_mute : wCallH RL 172 yL_mute cL_mute 5 (some .int) hh_mute 4 := ⟨wG_in (i := 1212) (by decide +kernel) rfl, wG_in (i := 1214) (by decide +kernel) rfl, in_RL, by decide +kernel, by decide +kernel, by decide⟩
theorem st_L_mute : lw_tbl[1213]? = some (.static yL_mute) := by decide +kernel
def hh_fine : Tb := [(0, 9, 12, 13), (0, 9, 15, 17)]
theorem wh_fine : wCallH RL 175 yL_fine cL_fine 4 (some .int) hh_fine 3 := ⟨wG_in (i := 1227) (by decide +kernel) rfl, wG_in (i := 1229) (by decide +kernel) rfl, in_RL, by decide +kernel, by decide +kernel, by decide⟩
theorem st_L_fine : lw_tbl[1228]? = some (.static yL_fine) := by decide +kernel
def hh_heard : Tb := [(0, 10, 13, 61), (0, 10, 17, 15)]
theorem wh_heard : wCallH RL 186 yL_heard cL_heard 5 (some .int) hh_heard 4 := ⟨wG_in (i := 1247) (by decide +kernel) rfl, wG_in (i := 1249) (by decide +kernel) rfl, in_RL, by decide +kernel, by decide +kernel, by decide⟩
theorem st_L_heard : lw_tbl[1248]? = some (.static yL_heard) := by decide +kernel
def hh_reading : Tb := [(0, 9, 12, 61)]
theorem wh_reading : wCallH RL 193 yL_reading cL_reading 4 (some .int) hh_reading 3 := ⟨wG_in (i := 1285) (by decide +kernel) rfl, wG_in (i := 1287) (by decide +kernel) rfl, in_RL, by decide +kernel, by decide +kernel, by decide⟩
theorem st_L_reading : lw_tbl[1286]? = some (.static yL_reading) := by decide +kernel
def hh_soonest : Tb := [(0, 9, 12, 13), (0, 9, 15, 61)]
theorem wh_soonest : wCallH RL 196 yL_soonest cL_soonest 4 (some .int) hh_soonest 3 := ⟨wG_in (i := 1302) (by decide +kernel) rfl, wG_in (i := 1304) (by decide +kernel) rfl, in_RL, by decide +kernel, by decide +kernel, by decide⟩
theorem st_L_soonest : lw_tbl[1303]? = some (.static yL_soonest) := by decide +kernel
def hh_ranked : Tb := [(0, 10, 13, 15), (0, 10, 17, 61)]
theorem wh_ranked : wCallH RL 199 yL_ranked cL_ranked 5 (some .int) hh_ranked 4 := ⟨wG_in (i := 1314) (by decide +kernel) rfl, wG_in (i := 1316) (by decide +kernel) rfl, in_RL, by decide +kernel, by decide +kernel, by decide⟩
theorem st_L_ranked : lw_tbl[1315]? = some (.static yL_ranked) := by decide +kernel
def hh_text : Tb := [(0, 9, 12, 13)]
theorem wh_text : wCallH RL 206 yL_text cL_text 4 (some .int) hh_text 3 := ⟨wG_in (i := 1329) (by decide +kernel) rfl, wG_in (i := 1331) (by decide +kernel) rfl, in_RL, by decide +kernel, by decide +kernel, by decide⟩
theorem st_L_text : lw_tbl[1330]? = some (.static yL_text) := by decide +kernel
def hh_character : Tb := [(0, 9, 12, 13)]
theorem wh_character : wCallH RL 213 yL_character cL_character 4 (some .int) hh_character 3 := ⟨wG_in (i := 1341) (by decide +kernel) rfl, wG_in (i := 1343) (by decide +kernel) rfl, in_RL, by decide +kernel, by decide +kernel, by decide⟩
theorem st_L_character : lw_tbl[1342]? = some (.static yL_character) := by decide +kernel
def hh_refusal : Tb := [(0, 9, 12, 83)]
theorem wh_refusal : wCallH RL 216 yL_refusal cL_refusal 4 (some .int) hh_refusal 3 := ⟨wG_in (i := 1359) (by decide +kernel) rfl, wG_in (i := 1361) (by decide +kernel) rfl, in_RL, by decide +kernel, by decide +kernel, by decide⟩
theorem st_L_refusal : lw_tbl[1360]? = some (.static yL_refusal) := by decide +kernel
def hh_account : Tb := [(0, 9, 12, 15)]
theorem wh_account : wCallH RL 220 yL_account cL_account 4 (some .int) hh_account 3 := ⟨wG_in (i := 1383) (by decide +kernel) rfl, wG_in (i := 1385) (by decide +kernel) rfl, in_RL, by decide +kernel, by decide +kernel, by decide⟩
theorem st_L_account : lw_tbl[1384]? = some (.static yL_account) := by decide +kernel
def hh_meanLength : Tb := [(0, 7, 10, 92)]
theorem wh_meanLength : wCallH RL 223 yL_meanLength cL_meanLength 3 (some .int) hh_meanLength 2 := ⟨wG_in (i := 1414) (by decide +kernel) rfl, wG_in (i := 1416) (by decide +kernel) rfl, in_RL, by decide +kernel, by decide +kernel, by decide⟩
theorem st_L_meanLength : lw_tbl[1415]? = some (.static yL_meanLength) := by decide +kernel
def hh_lieShare : Tb := [(0, 8, 11, 92)]
theorem wh_lieShare : wCallH RL 227 yL_lieShare cL_lieShare 3 (some .int) hh_lieShare 2 := ⟨wG_in (i := 1441) (by decide +kernel) rfl, wG_in (i := 1443) (by decide +kernel) rfl, in_RL, by decide +kernel, by decide +kernel, by decide⟩
theorem st_L_lieShare : lw_tbl[1442]? = some (.static yL_lieShare) := by decide +kernel
def hh_append : Tb := [(0, 9, 12, 15), (0, 9, 15, 83)]
theorem wh_append : wCallH RL 230 yL_append cL_append 4 (some .int) hh_append 3 := ⟨wG_in (i := 1450) (by decide +kernel) rfl, wG_in (i := 1452) (by decide +kernel) rfl, in_RL, by decide +kernel, by decide +kernel, by decide⟩
theorem st_L_append : lw_tbl[1451]? = some (.static yL_append) := by decide +kernel
def hh_read : Tb := [(0, 8, 11, 15), (0, 8, 14, 17)]
theorem wh_read : wCallH RL 233 yL_read cL_read 3 (some .int) hh_read 2 := ⟨wG_in (i := 1464) (by decide +kernel) rfl, wG_in (i := 1466) (by decide +kernel) rfl, in_RL, by decide +kernel, by decide +kernel, by decide⟩
theorem st_L_read : lw_tbl[1465]? = some (.static yL_read) := by decide +kernel
def hh_errorPosition : Tb := [(0, 8, 11, 61)]
theorem wh_errorPosition : wCallH RL 237 yL_errorPosition cL_errorPosition 3 (some .int) hh_errorPosition 2 := ⟨wG_in (i := 1570) (by decide +kernel) rfl, wG_in (i := 1572) (by decide +kernel) rfl, in_RL, by decide +kernel, by decide +kernel, by decide⟩
theorem st_L_errorPosition : lw_tbl[1571]? = some (.static yL_errorPosition) := by decide +kernel
def hh_refusedItem : Tb := [(0, 8, 11, 61)]
theorem wh_refusedItem : wCallH RL 240 yL_refusedItem cL_refusedItem 3 (some .int) hh_refusedItem 2 := ⟨wG_in (i := 1578) (by decide +kernel) rfl, wG_in (i := 1580) (by decide +kernel) rfl, in_RL, by decide +kernel, by decide +kernel, by decide⟩
theorem st_L_refusedItem : lw_tbl[1579]? = some (.static yL_refusedItem) := by decide +kernel
def hh_undo : Tb := [(0, 8, 11, 83)]
theorem wh_undo : wCallH RL 243 yL_undo cL_undo 3 (some .int) hh_undo 2 := ⟨wG_in (i := 1586) (by decide +kernel) rfl, wG_in (i := 1588) (by decide +kernel) rfl, in_RL, by decide +kernel, by decide +kernel, by decide⟩
theorem st_L_undo : lw_tbl[1587]? = some (.static yL_undo) := by decide +kernel
def hh_restore : Tb := [(0, 8, 11, 83)]
theorem wh_restore : wCallH RL 250 yL_restore cL_restore 3 (some .int) hh_restore 2 := ⟨wG_in (i := 1598) (by decide +kernel) rfl, wG_in (i := 1600) (by decide +kernel) rfl, in_RL, by decide +kernel, by decide +kernel, by decide⟩
theorem st_L_restore : lw_tbl[1599]? = some (.static yL_restore) := by decide +kernel
theorem h_L_sign {x ao : Nat} {fs : List Value} {a1 a2 a3 : Int32} (hM : M (0, 0, 0) = some (x, .inr (0, fs))) (ms : ∀ (Q1 : Option Value → Me → Prop) (QX1 : String → Me → Prop), (∀ (y : Int32) M', (∃ g, M' (12, 0, 0) = some (ao, .inl (G.2.2.1 1, 1, .inr (.inl g))) ∧ Q (some (.int (nI 0))) (oM G ao g y M')) → Q1 (some (.int y)) M') → (∀ e M' c, exL ["java/lang/IndexOutOfBoundsException", "java/lang/IllegalArgumentException", "java/lang/UnsupportedOperationException"] c = some e → Q (some (.int (nI c))) M' → QX1 e M') → MS G yX8_sign cX8_sign 4 (some .int) d k n [.ref x, .int a1, .int a2, .int a3] M Q1 QX1) : MT G yL_sign cL_sign 6 (some .int) hh_sign (d + 1) k n [.ref x, .int a1, .int a2, .int a3, .ref ao] M Q QX := by
  refine MT.of (by decide) (by simp [Value.category]) (Nat.le_of_ble_eq_true rfl) ?_
  show AW _ (_, _, _, _, _, _, _, _, _) _ _ _ _ [some _, some _, some _, some _, some _, _] _ _
  refine r_aload (q := 2) dL_sign_0 rfl rfl ?_
  refine r_iconst (v := nI 0) (q := 3) dL_sign_2 (by decide) rfl ?_
  refine r_aload_n (q := 4) dL_sign_3 rfl rfl ?_
  refine r_iload_n (q := 5) dL_sign_4 rfl rfl ?_
  refine r_iload_n (q := 6) dL_sign_5 rfl rfl ?_
  refine r_iload_n (q := 7) dL_sign_6 rfl rfl ?_
  refine r_invVC (X := wXT G yL_sign cL_sign 6 (some .int) hh_sign k n Q QX) (q := 10) (k' := k) (n' := n) (k2 := 0) (n2 := 0) (As := [.int _, .int _, .int _]) (QX := fun e M' => ∃ c, exL ["java/lang/IndexOutOfBoundsException", "java/lang/IllegalArgumentException", "java/lang/UnsupportedOperationException"] c = some e ∧ Q (some (.int (nI c))) M') wc_L_7 rfl im_X8_sign se_X8_sign hM rfl rfl (Nat.le_of_ble_eq_true rfl) (Nat.le_of_eq (Nat.add_zero _)) (Nat.le_of_eq (Nat.add_zero _)) dL_sign_7 rfl rfl (ms _ _ (fun y M' hy => ?_) fun e M' c he hq => ⟨c, he, hq⟩) fun e M' he => ?_
  · obtain ⟨g, hg, hq⟩ := hy
    show AW _ (_, _, _, _, _, _, _, _, _) _ _ _ _ [some _, some _, some _, some _, some _, _] _ _
    refine r_i2l (q := 11) dL_sign_10 rfl ?_
    refine r_last (o := (12, 0, 0)) (q := 12) hg vp_01 dL_sign_11 rfl ?_
    refine r_goto (t := 27) dL_sign_12 (by decide) ?_
    refine r_iconst (v := nI 0) (q := 28) dL_sign_27 (by decide) rfl ?_
    exact r_iret dL_sign_28 hq
  · obtain ⟨c, he, hq⟩ := he
    match c, he, hq with
    | 1, he, hq =>
      cases he
      refine ⟨15, ⟨[], ⟨0, 12, 15, 13⟩, [⟨0, 12, 19, 15⟩, ⟨0, 12, 23, 17⟩], _, rfl, List.forall_mem_nil _, by decide, by decide, ⟨_, kl_L_13⟩, ⟨_, ka_IndexOutOfBoundsException⟩, rfl⟩, fun q9 => ?_⟩
      show AW _ (_, _, _, _, _, _, _, _, _) _ _ _ _ [some _, some _, some _, some _, some _, _] _ _
      refine r_astore (q := 17) dL_sign_15 (Nat.le_of_ble_eq_true rfl) rfl rfl ?_
      refine r_iconst (v := nI 1) (q := 18) dL_sign_17 (by decide) rfl ?_
      exact r_iret dL_sign_18 hq
    | 2, he, hq =>
      cases he
      refine ⟨19, ⟨[⟨0, 12, 15, 13⟩], ⟨0, 12, 19, 15⟩, [⟨0, 12, 23, 17⟩], _, rfl, List.forall_mem_cons.mpr ⟨Or.inr ⟨by decide, _, _, kl_L_13, by decide⟩, List.forall_mem_nil _⟩, by decide, by decide, ⟨_, kl_L_15⟩, ⟨_, ka_IllegalArgumentException⟩, rfl⟩, fun q9 => ?_⟩
      show AW _ (_, _, _, _, _, _, _, _, _) _ _ _ _ [some _, some _, some _, some _, some _, _] _ _
      refine r_astore (q := 21) dL_sign_19 (Nat.le_of_ble_eq_true rfl) rfl rfl ?_
      refine r_iconst (v := nI 2) (q := 22) dL_sign_21 (by decide) rfl ?_
      exact r_iret dL_sign_22 hq
    | 3, he, hq =>
      cases he
      refine ⟨23, ⟨[⟨0, 12, 15, 13⟩, ⟨0, 12, 19, 15⟩], ⟨0, 12, 23, 17⟩, [], _, rfl, List.forall_mem_cons.mpr ⟨Or.inr ⟨by decide, _, _, kl_L_13, by decide⟩, List.forall_mem_cons.mpr ⟨Or.inr ⟨by decide, _, _, kl_L_15, by decide⟩, List.forall_mem_nil _⟩⟩, by decide, by decide, ⟨_, kl_L_17⟩, ⟨_, ka_UnsupportedOperationException⟩, rfl⟩, fun q9 => ?_⟩
      show AW _ (_, _, _, _, _, _, _, _, _) _ _ _ _ [some _, some _, some _, some _, some _, _] _ _
      refine r_astore (q := 25) dL_sign_23 (Nat.le_of_ble_eq_true rfl) rfl rfl ?_
      refine r_iconst (v := nI 3) (q := 26) dL_sign_25 (by decide) rfl ?_
      exact r_iret dL_sign_26 hq
    | 0, he, hq => cases he
    | c + 4, he, hq => cases he
theorem h_L_unsign {x ao : Nat} {fs : List Value} {a1 : Int32} (hM : M (0, 0, 0) = some (x, .inr (0, fs))) (ms : ∀ (Q1 : Option Value → Me → Prop) (QX1 : String → Me → Prop), (∀ (y : Int32) M', (∃ g, M' (12, 0, 0) = some (ao, .inl (G.2.2.1 1, 1, .inr (.inl g))) ∧ Q (some (.int (nI 0))) (oM G ao g y M')) → Q1 (some (.int y)) M') → (∀ e M' c, exL ["java/lang/IndexOutOfBoundsException", "java/lang/UnsupportedOperationException"] c = some e → Q (some (.int (nI c))) M' → QX1 e M') → MS G yX8_unsign cX8_unsign 2 (some .int) d k n [.ref x, .int a1] M Q1 QX1) : MT G yL_unsign cL_unsign 4 (some .int) hh_unsign (d + 1) k n [.ref x, .int a1, .ref ao] M Q QX := by
  refine MT.of (by decide) (by simp [Value.category]) (Nat.le_of_ble_eq_true rfl) ?_
  show AW _ (_, _, _, _, _, _, _, _, _) _ _ _ _ [some _, some _, some _, _] _ _
  refine r_aload_n (q := 1) dL_unsign_0 rfl rfl ?_
  refine r_iconst (v := nI 0) (q := 2) dL_unsign_1 (by decide) rfl ?_
  refine r_aload_n (q := 3) dL_unsign_2 rfl rfl ?_
  refine r_iload_n (q := 4) dL_unsign_3 rfl rfl ?_
  refine r_invVC (X := wXT G yL_unsign cL_unsign 4 (some .int) hh_unsign k n Q QX) (q := 7) (k' := k) (n' := n) (k2 := 0) (n2 := 0) (As := [.int _]) (QX := fun e M' => ∃ c, exL ["java/lang/IndexOutOfBoundsException", "java/lang/UnsupportedOperationException"] c = some e ∧ Q (some (.int (nI c))) M') wc_L_19 rfl im_X8_unsign se_X8_unsign hM rfl rfl (Nat.le_of_ble_eq_true rfl) (Nat.le_of_eq (Nat.add_zero _)) (Nat.le_of_eq (Nat.add_zero _)) dL_unsign_4 rfl rfl (ms _ _ (fun y M' hy => ?_) fun e M' c he hq => ⟨c, he, hq⟩) fun e M' he => ?_
  · obtain ⟨g, hg, hq⟩ := hy
    show AW _ (_, _, _, _, _, _, _, _, _) _ _ _ _ [some _, some _, some _, _] _ _
    refine r_i2l (q := 8) dL_unsign_7 rfl ?_
    refine r_last (o := (12, 0, 0)) (q := 9) hg vp_01 dL_unsign_8 rfl ?_
    refine r_goto (t := 18) dL_unsign_9 (by decide) ?_
    refine r_iconst (v := nI 0) (q := 19) dL_unsign_18 (by decide) rfl ?_
    exact r_iret dL_unsign_19 hq
  · obtain ⟨c, he, hq⟩ := he
    match c, he, hq with
    | 1, he, hq =>
      cases he
      refine ⟨12, ⟨[], ⟨0, 9, 12, 13⟩, [⟨0, 9, 15, 17⟩], _, rfl, List.forall_mem_nil _, by decide, by decide, ⟨_, kl_L_13⟩, ⟨_, ka_IndexOutOfBoundsException⟩, rfl⟩, fun q9 => ?_⟩
      show AW _ (_, _, _, _, _, _, _, _, _) _ _ _ _ [some _, some _, some _, _] _ _
      refine r_astore_n (q := 13) dL_unsign_12 (Nat.le_of_ble_eq_true rfl) rfl rfl ?_
      refine r_iconst (v := nI 1) (q := 14) dL_unsign_13 (by decide) rfl ?_
      exact r_iret dL_unsign_14 hq
    | 2, he, hq =>
      cases he
      refine ⟨15, ⟨[⟨0, 9, 12, 13⟩], ⟨0, 9, 15, 17⟩, [], _, rfl, List.forall_mem_cons.mpr ⟨Or.inr ⟨by decide, _, _, kl_L_13, by decide⟩, List.forall_mem_nil _⟩, by decide, by decide, ⟨_, kl_L_17⟩, ⟨_, ka_UnsupportedOperationException⟩, rfl⟩, fun q9 => ?_⟩
      show AW _ (_, _, _, _, _, _, _, _, _) _ _ _ _ [some _, some _, some _, _] _ _
      refine r_astore_n (q := 16) dL_unsign_15 (Nat.le_of_ble_eq_true rfl) rfl rfl ?_
      refine r_iconst (v := nI 2) (q := 17) dL_unsign_16 (by decide) rfl ?_
      exact r_iret dL_unsign_17 hq
    | 0, he, hq => cases he
    | c + 3, he, hq => cases he
theorem h_L_priority {x ao : Nat} {fs : List Value} {a1 a2 : Int32} (hM : M (0, 0, 0) = some (x, .inr (0, fs))) (ms : ∀ (Q1 : Option Value → Me → Prop) (QX1 : String → Me → Prop), (∀ (y : Int32) M', (∃ g, M' (12, 0, 0) = some (ao, .inl (G.2.2.1 1, 1, .inr (.inl g))) ∧ Q (some (.int (nI 0))) (oM G ao g y M')) → Q1 (some (.int y)) M') → (∀ e M' c, exL ["java/lang/IndexOutOfBoundsException", "java/lang/IllegalArgumentException", "java/lang/UnsupportedOperationException"] c = some e → Q (some (.int (nI c))) M' → QX1 e M') → MS G yX8_priority cX8_priority 3 (some .int) d k n [.ref x, .int a1, .int a2] M Q1 QX1) : MT G yL_priority cL_priority 5 (some .int) hh_priority (d + 1) k n [.ref x, .int a1, .int a2, .ref ao] M Q QX := by
  refine MT.of (by decide) (by simp [Value.category]) (Nat.le_of_ble_eq_true rfl) ?_
  show AW _ (_, _, _, _, _, _, _, _, _) _ _ _ _ [some _, some _, some _, some _, _] _ _
  refine r_aload_n (q := 1) dL_priority_0 rfl rfl ?_
  refine r_iconst (v := nI 0) (q := 2) dL_priority_1 (by decide) rfl ?_
  refine r_aload_n (q := 3) dL_priority_2 rfl rfl ?_
  refine r_iload_n (q := 4) dL_priority_3 rfl rfl ?_
  refine r_iload_n (q := 5) dL_priority_4 rfl rfl ?_
  refine r_invVC (X := wXT G yL_priority cL_priority 5 (some .int) hh_priority k n Q QX) (q := 8) (k' := k) (n' := n) (k2 := 0) (n2 := 0) (As := [.int _, .int _]) (QX := fun e M' => ∃ c, exL ["java/lang/IndexOutOfBoundsException", "java/lang/IllegalArgumentException", "java/lang/UnsupportedOperationException"] c = some e ∧ Q (some (.int (nI c))) M') wc_L_23 rfl im_X8_priority se_X8_priority hM rfl rfl (Nat.le_of_ble_eq_true rfl) (Nat.le_of_eq (Nat.add_zero _)) (Nat.le_of_eq (Nat.add_zero _)) dL_priority_5 rfl rfl (ms _ _ (fun y M' hy => ?_) fun e M' c he hq => ⟨c, he, hq⟩) fun e M' he => ?_
  · obtain ⟨g, hg, hq⟩ := hy
    show AW _ (_, _, _, _, _, _, _, _, _) _ _ _ _ [some _, some _, some _, some _, _] _ _
    refine r_i2l (q := 9) dL_priority_8 rfl ?_
    refine r_last (o := (12, 0, 0)) (q := 10) hg vp_01 dL_priority_9 rfl ?_
    refine r_goto (t := 25) dL_priority_10 (by decide) ?_
    refine r_iconst (v := nI 0) (q := 26) dL_priority_25 (by decide) rfl ?_
    exact r_iret dL_priority_26 hq
  · obtain ⟨c, he, hq⟩ := he
    match c, he, hq with
    | 1, he, hq =>
      cases he
      refine ⟨13, ⟨[], ⟨0, 10, 13, 13⟩, [⟨0, 10, 17, 15⟩, ⟨0, 10, 21, 17⟩], _, rfl, List.forall_mem_nil _, by decide, by decide, ⟨_, kl_L_13⟩, ⟨_, ka_IndexOutOfBoundsException⟩, rfl⟩, fun q9 => ?_⟩
      show AW _ (_, _, _, _, _, _, _, _, _) _ _ _ _ [some _, some _, some _, some _, _] _ _
      refine r_astore (q := 15) dL_priority_13 (Nat.le_of_ble_eq_true rfl) rfl rfl ?_
      refine r_iconst (v := nI 1) (q := 16) dL_priority_15 (by decide) rfl ?_
      exact r_iret dL_priority_16 hq
    | 2, he, hq =>
      cases he
      refine ⟨17, ⟨[⟨0, 10, 13, 13⟩], ⟨0, 10, 17, 15⟩, [⟨0, 10, 21, 17⟩], _, rfl, List.forall_mem_cons.mpr ⟨Or.inr ⟨by decide, _, _, kl_L_13, by decide⟩, List.forall_mem_nil _⟩, by decide, by decide, ⟨_, kl_L_15⟩, ⟨_, ka_IllegalArgumentException⟩, rfl⟩, fun q9 => ?_⟩
      show AW _ (_, _, _, _, _, _, _, _, _) _ _ _ _ [some _, some _, some _, some _, _] _ _
      refine r_astore (q := 19) dL_priority_17 (Nat.le_of_ble_eq_true rfl) rfl rfl ?_
      refine r_iconst (v := nI 2) (q := 20) dL_priority_19 (by decide) rfl ?_
      exact r_iret dL_priority_20 hq
    | 3, he, hq =>
      cases he
      refine ⟨21, ⟨[⟨0, 10, 13, 13⟩, ⟨0, 10, 17, 15⟩], ⟨0, 10, 21, 17⟩, [], _, rfl, List.forall_mem_cons.mpr ⟨Or.inr ⟨by decide, _, _, kl_L_13, by decide⟩, List.forall_mem_cons.mpr ⟨Or.inr ⟨by decide, _, _, kl_L_15, by decide⟩, List.forall_mem_nil _⟩⟩, by decide, by decide, ⟨_, kl_L_17⟩, ⟨_, ka_UnsupportedOperationException⟩, rfl⟩, fun q9 => ?_⟩
      show AW _ (_, _, _, _, _, _, _, _, _) _ _ _ _ [some _, some _, some _, some _, _] _ _
      refine r_astore (q := 23) dL_priority_21 (Nat.le_of_ble_eq_true rfl) rfl rfl ?_
      refine r_iconst (v := nI 3) (q := 24) dL_priority_23 (by decide) rfl ?_
      exact r_iret dL_priority_24 hq
    | 0, he, hq => cases he
    | c + 4, he, hq => cases he
theorem h_L_platform {x ao : Nat} {fs : List Value} {a1 a2 a3 : Int32} (hM : M (0, 0, 0) = some (x, .inr (0, fs))) (ms : ∀ (Q1 : Option Value → Me → Prop) (QX1 : String → Me → Prop), (∀ (y : Int32) M', (∃ g, M' (12, 0, 0) = some (ao, .inl (G.2.2.1 1, 1, .inr (.inl g))) ∧ Q (some (.int (nI 0))) (oM G ao g y M')) → Q1 (some (.int y)) M') → (∀ e M' c, exL ["java/lang/IndexOutOfBoundsException", "java/lang/IllegalArgumentException"] c = some e → Q (some (.int (nI c))) M' → QX1 e M') → MS G yX8_platform cX8_platform 4 (some .int) d k n [.ref x, .int a1, .int a2, .int a3] M Q1 QX1) : MT G yL_platform cL_platform 6 (some .int) hh_platform (d + 1) k n [.ref x, .int a1, .int a2, .int a3, .ref ao] M Q QX := by
  refine MT.of (by decide) (by simp [Value.category]) (Nat.le_of_ble_eq_true rfl) ?_
  show AW _ (_, _, _, _, _, _, _, _, _) _ _ _ _ [some _, some _, some _, some _, some _, _] _ _
  refine r_aload (q := 2) dL_platform_0 rfl rfl ?_
  refine r_iconst (v := nI 0) (q := 3) dL_platform_2 (by decide) rfl ?_
  refine r_aload_n (q := 4) dL_platform_3 rfl rfl ?_
  refine r_iload_n (q := 5) dL_platform_4 rfl rfl ?_
  refine r_iload_n (q := 6) dL_platform_5 rfl rfl ?_
  refine r_iload_n (q := 7) dL_platform_6 rfl rfl ?_
  refine r_invVC (X := wXT G yL_platform cL_platform 6 (some .int) hh_platform k n Q QX) (q := 10) (k' := k) (n' := n) (k2 := 0) (n2 := 0) (As := [.int _, .int _, .int _]) (QX := fun e M' => ∃ c, exL ["java/lang/IndexOutOfBoundsException", "java/lang/IllegalArgumentException"] c = some e ∧ Q (some (.int (nI c))) M') wc_L_27 rfl im_X8_platform se_X8_platform hM rfl rfl (Nat.le_of_ble_eq_true rfl) (Nat.le_of_eq (Nat.add_zero _)) (Nat.le_of_eq (Nat.add_zero _)) dL_platform_7 rfl rfl (ms _ _ (fun y M' hy => ?_) fun e M' c he hq => ⟨c, he, hq⟩) fun e M' he => ?_
  · obtain ⟨g, hg, hq⟩ := hy
    show AW _ (_, _, _, _, _, _, _, _, _) _ _ _ _ [some _, some _, some _, some _, some _, _] _ _
    refine r_i2l (q := 11) dL_platform_10 rfl ?_
    refine r_last (o := (12, 0, 0)) (q := 12) hg vp_01 dL_platform_11 rfl ?_
    refine r_goto (t := 23) dL_platform_12 (by decide) ?_
    refine r_iconst (v := nI 0) (q := 24) dL_platform_23 (by decide) rfl ?_
    exact r_iret dL_platform_24 hq
  · obtain ⟨c, he, hq⟩ := he
    match c, he, hq with
    | 1, he, hq =>
      cases he
      refine ⟨15, ⟨[], ⟨0, 12, 15, 13⟩, [⟨0, 12, 19, 15⟩], _, rfl, List.forall_mem_nil _, by decide, by decide, ⟨_, kl_L_13⟩, ⟨_, ka_IndexOutOfBoundsException⟩, rfl⟩, fun q9 => ?_⟩
      show AW _ (_, _, _, _, _, _, _, _, _) _ _ _ _ [some _, some _, some _, some _, some _, _] _ _
      refine r_astore (q := 17) dL_platform_15 (Nat.le_of_ble_eq_true rfl) rfl rfl ?_
      refine r_iconst (v := nI 1) (q := 18) dL_platform_17 (by decide) rfl ?_
      exact r_iret dL_platform_18 hq
    | 2, he, hq =>
      cases he
      refine ⟨19, ⟨[⟨0, 12, 15, 13⟩], ⟨0, 12, 19, 15⟩, [], _, rfl, List.forall_mem_cons.mpr ⟨Or.inr ⟨by decide, _, _, kl_L_13, by decide⟩, List.forall_mem_nil _⟩, by decide, by decide, ⟨_, kl_L_15⟩, ⟨_, ka_IllegalArgumentException⟩, rfl⟩, fun q9 => ?_⟩
      show AW _ (_, _, _, _, _, _, _, _, _) _ _ _ _ [some _, some _, some _, some _, some _, _] _ _
      refine r_astore (q := 21) dL_platform_19 (Nat.le_of_ble_eq_true rfl) rfl rfl ?_
      refine r_iconst (v := nI 2) (q := 22) dL_platform_21 (by decide) rfl ?_
      exact r_iret dL_platform_22 hq
    | 0, he, hq => cases he
    | c + 3, he, hq => cases he
theorem h_L_lineOf {x ao : Nat} {fs : List Value} {a1 a2 : Int32} (hM : M (0, 0, 0) = some (x, .inr (0, fs))) (ms : ∀ (Q1 : Option Value → Me → Prop) (QX1 : String → Me → Prop), (∀ (y : Int32) M', (∃ g, M' (12, 0, 0) = some (ao, .inl (G.2.2.1 1, 1, .inr (.inl g))) ∧ Q (some (.int (nI 0))) (oM G ao g y M')) → Q1 (some (.int y)) M') → (∀ e M' c, exL ["java/lang/IndexOutOfBoundsException", "java/lang/IllegalArgumentException"] c = some e → Q (some (.int (nI c))) M' → QX1 e M') → MS G yX8_lineOf cX8_lineOf 3 (some .int) d k n [.ref x, .int a1, .int a2] M Q1 QX1) : MT G yL_lineOf cL_lineOf 5 (some .int) hh_lineOf (d + 1) k n [.ref x, .int a1, .int a2, .ref ao] M Q QX := by
  refine MT.of (by decide) (by simp [Value.category]) (Nat.le_of_ble_eq_true rfl) ?_
  show AW _ (_, _, _, _, _, _, _, _, _) _ _ _ _ [some _, some _, some _, some _, _] _ _
  refine r_aload_n (q := 1) dL_lineOf_0 rfl rfl ?_
  refine r_iconst (v := nI 0) (q := 2) dL_lineOf_1 (by decide) rfl ?_
  refine r_aload_n (q := 3) dL_lineOf_2 rfl rfl ?_
  refine r_iload_n (q := 4) dL_lineOf_3 rfl rfl ?_
  refine r_iload_n (q := 5) dL_lineOf_4 rfl rfl ?_
  refine r_invVC (X := wXT G yL_lineOf cL_lineOf 5 (some .int) hh_lineOf k n Q QX) (q := 8) (k' := k) (n' := n) (k2 := 0) (n2 := 0) (As := [.int _, .int _]) (QX := fun e M' => ∃ c, exL ["java/lang/IndexOutOfBoundsException", "java/lang/IllegalArgumentException"] c = some e ∧ Q (some (.int (nI c))) M') wc_L_30 rfl im_X8_lineOf se_X8_lineOf hM rfl rfl (Nat.le_of_ble_eq_true rfl) (Nat.le_of_eq (Nat.add_zero _)) (Nat.le_of_eq (Nat.add_zero _)) dL_lineOf_5 rfl rfl (ms _ _ (fun y M' hy => ?_) fun e M' c he hq => ⟨c, he, hq⟩) fun e M' he => ?_
  · obtain ⟨g, hg, hq⟩ := hy
    show AW _ (_, _, _, _, _, _, _, _, _) _ _ _ _ [some _, some _, some _, some _, _] _ _
    refine r_i2l (q := 9) dL_lineOf_8 rfl ?_
    refine r_last (o := (12, 0, 0)) (q := 10) hg vp_01 dL_lineOf_9 rfl ?_
    refine r_goto (t := 21) dL_lineOf_10 (by decide) ?_
    refine r_iconst (v := nI 0) (q := 22) dL_lineOf_21 (by decide) rfl ?_
    exact r_iret dL_lineOf_22 hq
  · obtain ⟨c, he, hq⟩ := he
    match c, he, hq with
    | 1, he, hq =>
      cases he
      refine ⟨13, ⟨[], ⟨0, 10, 13, 13⟩, [⟨0, 10, 17, 15⟩], _, rfl, List.forall_mem_nil _, by decide, by decide, ⟨_, kl_L_13⟩, ⟨_, ka_IndexOutOfBoundsException⟩, rfl⟩, fun q9 => ?_⟩
      show AW _ (_, _, _, _, _, _, _, _, _) _ _ _ _ [some _, some _, some _, some _, _] _ _
      refine r_astore (q := 15) dL_lineOf_13 (Nat.le_of_ble_eq_true rfl) rfl rfl ?_
      refine r_iconst (v := nI 1) (q := 16) dL_lineOf_15 (by decide) rfl ?_
      exact r_iret dL_lineOf_16 hq
    | 2, he, hq =>
      cases he
      refine ⟨17, ⟨[⟨0, 10, 13, 13⟩], ⟨0, 10, 17, 15⟩, [], _, rfl, List.forall_mem_cons.mpr ⟨Or.inr ⟨by decide, _, _, kl_L_13, by decide⟩, List.forall_mem_nil _⟩, by decide, by decide, ⟨_, kl_L_15⟩, ⟨_, ka_IllegalArgumentException⟩, rfl⟩, fun q9 => ?_⟩
      show AW _ (_, _, _, _, _, _, _, _, _) _ _ _ _ [some _, some _, some _, some _, _] _ _
      refine r_astore (q := 19) dL_lineOf_17 (Nat.le_of_ble_eq_true rfl) rfl rfl ?_
      refine r_iconst (v := nI 2) (q := 20) dL_lineOf_19 (by decide) rfl ?_
      exact r_iret dL_lineOf_20 hq
    | 0, he, hq => cases he
    | c + 3, he, hq => cases he
theorem h_L_platformOf {x ao : Nat} {fs : List Value} {a1 a2 : Int32} (hM : M (0, 0, 0) = some (x, .inr (0, fs))) (ms : ∀ (Q1 : Option Value → Me → Prop) (QX1 : String → Me → Prop), (∀ (y : Int32) M', (∃ g, M' (12, 0, 0) = some (ao, .inl (G.2.2.1 1, 1, .inr (.inl g))) ∧ Q (some (.int (nI 0))) (oM G ao g y M')) → Q1 (some (.int y)) M') → (∀ e M' c, exL ["java/lang/IndexOutOfBoundsException", "java/lang/IllegalArgumentException"] c = some e → Q (some (.int (nI c))) M' → QX1 e M') → MS G yX8_platformOf cX8_platformOf 3 (some .int) d k n [.ref x, .int a1, .int a2] M Q1 QX1) : MT G yL_platformOf cL_platformOf 5 (some .int) hh_platformOf (d + 1) k n [.ref x, .int a1, .int a2, .ref ao] M Q QX := by
  refine MT.of (by decide) (by simp [Value.category]) (Nat.le_of_ble_eq_true rfl) ?_
  show AW _ (_, _, _, _, _, _, _, _, _) _ _ _ _ [some _, some _, some _, some _, _] _ _
  refine r_aload_n (q := 1) dL_platformOf_0 rfl rfl ?_
  refine r_iconst (v := nI 0) (q := 2) dL_platformOf_1 (by decide) rfl ?_
  refine r_aload_n (q := 3) dL_platformOf_2 rfl rfl ?_
  refine r_iload_n (q := 4) dL_platformOf_3 rfl rfl ?_
  refine r_iload_n (q := 5) dL_platformOf_4 rfl rfl ?_
  refine r_invVC (X := wXT G yL_platformOf cL_platformOf 5 (some .int) hh_platformOf k n Q QX) (q := 8) (k' := k) (n' := n) (k2 := 0) (n2 := 0) (As := [.int _, .int _]) (QX := fun e M' => ∃ c, exL ["java/lang/IndexOutOfBoundsException", "java/lang/IllegalArgumentException"] c = some e ∧ Q (some (.int (nI c))) M') wc_L_33 rfl im_X8_platformOf se_X8_platformOf hM rfl rfl (Nat.le_of_ble_eq_true rfl) (Nat.le_of_eq (Nat.add_zero _)) (Nat.le_of_eq (Nat.add_zero _)) dL_platformOf_5 rfl rfl (ms _ _ (fun y M' hy => ?_) fun e M' c he hq => ⟨c, he, hq⟩) fun e M' he => ?_
  · obtain ⟨g, hg, hq⟩ := hy
    show AW _ (_, _, _, _, _, _, _, _, _) _ _ _ _ [some _, some _, some _, some _, _] _ _
    refine r_i2l (q := 9) dL_platformOf_8 rfl ?_
    refine r_last (o := (12, 0, 0)) (q := 10) hg vp_01 dL_platformOf_9 rfl ?_
    refine r_goto (t := 21) dL_platformOf_10 (by decide) ?_
    refine r_iconst (v := nI 0) (q := 22) dL_platformOf_21 (by decide) rfl ?_
    exact r_iret dL_platformOf_22 hq
  · obtain ⟨c, he, hq⟩ := he
    match c, he, hq with
    | 1, he, hq =>
      cases he
      refine ⟨13, ⟨[], ⟨0, 10, 13, 13⟩, [⟨0, 10, 17, 15⟩], _, rfl, List.forall_mem_nil _, by decide, by decide, ⟨_, kl_L_13⟩, ⟨_, ka_IndexOutOfBoundsException⟩, rfl⟩, fun q9 => ?_⟩
      show AW _ (_, _, _, _, _, _, _, _, _) _ _ _ _ [some _, some _, some _, some _, _] _ _
      refine r_astore (q := 15) dL_platformOf_13 (Nat.le_of_ble_eq_true rfl) rfl rfl ?_
      refine r_iconst (v := nI 1) (q := 16) dL_platformOf_15 (by decide) rfl ?_
      exact r_iret dL_platformOf_16 hq
    | 2, he, hq =>
      cases he
      refine ⟨17, ⟨[⟨0, 10, 13, 13⟩], ⟨0, 10, 17, 15⟩, [], _, rfl, List.forall_mem_cons.mpr ⟨Or.inr ⟨by decide, _, _, kl_L_13, by decide⟩, List.forall_mem_nil _⟩, by decide, by decide, ⟨_, kl_L_15⟩, ⟨_, ka_IllegalArgumentException⟩, rfl⟩, fun q9 => ?_⟩
      show AW _ (_, _, _, _, _, _, _, _, _) _ _ _ _ [some _, some _, some _, some _, _] _ _
      refine r_astore (q := 19) dL_platformOf_17 (Nat.le_of_ble_eq_true rfl) rfl rfl ?_
      refine r_iconst (v := nI 2) (q := 20) dL_platformOf_19 (by decide) rfl ?_
      exact r_iret dL_platformOf_20 hq
    | 0, he, hq => cases he
    | c + 3, he, hq => cases he
theorem h_L_clash {x ao : Nat} {fs : List Value} {a1 a2 : Int32} (hM : M (0, 0, 0) = some (x, .inr (0, fs))) (ms : ∀ (Q1 : Option Value → Me → Prop) (QX1 : String → Me → Prop), (∀ (y : Int32) M', (∃ g, M' (12, 0, 0) = some (ao, .inl (G.2.2.1 1, 1, .inr (.inl g))) ∧ Q (some (.int (nI 0))) (oM G ao g y M')) → Q1 (some (.int y)) M') → (∀ e M' c, exL ["java/lang/IndexOutOfBoundsException"] c = some e → Q (some (.int (nI c))) M' → QX1 e M') → MS G yX8_clash cX8_clash 3 (some .int) d k n [.ref x, .int a1, .int a2] M Q1 QX1) : MT G yL_clash cL_clash 5 (some .int) hh_clash (d + 1) k n [.ref x, .int a1, .int a2, .ref ao] M Q QX := by
  refine MT.of (by decide) (by simp [Value.category]) (Nat.le_of_ble_eq_true rfl) ?_
  show AW _ (_, _, _, _, _, _, _, _, _) _ _ _ _ [some _, some _, some _, some _, _] _ _
  refine r_aload_n (q := 1) dL_clash_0 rfl rfl ?_
  refine r_iconst (v := nI 0) (q := 2) dL_clash_1 (by decide) rfl ?_
  refine r_aload_n (q := 3) dL_clash_2 rfl rfl ?_
  refine r_iload_n (q := 4) dL_clash_3 rfl rfl ?_
  refine r_iload_n (q := 5) dL_clash_4 rfl rfl ?_
  refine r_invVC (X := wXT G yL_clash cL_clash 5 (some .int) hh_clash k n Q QX) (q := 8) (k' := k) (n' := n) (k2 := 0) (n2 := 0) (As := [.int _, .int _]) (QX := fun e M' => ∃ c, exL ["java/lang/IndexOutOfBoundsException"] c = some e ∧ Q (some (.int (nI c))) M') wc_L_36 rfl im_X8_clash se_X8_clash hM rfl rfl (Nat.le_of_ble_eq_true rfl) (Nat.le_of_eq (Nat.add_zero _)) (Nat.le_of_eq (Nat.add_zero _)) dL_clash_5 rfl rfl (ms _ _ (fun y M' hy => ?_) fun e M' c he hq => ⟨c, he, hq⟩) fun e M' he => ?_
  · obtain ⟨g, hg, hq⟩ := hy
    show AW _ (_, _, _, _, _, _, _, _, _) _ _ _ _ [some _, some _, some _, some _, _] _ _
    refine r_i2l (q := 9) dL_clash_8 rfl ?_
    refine r_last (o := (12, 0, 0)) (q := 10) hg vp_01 dL_clash_9 rfl ?_
    refine r_goto (t := 17) dL_clash_10 (by decide) ?_
    refine r_iconst (v := nI 0) (q := 18) dL_clash_17 (by decide) rfl ?_
    exact r_iret dL_clash_18 hq
  · obtain ⟨c, he, hq⟩ := he
    match c, he, hq with
    | 1, he, hq =>
      cases he
      refine ⟨13, ⟨[], ⟨0, 10, 13, 13⟩, [], _, rfl, List.forall_mem_nil _, by decide, by decide, ⟨_, kl_L_13⟩, ⟨_, ka_IndexOutOfBoundsException⟩, rfl⟩, fun q9 => ?_⟩
      show AW _ (_, _, _, _, _, _, _, _, _) _ _ _ _ [some _, some _, some _, some _, _] _ _
      refine r_astore (q := 15) dL_clash_13 (Nat.le_of_ble_eq_true rfl) rfl rfl ?_
      refine r_iconst (v := nI 1) (q := 16) dL_clash_15 (by decide) rfl ?_
      exact r_iret dL_clash_16 hq
    | 0, he, hq => cases he
    | c + 2, he, hq => cases he
theorem h_L_free {x ao : Nat} {fs : List Value} {a1 a2 : Int32} (hM : M (0, 0, 0) = some (x, .inr (0, fs))) (ms : ∀ (Q1 : Option Value → Me → Prop) (QX1 : String → Me → Prop), (∀ (y : Int32) M', (∃ g, M' (12, 0, 0) = some (ao, .inl (G.2.2.1 1, 1, .inr (.inl g))) ∧ Q (some (.int (nI 0))) (oM G ao g y M')) → Q1 (some (.int y)) M') → (∀ e M' c, exL ["java/lang/IllegalArgumentException"] c = some e → Q (some (.int (nI c))) M' → QX1 e M') → MS G yX8_free cX8_free 3 (some .int) d k n [.ref x, .int a1, .int a2] M Q1 QX1) : MT G yL_free cL_free 5 (some .int) hh_free (d + 1) k n [.ref x, .int a1, .int a2, .ref ao] M Q QX := by
  refine MT.of (by decide) (by simp [Value.category]) (Nat.le_of_ble_eq_true rfl) ?_
  show AW _ (_, _, _, _, _, _, _, _, _) _ _ _ _ [some _, some _, some _, some _, _] _ _
  refine r_aload_n (q := 1) dL_free_0 rfl rfl ?_
  refine r_iconst (v := nI 0) (q := 2) dL_free_1 (by decide) rfl ?_
  refine r_aload_n (q := 3) dL_free_2 rfl rfl ?_
  refine r_iload_n (q := 4) dL_free_3 rfl rfl ?_
  refine r_iload_n (q := 5) dL_free_4 rfl rfl ?_
  refine r_invVC (X := wXT G yL_free cL_free 5 (some .int) hh_free k n Q QX) (q := 8) (k' := k) (n' := n) (k2 := 0) (n2 := 0) (As := [.int _, .int _]) (QX := fun e M' => ∃ c, exL ["java/lang/IllegalArgumentException"] c = some e ∧ Q (some (.int (nI c))) M') wc_L_39 rfl im_X8_free se_X8_free hM rfl rfl (Nat.le_of_ble_eq_true rfl) (Nat.le_of_eq (Nat.add_zero _)) (Nat.le_of_eq (Nat.add_zero _)) dL_free_5 rfl rfl (ms _ _ (fun y M' hy => ?_) fun e M' c he hq => ⟨c, he, hq⟩) fun e M' he => ?_
  · obtain ⟨g, hg, hq⟩ := hy
    show AW _ (_, _, _, _, _, _, _, _, _) _ _ _ _ [some _, some _, some _, some _, _] _ _
    refine r_i2l (q := 9) dL_free_8 rfl ?_
    refine r_last (o := (12, 0, 0)) (q := 10) hg vp_01 dL_free_9 rfl ?_
    refine r_goto (t := 17) dL_free_10 (by decide) ?_
    refine r_iconst (v := nI 0) (q := 18) dL_free_17 (by decide) rfl ?_
    exact r_iret dL_free_18 hq
  · obtain ⟨c, he, hq⟩ := he
    match c, he, hq with
    | 1, he, hq =>
      cases he
      refine ⟨13, ⟨[], ⟨0, 10, 13, 15⟩, [], _, rfl, List.forall_mem_nil _, by decide, by decide, ⟨_, kl_L_15⟩, ⟨_, ka_IllegalArgumentException⟩, rfl⟩, fun q9 => ?_⟩
      show AW _ (_, _, _, _, _, _, _, _, _) _ _ _ _ [some _, some _, some _, some _, _] _ _
      refine r_astore (q := 15) dL_free_13 (Nat.le_of_ble_eq_true rfl) rfl rfl ?_
      refine r_iconst (v := nI 1) (q := 16) dL_free_15 (by decide) rfl ?_
      exact r_iret dL_free_16 hq
    | 0, he, hq => cases he
    | c + 2, he, hq => cases he
theorem h_L_whistle {x ao : Nat} {fs : List Value} {a1 : Int32} (hM : M (0, 0, 0) = some (x, .inr (0, fs))) (ms : ∀ (Q1 : Option Value → Me → Prop) (QX1 : String → Me → Prop), (∀ (y : Int32) M', (∃ g, M' (12, 0, 0) = some (ao, .inl (G.2.2.1 1, 1, .inr (.inl g))) ∧ Q (some (.int (nI 0))) (oM G ao g y M')) → Q1 (some (.int y)) M') → (∀ e M' c, exL ["java/lang/IndexOutOfBoundsException", "java/lang/UnsupportedOperationException"] c = some e → Q (some (.int (nI c))) M' → QX1 e M') → MS G yX8_whistle cX8_whistle 2 (some .int) d k n [.ref x, .int a1] M Q1 QX1) : MT G yL_whistle cL_whistle 4 (some .int) hh_whistle (d + 1) k n [.ref x, .int a1, .ref ao] M Q QX := by
  refine MT.of (by decide) (by simp [Value.category]) (Nat.le_of_ble_eq_true rfl) ?_
  show AW _ (_, _, _, _, _, _, _, _, _) _ _ _ _ [some _, some _, some _, _] _ _
  refine r_aload_n (q := 1) dL_whistle_0 rfl rfl ?_
  refine r_iconst (v := nI 0) (q := 2) dL_whistle_1 (by decide) rfl ?_
  refine r_aload_n (q := 3) dL_whistle_2 rfl rfl ?_
  refine r_iload_n (q := 4) dL_whistle_3 rfl rfl ?_
  refine r_invVC (X := wXT G yL_whistle cL_whistle 4 (some .int) hh_whistle k n Q QX) (q := 7) (k' := k) (n' := n) (k2 := 0) (n2 := 0) (As := [.int _]) (QX := fun e M' => ∃ c, exL ["java/lang/IndexOutOfBoundsException", "java/lang/UnsupportedOperationException"] c = some e ∧ Q (some (.int (nI c))) M') wc_L_43 rfl im_X8_whistle se_X8_whistle hM rfl rfl (Nat.le_of_ble_eq_true rfl) (Nat.le_of_eq (Nat.add_zero _)) (Nat.le_of_eq (Nat.add_zero _)) dL_whistle_4 rfl rfl (ms _ _ (fun y M' hy => ?_) fun e M' c he hq => ⟨c, he, hq⟩) fun e M' he => ?_
  · obtain ⟨g, hg, hq⟩ := hy
    show AW _ (_, _, _, _, _, _, _, _, _) _ _ _ _ [some _, some _, some _, _] _ _
    refine r_i2l (q := 8) dL_whistle_7 rfl ?_
    refine r_last (o := (12, 0, 0)) (q := 9) hg vp_01 dL_whistle_8 rfl ?_
    refine r_goto (t := 18) dL_whistle_9 (by decide) ?_
    refine r_iconst (v := nI 0) (q := 19) dL_whistle_18 (by decide) rfl ?_
    exact r_iret dL_whistle_19 hq
  · obtain ⟨c, he, hq⟩ := he
    match c, he, hq with
    | 1, he, hq =>
      cases he
      refine ⟨12, ⟨[], ⟨0, 9, 12, 13⟩, [⟨0, 9, 15, 17⟩], _, rfl, List.forall_mem_nil _, by decide, by decide, ⟨_, kl_L_13⟩, ⟨_, ka_IndexOutOfBoundsException⟩, rfl⟩, fun q9 => ?_⟩
      show AW _ (_, _, _, _, _, _, _, _, _) _ _ _ _ [some _, some _, some _, _] _ _
      refine r_astore_n (q := 13) dL_whistle_12 (Nat.le_of_ble_eq_true rfl) rfl rfl ?_
      refine r_iconst (v := nI 1) (q := 14) dL_whistle_13 (by decide) rfl ?_
      exact r_iret dL_whistle_14 hq
    | 2, he, hq =>
      cases he
      refine ⟨15, ⟨[⟨0, 9, 12, 13⟩], ⟨0, 9, 15, 17⟩, [], _, rfl, List.forall_mem_cons.mpr ⟨Or.inr ⟨by decide, _, _, kl_L_13, by decide⟩, List.forall_mem_nil _⟩, by decide, by decide, ⟨_, kl_L_17⟩, ⟨_, ka_UnsupportedOperationException⟩, rfl⟩, fun q9 => ?_⟩
      show AW _ (_, _, _, _, _, _, _, _, _) _ _ _ _ [some _, some _, some _, _] _ _
      refine r_astore_n (q := 16) dL_whistle_15 (Nat.le_of_ble_eq_true rfl) rfl rfl ?_
      refine r_iconst (v := nI 2) (q := 17) dL_whistle_16 (by decide) rfl ?_
      exact r_iret dL_whistle_17 hq
    | 0, he, hq => cases he
    | c + 3, he, hq => cases he
theorem h_L_lie {x ao : Nat} {fs : List Value} {a1 a2 : Int32} (hM : M (0, 0, 0) = some (x, .inr (0, fs))) (ms : ∀ (Q1 : Option Value → Me → Prop) (QX1 : String → Me → Prop), (∀ (y : Int32) M', (∃ g, M' (12, 0, 0) = some (ao, .inl (G.2.2.1 1, 1, .inr (.inl g))) ∧ Q (some (.int (nI 0))) (oM G ao g y M')) → Q1 (some (.int y)) M') → (∀ e M' c, exL ["java/lang/IndexOutOfBoundsException", "java/lang/IllegalArgumentException", "java/lang/UnsupportedOperationException"] c = some e → Q (some (.int (nI c))) M' → QX1 e M') → MS G yX8_lie cX8_lie 3 (some .int) d k n [.ref x, .int a1, .int a2] M Q1 QX1) : MT G yL_lie cL_lie 5 (some .int) hh_lie (d + 1) k n [.ref x, .int a1, .int a2, .ref ao] M Q QX := by
  refine MT.of (by decide) (by simp [Value.category]) (Nat.le_of_ble_eq_true rfl) ?_
  show AW _ (_, _, _, _, _, _, _, _, _) _ _ _ _ [some _, some _, some _, some _, _] _ _
  refine r_aload_n (q := 1) dL_lie_0 rfl rfl ?_
  refine r_iconst (v := nI 0) (q := 2) dL_lie_1 (by decide) rfl ?_
  refine r_aload_n (q := 3) dL_lie_2 rfl rfl ?_
  refine r_iload_n (q := 4) dL_lie_3 rfl rfl ?_
  refine r_iload_n (q := 5) dL_lie_4 rfl rfl ?_
  refine r_invVC (X := wXT G yL_lie cL_lie 5 (some .int) hh_lie k n Q QX) (q := 8) (k' := k) (n' := n) (k2 := 0) (n2 := 0) (As := [.int _, .int _]) (QX := fun e M' => ∃ c, exL ["java/lang/IndexOutOfBoundsException", "java/lang/IllegalArgumentException", "java/lang/UnsupportedOperationException"] c = some e ∧ Q (some (.int (nI c))) M') wc_L_46 rfl im_X8_lie se_X8_lie hM rfl rfl (Nat.le_of_ble_eq_true rfl) (Nat.le_of_eq (Nat.add_zero _)) (Nat.le_of_eq (Nat.add_zero _)) dL_lie_5 rfl rfl (ms _ _ (fun y M' hy => ?_) fun e M' c he hq => ⟨c, he, hq⟩) fun e M' he => ?_
  · obtain ⟨g, hg, hq⟩ := hy
    show AW _ (_, _, _, _, _, _, _, _, _) _ _ _ _ [some _, some _, some _, some _, _] _ _
    refine r_i2l (q := 9) dL_lie_8 rfl ?_
    refine r_last (o := (12, 0, 0)) (q := 10) hg vp_01 dL_lie_9 rfl ?_
    refine r_goto (t := 25) dL_lie_10 (by decide) ?_
    refine r_iconst (v := nI 0) (q := 26) dL_lie_25 (by decide) rfl ?_
    exact r_iret dL_lie_26 hq
  · obtain ⟨c, he, hq⟩ := he
    match c, he, hq with
    | 1, he, hq =>
      cases he
      refine ⟨13, ⟨[], ⟨0, 10, 13, 13⟩, [⟨0, 10, 17, 15⟩, ⟨0, 10, 21, 17⟩], _, rfl, List.forall_mem_nil _, by decide, by decide, ⟨_, kl_L_13⟩, ⟨_, ka_IndexOutOfBoundsException⟩, rfl⟩, fun q9 => ?_⟩
      show AW _ (_, _, _, _, _, _, _, _, _) _ _ _ _ [some _, some _, some _, some _, _] _ _
      refine r_astore (q := 15) dL_lie_13 (Nat.le_of_ble_eq_true rfl) rfl rfl ?_
      refine r_iconst (v := nI 1) (q := 16) dL_lie_15 (by decide) rfl ?_
      exact r_iret dL_lie_16 hq
    | 2, he, hq =>
      cases he
      refine ⟨17, ⟨[⟨0, 10, 13, 13⟩], ⟨0, 10, 17, 15⟩, [⟨0, 10, 21, 17⟩], _, rfl, List.forall_mem_cons.mpr ⟨Or.inr ⟨by decide, _, _, kl_L_13, by decide⟩, List.forall_mem_nil _⟩, by decide, by decide, ⟨_, kl_L_15⟩, ⟨_, ka_IllegalArgumentException⟩, rfl⟩, fun q9 => ?_⟩
      show AW _ (_, _, _, _, _, _, _, _, _) _ _ _ _ [some _, some _, some _, some _, _] _ _
      refine r_astore (q := 19) dL_lie_17 (Nat.le_of_ble_eq_true rfl) rfl rfl ?_
      refine r_iconst (v := nI 2) (q := 20) dL_lie_19 (by decide) rfl ?_
      exact r_iret dL_lie_20 hq
    | 3, he, hq =>
      cases he
      refine ⟨21, ⟨[⟨0, 10, 13, 13⟩, ⟨0, 10, 17, 15⟩], ⟨0, 10, 21, 17⟩, [], _, rfl, List.forall_mem_cons.mpr ⟨Or.inr ⟨by decide, _, _, kl_L_13, by decide⟩, List.forall_mem_cons.mpr ⟨Or.inr ⟨by decide, _, _, kl_L_15, by decide⟩, List.forall_mem_nil _⟩⟩, by decide, by decide, ⟨_, kl_L_17⟩, ⟨_, ka_UnsupportedOperationException⟩, rfl⟩, fun q9 => ?_⟩
      show AW _ (_, _, _, _, _, _, _, _, _) _ _ _ _ [some _, some _, some _, some _, _] _ _
      refine r_astore (q := 23) dL_lie_21 (Nat.le_of_ble_eq_true rfl) rfl rfl ?_
      refine r_iconst (v := nI 3) (q := 24) dL_lie_23 (by decide) rfl ?_
      exact r_iret dL_lie_24 hq
    | 0, he, hq => cases he
    | c + 4, he, hq => cases he
theorem h_L_expose {x ao : Nat} {fs : List Value} {a1 : Int32} (hM : M (0, 0, 0) = some (x, .inr (0, fs))) (ms : ∀ (Q1 : Option Value → Me → Prop) (QX1 : String → Me → Prop), (∀ (y : Int32) M', (∃ g, M' (12, 0, 0) = some (ao, .inl (G.2.2.1 1, 1, .inr (.inl g))) ∧ Q (some (.int (nI 0))) (oM G ao g y M')) → Q1 (some (.int y)) M') → (∀ e M' c, exL ["java/lang/IndexOutOfBoundsException", "java/lang/UnsupportedOperationException"] c = some e → Q (some (.int (nI c))) M' → QX1 e M') → MS G yX8_expose cX8_expose 2 (some .int) d k n [.ref x, .int a1] M Q1 QX1) : MT G yL_expose cL_expose 4 (some .int) hh_expose (d + 1) k n [.ref x, .int a1, .ref ao] M Q QX := by
  refine MT.of (by decide) (by simp [Value.category]) (Nat.le_of_ble_eq_true rfl) ?_
  show AW _ (_, _, _, _, _, _, _, _, _) _ _ _ _ [some _, some _, some _, _] _ _
  refine r_aload_n (q := 1) dL_expose_0 rfl rfl ?_
  refine r_iconst (v := nI 0) (q := 2) dL_expose_1 (by decide) rfl ?_
  refine r_aload_n (q := 3) dL_expose_2 rfl rfl ?_
  refine r_iload_n (q := 4) dL_expose_3 rfl rfl ?_
  refine r_invVC (X := wXT G yL_expose cL_expose 4 (some .int) hh_expose k n Q QX) (q := 7) (k' := k) (n' := n) (k2 := 0) (n2 := 0) (As := [.int _]) (QX := fun e M' => ∃ c, exL ["java/lang/IndexOutOfBoundsException", "java/lang/UnsupportedOperationException"] c = some e ∧ Q (some (.int (nI c))) M') wc_L_49 rfl im_X8_expose se_X8_expose hM rfl rfl (Nat.le_of_ble_eq_true rfl) (Nat.le_of_eq (Nat.add_zero _)) (Nat.le_of_eq (Nat.add_zero _)) dL_expose_4 rfl rfl (ms _ _ (fun y M' hy => ?_) fun e M' c he hq => ⟨c, he, hq⟩) fun e M' he => ?_
  · obtain ⟨g, hg, hq⟩ := hy
    show AW _ (_, _, _, _, _, _, _, _, _) _ _ _ _ [some _, some _, some _, _] _ _
    refine r_i2l (q := 8) dL_expose_7 rfl ?_
    refine r_last (o := (12, 0, 0)) (q := 9) hg vp_01 dL_expose_8 rfl ?_
    refine r_goto (t := 18) dL_expose_9 (by decide) ?_
    refine r_iconst (v := nI 0) (q := 19) dL_expose_18 (by decide) rfl ?_
    exact r_iret dL_expose_19 hq
  · obtain ⟨c, he, hq⟩ := he
    match c, he, hq with
    | 1, he, hq =>
      cases he
      refine ⟨12, ⟨[], ⟨0, 9, 12, 13⟩, [⟨0, 9, 15, 17⟩], _, rfl, List.forall_mem_nil _, by decide, by decide, ⟨_, kl_L_13⟩, ⟨_, ka_IndexOutOfBoundsException⟩, rfl⟩, fun q9 => ?_⟩
      show AW _ (_, _, _, _, _, _, _, _, _) _ _ _ _ [some _, some _, some _, _] _ _
      refine r_astore_n (q := 13) dL_expose_12 (Nat.le_of_ble_eq_true rfl) rfl rfl ?_
      refine r_iconst (v := nI 1) (q := 14) dL_expose_13 (by decide) rfl ?_
      exact r_iret dL_expose_14 hq
    | 2, he, hq =>
      cases he
      refine ⟨15, ⟨[⟨0, 9, 12, 13⟩], ⟨0, 9, 15, 17⟩, [], _, rfl, List.forall_mem_cons.mpr ⟨Or.inr ⟨by decide, _, _, kl_L_13, by decide⟩, List.forall_mem_nil _⟩, by decide, by decide, ⟨_, kl_L_17⟩, ⟨_, ka_UnsupportedOperationException⟩, rfl⟩, fun q9 => ?_⟩
      show AW _ (_, _, _, _, _, _, _, _, _) _ _ _ _ [some _, some _, some _, _] _ _
      refine r_astore_n (q := 16) dL_expose_15 (Nat.le_of_ble_eq_true rfl) rfl rfl ?_
      refine r_iconst (v := nI 2) (q := 17) dL_expose_16 (by decide) rfl ?_
      exact r_iret dL_expose_17 hq
    | 0, he, hq => cases he
    | c + 3, he, hq => cases he
theorem h_L_mute {x ao : Nat} {fs : List Value} {a1 a2 : Int32} (hM : M (0, 0, 0) = some (x, .inr (0, fs))) (ms : ∀ (Q1 : Option Value → Me → Prop) (QX1 : String → Me → Prop), (∀ (y : Int32) M', (∃ g, M' (12, 0, 0) = some (ao, .inl (G.2.2.1 1, 1, .inr (.inl g))) ∧ Q (some (.int (nI 0))) (oM G ao g y M')) → Q1 (some (.int y)) M') → (∀ e M' c, exL ["java/lang/IndexOutOfBoundsException", "java/lang/IllegalArgumentException", "java/lang/UnsupportedOperationException"] c = some e → Q (some (.int (nI c))) M' → QX1 e M') → MS G yX8_mute cX8_mute 3 (some .int) d k n [.ref x, .int a1, .int a2] M Q1 QX1) : MT G yL_mute cL_mute 5 (some .int) hh_mute (d + 1) k n [.ref x, .int a1, .int a2, .ref ao] M Q QX := by
  refine MT.of (by decide) (by simp [Value.category]) (Nat.le_of_ble_eq_true rfl) ?_
  show AW _ (_, _, _, _, _, _, _, _, _) _ _ _ _ [some _, some _, some _, some _, _] _ _
  refine r_aload_n (q := 1) dL_mute_0 rfl rfl ?_
  refine r_iconst (v := nI 0) (q := 2) dL_mute_1 (by decide) rfl ?_
  refine r_aload_n (q := 3) dL_mute_2 rfl rfl ?_
  refine r_iload_n (q := 4) dL_mute_3 rfl rfl ?_
  refine r_iload_n (q := 5) dL_mute_4 rfl rfl ?_
  refine r_invVC (X := wXT G yL_mute cL_mute 5 (some .int) hh_mute k n Q QX) (q := 8) (k' := k) (n' := n) (k2 := 0) (n2 := 0) (As := [.int _, .int _]) (QX := fun e M' => ∃ c, exL ["java/lang/IndexOutOfBoundsException", "java/lang/IllegalArgumentException", "java/lang/UnsupportedOperationException"] c = some e ∧ Q (some (.int (nI c))) M') wc_L_52 rfl im_X8_mute se_X8_mute hM rfl rfl (Nat.le_of_ble_eq_true rfl) (Nat.le_of_eq (Nat.add_zero _)) (Nat.le_of_eq (Nat.add_zero _)) dL_mute_5 rfl rfl (ms _ _ (fun y M' hy => ?_) fun e M' c he hq => ⟨c, he, hq⟩) fun e M' he => ?_
  · obtain ⟨g, hg, hq⟩ := hy
    show AW _ (_, _, _, _, _, _, _, _, _) _ _ _ _ [some _, some _, some _, some _, _] _ _
    refine r_i2l (q := 9) dL_mute_8 rfl ?_
    refine r_last (o := (12, 0, 0)) (q := 10) hg vp_01 dL_mute_9 rfl ?_
    refine r_goto (t := 25) dL_mute_10 (by decide) ?_
    refine r_iconst (v := nI 0) (q := 26) dL_mute_25 (by decide) rfl ?_
    exact r_iret dL_mute_26 hq
  · obtain ⟨c, he, hq⟩ := he
    match c, he, hq with
    | 1, he, hq =>
      cases he
      refine ⟨13, ⟨[], ⟨0, 10, 13, 13⟩, [⟨0, 10, 17, 15⟩, ⟨0, 10, 21, 17⟩], _, rfl, List.forall_mem_nil _, by decide, by decide, ⟨_, kl_L_13⟩, ⟨_, ka_IndexOutOfBoundsException⟩, rfl⟩, fun q9 => ?_⟩
      show AW _ (_, _, _, _, _, _, _, _, _) _ _ _ _ [some _, some _, some _, some _, _] _ _
      refine r_astore (q := 15) dL_mute_13 (Nat.le_of_ble_eq_true rfl) rfl rfl ?_
      refine r_iconst (v := nI 1) (q := 16) dL_mute_15 (by decide) rfl ?_
      exact r_iret dL_mute_16 hq
    | 2, he, hq =>
      cases he
      refine ⟨17, ⟨[⟨0, 10, 13, 13⟩], ⟨0, 10, 17, 15⟩, [⟨0, 10, 21, 17⟩], _, rfl, List.forall_mem_cons.mpr ⟨Or.inr ⟨by decide, _, _, kl_L_13, by decide⟩, List.forall_mem_nil _⟩, by decide, by decide, ⟨_, kl_L_15⟩, ⟨_, ka_IllegalArgumentException⟩, rfl⟩, fun q9 => ?_⟩
      show AW _ (_, _, _, _, _, _, _, _, _) _ _ _ _ [some _, some _, some _, some _, _] _ _
      refine r_astore (q := 19) dL_mute_17 (Nat.le_of_ble_eq_true rfl) rfl rfl ?_
      refine r_iconst (v := nI 2) (q := 20) dL_mute_19 (by decide) rfl ?_
      exact r_iret dL_mute_20 hq
    | 3, he, hq =>
      cases he
      refine ⟨21, ⟨[⟨0, 10, 13, 13⟩, ⟨0, 10, 17, 15⟩], ⟨0, 10, 21, 17⟩, [], _, rfl, List.forall_mem_cons.mpr ⟨Or.inr ⟨by decide, _, _, kl_L_13, by decide⟩, List.forall_mem_cons.mpr ⟨Or.inr ⟨by decide, _, _, kl_L_15, by decide⟩, List.forall_mem_nil _⟩⟩, by decide, by decide, ⟨_, kl_L_17⟩, ⟨_, ka_UnsupportedOperationException⟩, rfl⟩, fun q9 => ?_⟩
      show AW _ (_, _, _, _, _, _, _, _, _) _ _ _ _ [some _, some _, some _, some _, _] _ _
      refine r_astore (q := 23) dL_mute_21 (Nat.le_of_ble_eq_true rfl) rfl rfl ?_
      refine r_iconst (v := nI 3) (q := 24) dL_mute_23 (by decide) rfl ?_
      exact r_iret dL_mute_24 hq
    | 0, he, hq => cases he
    | c + 4, he, hq => cases he
theorem h_L_fine {x ao : Nat} {fs : List Value} {a1 : Int32} (hM : M (0, 0, 0) = some (x, .inr (0, fs))) (ms : ∀ (Q1 : Option Value → Me → Prop) (QX1 : String → Me → Prop), (∀ (y : Int32) M', (∃ g, M' (12, 0, 0) = some (ao, .inl (G.2.2.1 1, 1, .inr (.inl g))) ∧ Q (some (.int (nI 0))) (oM G ao g y M')) → Q1 (some (.int y)) M') → (∀ e M' c, exL ["java/lang/IndexOutOfBoundsException", "java/lang/UnsupportedOperationException"] c = some e → Q (some (.int (nI c))) M' → QX1 e M') → MS G yX8_fine cX8_fine 2 (some .int) d k n [.ref x, .int a1] M Q1 QX1) : MT G yL_fine cL_fine 4 (some .int) hh_fine (d + 1) k n [.ref x, .int a1, .ref ao] M Q QX := by
  refine MT.of (by decide) (by simp [Value.category]) (Nat.le_of_ble_eq_true rfl) ?_
  show AW _ (_, _, _, _, _, _, _, _, _) _ _ _ _ [some _, some _, some _, _] _ _
  refine r_aload_n (q := 1) dL_fine_0 rfl rfl ?_
  refine r_iconst (v := nI 0) (q := 2) dL_fine_1 (by decide) rfl ?_
  refine r_aload_n (q := 3) dL_fine_2 rfl rfl ?_
  refine r_iload_n (q := 4) dL_fine_3 rfl rfl ?_
  refine r_invVC (X := wXT G yL_fine cL_fine 4 (some .int) hh_fine k n Q QX) (q := 7) (k' := k) (n' := n) (k2 := 0) (n2 := 0) (As := [.int _]) (QX := fun e M' => ∃ c, exL ["java/lang/IndexOutOfBoundsException", "java/lang/UnsupportedOperationException"] c = some e ∧ Q (some (.int (nI c))) M') wc_L_55 rfl im_X8_fine se_X8_fine hM rfl rfl (Nat.le_of_ble_eq_true rfl) (Nat.le_of_eq (Nat.add_zero _)) (Nat.le_of_eq (Nat.add_zero _)) dL_fine_4 rfl rfl (ms _ _ (fun y M' hy => ?_) fun e M' c he hq => ⟨c, he, hq⟩) fun e M' he => ?_
  · obtain ⟨g, hg, hq⟩ := hy
    show AW _ (_, _, _, _, _, _, _, _, _) _ _ _ _ [some _, some _, some _, _] _ _
    refine r_i2l (q := 8) dL_fine_7 rfl ?_
    refine r_last (o := (12, 0, 0)) (q := 9) hg vp_01 dL_fine_8 rfl ?_
    refine r_goto (t := 18) dL_fine_9 (by decide) ?_
    refine r_iconst (v := nI 0) (q := 19) dL_fine_18 (by decide) rfl ?_
    exact r_iret dL_fine_19 hq
  · obtain ⟨c, he, hq⟩ := he
    match c, he, hq with
    | 1, he, hq =>
      cases he
      refine ⟨12, ⟨[], ⟨0, 9, 12, 13⟩, [⟨0, 9, 15, 17⟩], _, rfl, List.forall_mem_nil _, by decide, by decide, ⟨_, kl_L_13⟩, ⟨_, ka_IndexOutOfBoundsException⟩, rfl⟩, fun q9 => ?_⟩
      show AW _ (_, _, _, _, _, _, _, _, _) _ _ _ _ [some _, some _, some _, _] _ _
      refine r_astore_n (q := 13) dL_fine_12 (Nat.le_of_ble_eq_true rfl) rfl rfl ?_
      refine r_iconst (v := nI 1) (q := 14) dL_fine_13 (by decide) rfl ?_
      exact r_iret dL_fine_14 hq
    | 2, he, hq =>
      cases he
      refine ⟨15, ⟨[⟨0, 9, 12, 13⟩], ⟨0, 9, 15, 17⟩, [], _, rfl, List.forall_mem_cons.mpr ⟨Or.inr ⟨by decide, _, _, kl_L_13, by decide⟩, List.forall_mem_nil _⟩, by decide, by decide, ⟨_, kl_L_17⟩, ⟨_, ka_UnsupportedOperationException⟩, rfl⟩, fun q9 => ?_⟩
      show AW _ (_, _, _, _, _, _, _, _, _) _ _ _ _ [some _, some _, some _, _] _ _
      refine r_astore_n (q := 16) dL_fine_15 (Nat.le_of_ble_eq_true rfl) rfl rfl ?_
      refine r_iconst (v := nI 2) (q := 17) dL_fine_16 (by decide) rfl ?_
      exact r_iret dL_fine_17 hq
    | 0, he, hq => cases he
    | c + 3, he, hq => cases he
theorem h_L_heard {x ao : Nat} {fs : List Value} {a1 a2 : Int32} (hM : M (0, 0, 0) = some (x, .inr (0, fs))) (ms : ∀ (Q1 : Option Value → Me → Prop) (QX1 : String → Me → Prop), (∀ (y : Int32) M', (∃ g, M' (12, 0, 0) = some (ao, .inl (G.2.2.1 1, 1, .inr (.inl g))) ∧ Q (some (.int (nI 0))) (oM G ao g y M')) → Q1 (some (.int y)) M') → (∀ e M' c, exL ["java/util/NoSuchElementException", "java/lang/IllegalArgumentException"] c = some e → Q (some (.int (nI c))) M' → QX1 e M') → MS G yX8_heard cX8_heard 4 (some .int) d k n [.ref x, .int a1, .int a2] M Q1 QX1) : MT G yL_heard cL_heard 5 (some .int) hh_heard (d + 1) k n [.ref x, .int a1, .int a2, .ref ao] M Q QX := by
  refine MT.of (by decide) (by simp [Value.category]) (Nat.le_of_ble_eq_true rfl) ?_
  show AW _ (_, _, _, _, _, _, _, _, _) _ _ _ _ [some _, some _, some _, some _, _] _ _
  refine r_aload_n (q := 1) dL_heard_0 rfl rfl ?_
  refine r_iconst (v := nI 0) (q := 2) dL_heard_1 (by decide) rfl ?_
  refine r_aload_n (q := 3) dL_heard_2 rfl rfl ?_
  refine r_iload_n (q := 4) dL_heard_3 rfl rfl ?_
  refine r_iload_n (q := 5) dL_heard_4 rfl rfl ?_
  refine r_invVC (X := wXT G yL_heard cL_heard 5 (some .int) hh_heard k n Q QX) (q := 8) (k' := k) (n' := n) (k2 := 0) (n2 := 0) (As := [.int _, .int _]) (QX := fun e M' => ∃ c, exL ["java/util/NoSuchElementException", "java/lang/IllegalArgumentException"] c = some e ∧ Q (some (.int (nI c))) M') wc_L_58 rfl im_X8_heard se_X8_heard hM rfl rfl (Nat.le_of_ble_eq_true rfl) (Nat.le_of_eq (Nat.add_zero _)) (Nat.le_of_eq (Nat.add_zero _)) dL_heard_5 rfl rfl (ms _ _ (fun y M' hy => ?_) fun e M' c he hq => ⟨c, he, hq⟩) fun e M' he => ?_
  · obtain ⟨g, hg, hq⟩ := hy
    show AW _ (_, _, _, _, _, _, _, _, _) _ _ _ _ [some _, some _, some _, some _, _] _ _
    refine r_i2l (q := 9) dL_heard_8 rfl ?_
    refine r_last (o := (12, 0, 0)) (q := 10) hg vp_01 dL_heard_9 rfl ?_
    refine r_goto (t := 21) dL_heard_10 (by decide) ?_
    refine r_iconst (v := nI 0) (q := 22) dL_heard_21 (by decide) rfl ?_
    exact r_iret dL_heard_22 hq
  · obtain ⟨c, he, hq⟩ := he
    match c, he, hq with
    | 1, he, hq =>
      cases he
      refine ⟨13, ⟨[], ⟨0, 10, 13, 61⟩, [⟨0, 10, 17, 15⟩], _, rfl, List.forall_mem_nil _, by decide, by decide, ⟨_, kl_L_61⟩, ⟨_, ka_NoSuchElementException⟩, rfl⟩, fun q9 => ?_⟩
      show AW _ (_, _, _, _, _, _, _, _, _) _ _ _ _ [some _, some _, some _, some _, _] _ _
      refine r_astore (q := 15) dL_heard_13 (Nat.le_of_ble_eq_true rfl) rfl rfl ?_
      refine r_iconst (v := nI 1) (q := 16) dL_heard_15 (by decide) rfl ?_
      exact r_iret dL_heard_16 hq
    | 2, he, hq =>
      cases he
      refine ⟨17, ⟨[⟨0, 10, 13, 61⟩], ⟨0, 10, 17, 15⟩, [], _, rfl, List.forall_mem_cons.mpr ⟨Or.inr ⟨by decide, _, _, kl_L_61, by decide⟩, List.forall_mem_nil _⟩, by decide, by decide, ⟨_, kl_L_15⟩, ⟨_, ka_IllegalArgumentException⟩, rfl⟩, fun q9 => ?_⟩
      show AW _ (_, _, _, _, _, _, _, _, _) _ _ _ _ [some _, some _, some _, some _, _] _ _
      refine r_astore (q := 19) dL_heard_17 (Nat.le_of_ble_eq_true rfl) rfl rfl ?_
      refine r_iconst (v := nI 2) (q := 20) dL_heard_19 (by decide) rfl ?_
      exact r_iret dL_heard_20 hq
    | 0, he, hq => cases he
    | c + 3, he, hq => cases he
theorem h_L_reading {x ao : Nat} {fs : List Value} {a1 : Int32} (hM : M (0, 0, 0) = some (x, .inr (0, fs))) (ms : ∀ (Q1 : Option Value → Me → Prop) (QX1 : String → Me → Prop), (∀ (y : Int32) M', (∃ g, M' (12, 0, 0) = some (ao, .inl (G.2.2.1 1, 1, .inr (.inl g))) ∧ Q (some (.int (nI 0))) (oM G ao g y M')) → Q1 (some (.int y)) M') → (∀ e M' c, exL ["java/util/NoSuchElementException"] c = some e → Q (some (.int (nI c))) M' → QX1 e M') → MS G yX8_reading cX8_reading 3 (some .int) d k n [.ref x, .int a1] M Q1 QX1) : MT G yL_reading cL_reading 4 (some .int) hh_reading (d + 1) k n [.ref x, .int a1, .ref ao] M Q QX := by
  refine MT.of (by decide) (by simp [Value.category]) (Nat.le_of_ble_eq_true rfl) ?_
  show AW _ (_, _, _, _, _, _, _, _, _) _ _ _ _ [some _, some _, some _, _] _ _
  refine r_aload_n (q := 1) dL_reading_0 rfl rfl ?_
  refine r_iconst (v := nI 0) (q := 2) dL_reading_1 (by decide) rfl ?_
  refine r_aload_n (q := 3) dL_reading_2 rfl rfl ?_
  refine r_iload_n (q := 4) dL_reading_3 rfl rfl ?_
  refine r_invVC (X := wXT G yL_reading cL_reading 4 (some .int) hh_reading k n Q QX) (q := 7) (k' := k) (n' := n) (k2 := 0) (n2 := 0) (As := [.int _]) (QX := fun e M' => ∃ c, exL ["java/util/NoSuchElementException"] c = some e ∧ Q (some (.int (nI c))) M') wc_L_63 rfl im_X8_reading se_X8_reading hM rfl rfl (Nat.le_of_ble_eq_true rfl) (Nat.le_of_eq (Nat.add_zero _)) (Nat.le_of_eq (Nat.add_zero _)) dL_reading_4 rfl rfl (ms _ _ (fun y M' hy => ?_) fun e M' c he hq => ⟨c, he, hq⟩) fun e M' he => ?_
  · obtain ⟨g, hg, hq⟩ := hy
    show AW _ (_, _, _, _, _, _, _, _, _) _ _ _ _ [some _, some _, some _, _] _ _
    refine r_i2l (q := 8) dL_reading_7 rfl ?_
    refine r_last (o := (12, 0, 0)) (q := 9) hg vp_01 dL_reading_8 rfl ?_
    refine r_goto (t := 15) dL_reading_9 (by decide) ?_
    refine r_iconst (v := nI 0) (q := 16) dL_reading_15 (by decide) rfl ?_
    exact r_iret dL_reading_16 hq
  · obtain ⟨c, he, hq⟩ := he
    match c, he, hq with
    | 1, he, hq =>
      cases he
      refine ⟨12, ⟨[], ⟨0, 9, 12, 61⟩, [], _, rfl, List.forall_mem_nil _, by decide, by decide, ⟨_, kl_L_61⟩, ⟨_, ka_NoSuchElementException⟩, rfl⟩, fun q9 => ?_⟩
      show AW _ (_, _, _, _, _, _, _, _, _) _ _ _ _ [some _, some _, some _, _] _ _
      refine r_astore_n (q := 13) dL_reading_12 (Nat.le_of_ble_eq_true rfl) rfl rfl ?_
      refine r_iconst (v := nI 1) (q := 14) dL_reading_13 (by decide) rfl ?_
      exact r_iret dL_reading_14 hq
    | 0, he, hq => cases he
    | c + 2, he, hq => cases he
theorem h_L_soonest {x ao : Nat} {fs : List Value} {a1 : Int32} (hM : M (0, 0, 0) = some (x, .inr (0, fs))) (ms : ∀ (Q1 : Option Value → Me → Prop) (QX1 : String → Me → Prop), (∀ (y : Int32) M', (∃ g, M' (12, 0, 0) = some (ao, .inl (G.2.2.1 1, 1, .inr (.inl g))) ∧ Q (some (.int (nI 0))) (oM G ao g y M')) → Q1 (some (.int y)) M') → (∀ e M' c, exL ["java/lang/IndexOutOfBoundsException", "java/util/NoSuchElementException"] c = some e → Q (some (.int (nI c))) M' → QX1 e M') → MS G yX8_soonest cX8_soonest 2 (some .int) d k n [.ref x, .int a1] M Q1 QX1) : MT G yL_soonest cL_soonest 4 (some .int) hh_soonest (d + 1) k n [.ref x, .int a1, .ref ao] M Q QX := by
  refine MT.of (by decide) (by simp [Value.category]) (Nat.le_of_ble_eq_true rfl) ?_
  show AW _ (_, _, _, _, _, _, _, _, _) _ _ _ _ [some _, some _, some _, _] _ _
  refine r_aload_n (q := 1) dL_soonest_0 rfl rfl ?_
  refine r_iconst (v := nI 0) (q := 2) dL_soonest_1 (by decide) rfl ?_
  refine r_aload_n (q := 3) dL_soonest_2 rfl rfl ?_
  refine r_iload_n (q := 4) dL_soonest_3 rfl rfl ?_
  refine r_invVC (X := wXT G yL_soonest cL_soonest 4 (some .int) hh_soonest k n Q QX) (q := 7) (k' := k) (n' := n) (k2 := 0) (n2 := 0) (As := [.int _]) (QX := fun e M' => ∃ c, exL ["java/lang/IndexOutOfBoundsException", "java/util/NoSuchElementException"] c = some e ∧ Q (some (.int (nI c))) M') wc_L_66 rfl im_X8_soonest se_X8_soonest hM rfl rfl (Nat.le_of_ble_eq_true rfl) (Nat.le_of_eq (Nat.add_zero _)) (Nat.le_of_eq (Nat.add_zero _)) dL_soonest_4 rfl rfl (ms _ _ (fun y M' hy => ?_) fun e M' c he hq => ⟨c, he, hq⟩) fun e M' he => ?_
  · obtain ⟨g, hg, hq⟩ := hy
    show AW _ (_, _, _, _, _, _, _, _, _) _ _ _ _ [some _, some _, some _, _] _ _
    refine r_i2l (q := 8) dL_soonest_7 rfl ?_
    refine r_last (o := (12, 0, 0)) (q := 9) hg vp_01 dL_soonest_8 rfl ?_
    refine r_goto (t := 18) dL_soonest_9 (by decide) ?_
    refine r_iconst (v := nI 0) (q := 19) dL_soonest_18 (by decide) rfl ?_
    exact r_iret dL_soonest_19 hq
  · obtain ⟨c, he, hq⟩ := he
    match c, he, hq with
    | 1, he, hq =>
      cases he
      refine ⟨12, ⟨[], ⟨0, 9, 12, 13⟩, [⟨0, 9, 15, 61⟩], _, rfl, List.forall_mem_nil _, by decide, by decide, ⟨_, kl_L_13⟩, ⟨_, ka_IndexOutOfBoundsException⟩, rfl⟩, fun q9 => ?_⟩
      show AW _ (_, _, _, _, _, _, _, _, _) _ _ _ _ [some _, some _, some _, _] _ _
      refine r_astore_n (q := 13) dL_soonest_12 (Nat.le_of_ble_eq_true rfl) rfl rfl ?_
      refine r_iconst (v := nI 1) (q := 14) dL_soonest_13 (by decide) rfl ?_
      exact r_iret dL_soonest_14 hq
    | 2, he, hq =>
      cases he
      refine ⟨15, ⟨[⟨0, 9, 12, 13⟩], ⟨0, 9, 15, 61⟩, [], _, rfl, List.forall_mem_cons.mpr ⟨Or.inr ⟨by decide, _, _, kl_L_13, by decide⟩, List.forall_mem_nil _⟩, by decide, by decide, ⟨_, kl_L_61⟩, ⟨_, ka_NoSuchElementException⟩, rfl⟩, fun q9 => ?_⟩
      show AW _ (_, _, _, _, _, _, _, _, _) _ _ _ _ [some _, some _, some _, _] _ _
      refine r_astore_n (q := 16) dL_soonest_15 (Nat.le_of_ble_eq_true rfl) rfl rfl ?_
      refine r_iconst (v := nI 2) (q := 17) dL_soonest_16 (by decide) rfl ?_
      exact r_iret dL_soonest_17 hq
    | 0, he, hq => cases he
    | c + 3, he, hq => cases he
theorem h_L_ranked {x ao : Nat} {fs : List Value} {a1 a2 : Int32} (hM : M (0, 0, 0) = some (x, .inr (0, fs))) (ms : ∀ (Q1 : Option Value → Me → Prop) (QX1 : String → Me → Prop), (∀ (y : Int32) M', (∃ g, M' (12, 0, 0) = some (ao, .inl (G.2.2.1 1, 1, .inr (.inl g))) ∧ Q (some (.int (nI 0))) (oM G ao g y M')) → Q1 (some (.int y)) M') → (∀ e M' c, exL ["java/lang/IllegalArgumentException", "java/util/NoSuchElementException"] c = some e → Q (some (.int (nI c))) M' → QX1 e M') → MS G yX8_ranked cX8_ranked 3 (some .int) d k n [.ref x, .int a1, .int a2] M Q1 QX1) : MT G yL_ranked cL_ranked 5 (some .int) hh_ranked (d + 1) k n [.ref x, .int a1, .int a2, .ref ao] M Q QX := by
  refine MT.of (by decide) (by simp [Value.category]) (Nat.le_of_ble_eq_true rfl) ?_
  show AW _ (_, _, _, _, _, _, _, _, _) _ _ _ _ [some _, some _, some _, some _, _] _ _
  refine r_aload_n (q := 1) dL_ranked_0 rfl rfl ?_
  refine r_iconst (v := nI 0) (q := 2) dL_ranked_1 (by decide) rfl ?_
  refine r_aload_n (q := 3) dL_ranked_2 rfl rfl ?_
  refine r_iload_n (q := 4) dL_ranked_3 rfl rfl ?_
  refine r_iload_n (q := 5) dL_ranked_4 rfl rfl ?_
  refine r_invVC (X := wXT G yL_ranked cL_ranked 5 (some .int) hh_ranked k n Q QX) (q := 8) (k' := k) (n' := n) (k2 := 0) (n2 := 0) (As := [.int _, .int _]) (QX := fun e M' => ∃ c, exL ["java/lang/IllegalArgumentException", "java/util/NoSuchElementException"] c = some e ∧ Q (some (.int (nI c))) M') wc_L_69 rfl im_X8_ranked se_X8_ranked hM rfl rfl (Nat.le_of_ble_eq_true rfl) (Nat.le_of_eq (Nat.add_zero _)) (Nat.le_of_eq (Nat.add_zero _)) dL_ranked_5 rfl rfl (ms _ _ (fun y M' hy => ?_) fun e M' c he hq => ⟨c, he, hq⟩) fun e M' he => ?_
  · obtain ⟨g, hg, hq⟩ := hy
    show AW _ (_, _, _, _, _, _, _, _, _) _ _ _ _ [some _, some _, some _, some _, _] _ _
    refine r_i2l (q := 9) dL_ranked_8 rfl ?_
    refine r_last (o := (12, 0, 0)) (q := 10) hg vp_01 dL_ranked_9 rfl ?_
    refine r_goto (t := 21) dL_ranked_10 (by decide) ?_
    refine r_iconst (v := nI 0) (q := 22) dL_ranked_21 (by decide) rfl ?_
    exact r_iret dL_ranked_22 hq
  · obtain ⟨c, he, hq⟩ := he
    match c, he, hq with
    | 1, he, hq =>
      cases he
      refine ⟨13, ⟨[], ⟨0, 10, 13, 15⟩, [⟨0, 10, 17, 61⟩], _, rfl, List.forall_mem_nil _, by decide, by decide, ⟨_, kl_L_15⟩, ⟨_, ka_IllegalArgumentException⟩, rfl⟩, fun q9 => ?_⟩
      show AW _ (_, _, _, _, _, _, _, _, _) _ _ _ _ [some _, some _, some _, some _, _] _ _
      refine r_astore (q := 15) dL_ranked_13 (Nat.le_of_ble_eq_true rfl) rfl rfl ?_
      refine r_iconst (v := nI 1) (q := 16) dL_ranked_15 (by decide) rfl ?_
      exact r_iret dL_ranked_16 hq
    | 2, he, hq =>
      cases he
      refine ⟨17, ⟨[⟨0, 10, 13, 15⟩], ⟨0, 10, 17, 61⟩, [], _, rfl, List.forall_mem_cons.mpr ⟨Or.inr ⟨by decide, _, _, kl_L_15, by decide⟩, List.forall_mem_nil _⟩, by decide, by decide, ⟨_, kl_L_61⟩, ⟨_, ka_NoSuchElementException⟩, rfl⟩, fun q9 => ?_⟩
      show AW _ (_, _, _, _, _, _, _, _, _) _ _ _ _ [some _, some _, some _, some _, _] _ _
      refine r_astore (q := 19) dL_ranked_17 (Nat.le_of_ble_eq_true rfl) rfl rfl ?_
      refine r_iconst (v := nI 2) (q := 20) dL_ranked_19 (by decide) rfl ?_
      exact r_iret dL_ranked_20 hq
    | 0, he, hq => cases he
    | c + 3, he, hq => cases he
theorem h_L_text {x ao : Nat} {fs : List Value} {a1 : Int32} (hM : M (0, 0, 0) = some (x, .inr (0, fs))) (ms : ∀ (Q1 : Option Value → Me → Prop) (QX1 : String → Me → Prop), (∀ (y : Int32) M', (∃ g, M' (12, 0, 0) = some (ao, .inl (G.2.2.1 1, 1, .inr (.inl g))) ∧ Q (some (.int (nI 0))) (oM G ao g y M')) → Q1 (some (.int y)) M') → (∀ e M' c, exL ["java/lang/IndexOutOfBoundsException"] c = some e → Q (some (.int (nI c))) M' → QX1 e M') → MS G yX8_text cX8_text 2 (some .int) d k n [.ref x, .int a1] M Q1 QX1) : MT G yL_text cL_text 4 (some .int) hh_text (d + 1) k n [.ref x, .int a1, .ref ao] M Q QX := by
  refine MT.of (by decide) (by simp [Value.category]) (Nat.le_of_ble_eq_true rfl) ?_
  show AW _ (_, _, _, _, _, _, _, _, _) _ _ _ _ [some _, some _, some _, _] _ _
  refine r_aload_n (q := 1) dL_text_0 rfl rfl ?_
  refine r_iconst (v := nI 0) (q := 2) dL_text_1 (by decide) rfl ?_
  refine r_aload_n (q := 3) dL_text_2 rfl rfl ?_
  refine r_iload_n (q := 4) dL_text_3 rfl rfl ?_
  refine r_invVC (X := wXT G yL_text cL_text 4 (some .int) hh_text k n Q QX) (q := 7) (k' := k) (n' := n) (k2 := 0) (n2 := 0) (As := [.int _]) (QX := fun e M' => ∃ c, exL ["java/lang/IndexOutOfBoundsException"] c = some e ∧ Q (some (.int (nI c))) M') wc_L_72 rfl im_X8_text se_X8_text hM rfl rfl (Nat.le_of_ble_eq_true rfl) (Nat.le_of_eq (Nat.add_zero _)) (Nat.le_of_eq (Nat.add_zero _)) dL_text_4 rfl rfl (ms _ _ (fun y M' hy => ?_) fun e M' c he hq => ⟨c, he, hq⟩) fun e M' he => ?_
  · obtain ⟨g, hg, hq⟩ := hy
    show AW _ (_, _, _, _, _, _, _, _, _) _ _ _ _ [some _, some _, some _, _] _ _
    refine r_i2l (q := 8) dL_text_7 rfl ?_
    refine r_last (o := (12, 0, 0)) (q := 9) hg vp_01 dL_text_8 rfl ?_
    refine r_goto (t := 15) dL_text_9 (by decide) ?_
    refine r_iconst (v := nI 0) (q := 16) dL_text_15 (by decide) rfl ?_
    exact r_iret dL_text_16 hq
  · obtain ⟨c, he, hq⟩ := he
    match c, he, hq with
    | 1, he, hq =>
      cases he
      refine ⟨12, ⟨[], ⟨0, 9, 12, 13⟩, [], _, rfl, List.forall_mem_nil _, by decide, by decide, ⟨_, kl_L_13⟩, ⟨_, ka_IndexOutOfBoundsException⟩, rfl⟩, fun q9 => ?_⟩
      show AW _ (_, _, _, _, _, _, _, _, _) _ _ _ _ [some _, some _, some _, _] _ _
      refine r_astore_n (q := 13) dL_text_12 (Nat.le_of_ble_eq_true rfl) rfl rfl ?_
      refine r_iconst (v := nI 1) (q := 14) dL_text_13 (by decide) rfl ?_
      exact r_iret dL_text_14 hq
    | 0, he, hq => cases he
    | c + 2, he, hq => cases he
theorem h_L_character {x ao : Nat} {fs : List Value} {a1 : Int32} (hM : M (0, 0, 0) = some (x, .inr (0, fs))) (ms : ∀ (Q1 : Option Value → Me → Prop) (QX1 : String → Me → Prop), (∀ (y : Int32) M', (∃ g, M' (12, 0, 0) = some (ao, .inl (G.2.2.1 1, 1, .inr (.inl g))) ∧ Q (some (.int (nI 0))) (oM G ao g y M')) → Q1 (some (.int y)) M') → (∀ e M' c, exL ["java/lang/IndexOutOfBoundsException"] c = some e → Q (some (.int (nI c))) M' → QX1 e M') → MS G yX8_character cX8_character 2 (some .char) d k n [.ref x, .int a1] M Q1 QX1) : MT G yL_character cL_character 4 (some .int) hh_character (d + 1) k n [.ref x, .int a1, .ref ao] M Q QX := by
  refine MT.of (by decide) (by simp [Value.category]) (Nat.le_of_ble_eq_true rfl) ?_
  show AW _ (_, _, _, _, _, _, _, _, _) _ _ _ _ [some _, some _, some _, _] _ _
  refine r_aload_n (q := 1) dL_character_0 rfl rfl ?_
  refine r_iconst (v := nI 0) (q := 2) dL_character_1 (by decide) rfl ?_
  refine r_aload_n (q := 3) dL_character_2 rfl rfl ?_
  refine r_iload_n (q := 4) dL_character_3 rfl rfl ?_
  refine r_invVC (X := wXT G yL_character cL_character 4 (some .int) hh_character k n Q QX) (q := 7) (k' := k) (n' := n) (k2 := 0) (n2 := 0) (As := [.int _]) (QX := fun e M' => ∃ c, exL ["java/lang/IndexOutOfBoundsException"] c = some e ∧ Q (some (.int (nI c))) M') wc_L_75 rfl im_X8_character se_X8_character hM rfl rfl (Nat.le_of_ble_eq_true rfl) (Nat.le_of_eq (Nat.add_zero _)) (Nat.le_of_eq (Nat.add_zero _)) dL_character_4 rfl rfl (ms _ _ (fun y M' hy => ?_) fun e M' c he hq => ⟨c, he, hq⟩) fun e M' he => ?_
  · obtain ⟨g, hg, hq⟩ := hy
    show AW _ (_, _, _, _, _, _, _, _, _) _ _ _ _ [some _, some _, some _, _] _ _
    refine r_i2l (q := 8) dL_character_7 rfl ?_
    refine r_last (o := (12, 0, 0)) (q := 9) hg vp_01 dL_character_8 rfl ?_
    refine r_goto (t := 15) dL_character_9 (by decide) ?_
    refine r_iconst (v := nI 0) (q := 16) dL_character_15 (by decide) rfl ?_
    exact r_iret dL_character_16 hq
  · obtain ⟨c, he, hq⟩ := he
    match c, he, hq with
    | 1, he, hq =>
      cases he
      refine ⟨12, ⟨[], ⟨0, 9, 12, 13⟩, [], _, rfl, List.forall_mem_nil _, by decide, by decide, ⟨_, kl_L_13⟩, ⟨_, ka_IndexOutOfBoundsException⟩, rfl⟩, fun q9 => ?_⟩
      show AW _ (_, _, _, _, _, _, _, _, _) _ _ _ _ [some _, some _, some _, _] _ _
      refine r_astore_n (q := 13) dL_character_12 (Nat.le_of_ble_eq_true rfl) rfl rfl ?_
      refine r_iconst (v := nI 1) (q := 14) dL_character_13 (by decide) rfl ?_
      exact r_iret dL_character_14 hq
    | 0, he, hq => cases he
    | c + 2, he, hq => cases he
theorem h_L_refusal {x ao : Nat} {fs : List Value} {a1 : Int32} (hM : M (0, 0, 0) = some (x, .inr (0, fs))) (ms : ∀ (Q1 : Option Value → Me → Prop) (QX1 : String → Me → Prop), (∀ (y : Int32) M', (∃ g, M' (12, 0, 0) = some (ao, .inl (G.2.2.1 1, 1, .inr (.inl g))) ∧ Q (some (.int (nI 0))) (oM G ao g y M')) → Q1 (some (.int y)) M') → (∀ e M' c, exL ["java/lang/IllegalStateException"] c = some e → Q (some (.int (nI c))) M' → QX1 e M') → MS G yX8_refusal cX8_refusal 2 (some .int) d k n [.ref x, .int a1] M Q1 QX1) : MT G yL_refusal cL_refusal 4 (some .int) hh_refusal (d + 1) k n [.ref x, .int a1, .ref ao] M Q QX := by
  refine MT.of (by decide) (by simp [Value.category]) (Nat.le_of_ble_eq_true rfl) ?_
  show AW _ (_, _, _, _, _, _, _, _, _) _ _ _ _ [some _, some _, some _, _] _ _
  refine r_aload_n (q := 1) dL_refusal_0 rfl rfl ?_
  refine r_iconst (v := nI 0) (q := 2) dL_refusal_1 (by decide) rfl ?_
  refine r_aload_n (q := 3) dL_refusal_2 rfl rfl ?_
  refine r_iload_n (q := 4) dL_refusal_3 rfl rfl ?_
  refine r_invVC (X := wXT G yL_refusal cL_refusal 4 (some .int) hh_refusal k n Q QX) (q := 7) (k' := k) (n' := n) (k2 := 0) (n2 := 0) (As := [.int _]) (QX := fun e M' => ∃ c, exL ["java/lang/IllegalStateException"] c = some e ∧ Q (some (.int (nI c))) M') wc_L_79 rfl im_X8_refusal se_X8_refusal hM rfl rfl (Nat.le_of_ble_eq_true rfl) (Nat.le_of_eq (Nat.add_zero _)) (Nat.le_of_eq (Nat.add_zero _)) dL_refusal_4 rfl rfl (ms _ _ (fun y M' hy => ?_) fun e M' c he hq => ⟨c, he, hq⟩) fun e M' he => ?_
  · obtain ⟨g, hg, hq⟩ := hy
    show AW _ (_, _, _, _, _, _, _, _, _) _ _ _ _ [some _, some _, some _, _] _ _
    refine r_i2l (q := 8) dL_refusal_7 rfl ?_
    refine r_last (o := (12, 0, 0)) (q := 9) hg vp_01 dL_refusal_8 rfl ?_
    refine r_goto (t := 15) dL_refusal_9 (by decide) ?_
    refine r_iconst (v := nI 0) (q := 16) dL_refusal_15 (by decide) rfl ?_
    exact r_iret dL_refusal_16 hq
  · obtain ⟨c, he, hq⟩ := he
    match c, he, hq with
    | 1, he, hq =>
      cases he
      refine ⟨12, ⟨[], ⟨0, 9, 12, 83⟩, [], _, rfl, List.forall_mem_nil _, by decide, by decide, ⟨_, kl_L_83⟩, ⟨_, ka_IllegalStateException⟩, rfl⟩, fun q9 => ?_⟩
      show AW _ (_, _, _, _, _, _, _, _, _) _ _ _ _ [some _, some _, some _, _] _ _
      refine r_astore_n (q := 13) dL_refusal_12 (Nat.le_of_ble_eq_true rfl) rfl rfl ?_
      refine r_iconst (v := nI 1) (q := 14) dL_refusal_13 (by decide) rfl ?_
      exact r_iret dL_refusal_14 hq
    | 0, he, hq => cases he
    | c + 2, he, hq => cases he
theorem h_L_account {x ao : Nat} {fs : List Value} {a1 : Int32} (hM : M (0, 0, 0) = some (x, .inr (0, fs))) (ms : ∀ (Q1 : Option Value → Me → Prop) (QX1 : String → Me → Prop), (∀ (y : Int32) M', (∃ g, M' (12, 0, 0) = some (ao, .inl (G.2.2.1 1, 1, .inr (.inl g))) ∧ Q (some (.int (nI 0))) (oM G ao g y M')) → Q1 (some (.int y)) M') → (∀ e M' c, exL ["java/lang/IllegalArgumentException"] c = some e → Q (some (.int (nI c))) M' → QX1 e M') → MS G yX8_account cX8_account 2 (some .int) d k n [.ref x, .int a1] M Q1 QX1) : MT G yL_account cL_account 4 (some .int) hh_account (d + 1) k n [.ref x, .int a1, .ref ao] M Q QX := by
  refine MT.of (by decide) (by simp [Value.category]) (Nat.le_of_ble_eq_true rfl) ?_
  show AW _ (_, _, _, _, _, _, _, _, _) _ _ _ _ [some _, some _, some _, _] _ _
  refine r_aload_n (q := 1) dL_account_0 rfl rfl ?_
  refine r_iconst (v := nI 0) (q := 2) dL_account_1 (by decide) rfl ?_
  refine r_aload_n (q := 3) dL_account_2 rfl rfl ?_
  refine r_iload_n (q := 4) dL_account_3 rfl rfl ?_
  refine r_invVC (X := wXT G yL_account cL_account 4 (some .int) hh_account k n Q QX) (q := 7) (k' := k) (n' := n) (k2 := 0) (n2 := 0) (As := [.int _]) (QX := fun e M' => ∃ c, exL ["java/lang/IllegalArgumentException"] c = some e ∧ Q (some (.int (nI c))) M') wc_L_85 rfl im_X8_account se_X8_account hM rfl rfl (Nat.le_of_ble_eq_true rfl) (Nat.le_of_eq (Nat.add_zero _)) (Nat.le_of_eq (Nat.add_zero _)) dL_account_4 rfl rfl (ms _ _ (fun y M' hy => ?_) fun e M' c he hq => ⟨c, he, hq⟩) fun e M' he => ?_
  · obtain ⟨g, hg, hq⟩ := hy
    show AW _ (_, _, _, _, _, _, _, _, _) _ _ _ _ [some _, some _, some _, _] _ _
    refine r_i2l (q := 8) dL_account_7 rfl ?_
    refine r_last (o := (12, 0, 0)) (q := 9) hg vp_01 dL_account_8 rfl ?_
    refine r_goto (t := 15) dL_account_9 (by decide) ?_
    refine r_iconst (v := nI 0) (q := 16) dL_account_15 (by decide) rfl ?_
    exact r_iret dL_account_16 hq
  · obtain ⟨c, he, hq⟩ := he
    match c, he, hq with
    | 1, he, hq =>
      cases he
      refine ⟨12, ⟨[], ⟨0, 9, 12, 15⟩, [], _, rfl, List.forall_mem_nil _, by decide, by decide, ⟨_, kl_L_15⟩, ⟨_, ka_IllegalArgumentException⟩, rfl⟩, fun q9 => ?_⟩
      show AW _ (_, _, _, _, _, _, _, _, _) _ _ _ _ [some _, some _, some _, _] _ _
      refine r_astore_n (q := 13) dL_account_12 (Nat.le_of_ble_eq_true rfl) rfl rfl ?_
      refine r_iconst (v := nI 1) (q := 14) dL_account_13 (by decide) rfl ?_
      exact r_iret dL_account_14 hq
    | 0, he, hq => cases he
    | c + 2, he, hq => cases he
theorem h_L_meanLength {x ao : Nat} {fs : List Value} (hM : M (0, 0, 0) = some (x, .inr (0, fs))) (ms : ∀ (Q1 : Option Value → Me → Prop) (QX1 : String → Me → Prop), (∀ (y : UInt64) M', (∃ g, M' (12, 1, 0) = some (ao, .inl (G.2.2.1 2, 1, .inr (.inr (.inr (.inl g))))) ∧ Q (some (.int (nI 0))) (oD G ao g y M')) → Q1 (some (.double y)) M') → (∀ e M' c, exL ["java/lang/ArithmeticException"] c = some e → Q (some (.int (nI c))) M' → QX1 e M') → MS G yX8_meanLength cX8_meanLength 2 (some .double) d k n [.ref x] M Q1 QX1) : MT G yL_meanLength cL_meanLength 3 (some .int) hh_meanLength (d + 1) k n [.ref x, .ref ao] M Q QX := by
  refine MT.of (by decide) (by simp [Value.category]) (Nat.le_of_ble_eq_true rfl) ?_
  show AW _ (_, _, _, _, _, _, _, _, _) _ _ _ _ [some _, some _, _] _ _
  refine r_aload_n (q := 1) dL_meanLength_0 rfl rfl ?_
  refine r_iconst (v := nI 0) (q := 2) dL_meanLength_1 (by decide) rfl ?_
  refine r_aload_n (q := 3) dL_meanLength_2 rfl rfl ?_
  refine r_invVC (X := wXT G yL_meanLength cL_meanLength 3 (some .int) hh_meanLength k n Q QX) (q := 6) (k' := k) (n' := n) (k2 := 0) (n2 := 0) (As := []) (QX := fun e M' => ∃ c, exL ["java/lang/ArithmeticException"] c = some e ∧ Q (some (.int (nI c))) M') wc_L_88 rfl im_X8_meanLength se_X8_meanLength hM rfl rfl (Nat.le_of_ble_eq_true rfl) (Nat.le_of_eq (Nat.add_zero _)) (Nat.le_of_eq (Nat.add_zero _)) dL_meanLength_3 rfl rfl (ms _ _ (fun y M' hy => ?_) fun e M' c he hq => ⟨c, he, hq⟩) fun e M' he => ?_
  · obtain ⟨g, hg, hq⟩ := hy
    show AW _ (_, _, _, _, _, _, _, _, _) _ _ _ _ [some _, some _, _] _ _
    refine r_dast (o := (12, 1, 0)) (q := 7) hg vp_01 dL_meanLength_6 rfl ?_
    refine r_goto (t := 13) dL_meanLength_7 (by decide) ?_
    refine r_iconst (v := nI 0) (q := 14) dL_meanLength_13 (by decide) rfl ?_
    exact r_iret dL_meanLength_14 hq
  · obtain ⟨c, he, hq⟩ := he
    match c, he, hq with
    | 1, he, hq =>
      cases he
      refine ⟨10, ⟨[], ⟨0, 7, 10, 92⟩, [], _, rfl, List.forall_mem_nil _, by decide, by decide, ⟨_, kl_L_92⟩, ⟨_, ka_ArithmeticException⟩, rfl⟩, fun q9 => ?_⟩
      show AW _ (_, _, _, _, _, _, _, _, _) _ _ _ _ [some _, some _, _] _ _
      refine r_astore_n (q := 11) dL_meanLength_10 (Nat.le_of_ble_eq_true rfl) rfl rfl ?_
      refine r_iconst (v := nI 1) (q := 12) dL_meanLength_11 (by decide) rfl ?_
      exact r_iret dL_meanLength_12 hq
    | 0, he, hq => cases he
    | c + 2, he, hq => cases he
theorem h_L_lieShare {x ao : Nat} {fs : List Value} (hM : M (0, 0, 0) = some (x, .inr (0, fs))) (ms : ∀ (Q1 : Option Value → Me → Prop) (QX1 : String → Me → Prop), (∀ (y : UInt32) M', vf_n64 (FP.f2d y) ∧ (∃ g, M' (12, 1, 0) = some (ao, .inl (G.2.2.1 2, 1, .inr (.inr (.inr (.inl g))))) ∧ Q (some (.int (nI 0))) (oD G ao g (FP.f2d y) M')) → Q1 (some (.float y)) M') → (∀ e M' c, exL ["java/lang/ArithmeticException"] c = some e → Q (some (.int (nI c))) M' → QX1 e M') → MS G yX8_lieShare cX8_lieShare 1 (some .float) d k n [.ref x] M Q1 QX1) : MT G yL_lieShare cL_lieShare 3 (some .int) hh_lieShare (d + 1) k n [.ref x, .ref ao] M Q QX := by
  refine MT.of (by decide) (by simp [Value.category]) (Nat.le_of_ble_eq_true rfl) ?_
  show AW _ (_, _, _, _, _, _, _, _, _) _ _ _ _ [some _, some _, _] _ _
  refine r_aload_n (q := 1) dL_lieShare_0 rfl rfl ?_
  refine r_iconst (v := nI 0) (q := 2) dL_lieShare_1 (by decide) rfl ?_
  refine r_aload_n (q := 3) dL_lieShare_2 rfl rfl ?_
  refine r_invVC (X := wXT G yL_lieShare cL_lieShare 3 (some .int) hh_lieShare k n Q QX) (q := 6) (k' := k) (n' := n) (k2 := 0) (n2 := 0) (As := []) (QX := fun e M' => ∃ c, exL ["java/lang/ArithmeticException"] c = some e ∧ Q (some (.int (nI c))) M') wc_L_94 rfl im_X8_lieShare se_X8_lieShare hM rfl rfl (Nat.le_of_ble_eq_true rfl) (Nat.le_of_eq (Nat.add_zero _)) (Nat.le_of_eq (Nat.add_zero _)) dL_lieShare_3 rfl rfl (ms _ _ (fun y M' hy => ?_) fun e M' c he hq => ⟨c, he, hq⟩) fun e M' he => ?_
  · obtain ⟨hne, g, hg, hq⟩ := hy
    show AW _ (_, _, _, _, _, _, _, _, _) _ _ _ _ [some _, some _, _] _ _
    refine r_f2d (q := 7) dL_lieShare_6 hne rfl ?_
    refine r_dast (o := (12, 1, 0)) (q := 8) hg vp_01 dL_lieShare_7 rfl ?_
    refine r_goto (t := 14) dL_lieShare_8 (by decide) ?_
    refine r_iconst (v := nI 0) (q := 15) dL_lieShare_14 (by decide) rfl ?_
    exact r_iret dL_lieShare_15 hq
  · obtain ⟨c, he, hq⟩ := he
    match c, he, hq with
    | 1, he, hq =>
      cases he
      refine ⟨11, ⟨[], ⟨0, 8, 11, 92⟩, [], _, rfl, List.forall_mem_nil _, by decide, by decide, ⟨_, kl_L_92⟩, ⟨_, ka_ArithmeticException⟩, rfl⟩, fun q9 => ?_⟩
      show AW _ (_, _, _, _, _, _, _, _, _) _ _ _ _ [some _, some _, _] _ _
      refine r_astore_n (q := 12) dL_lieShare_11 (Nat.le_of_ble_eq_true rfl) rfl rfl ?_
      refine r_iconst (v := nI 1) (q := 13) dL_lieShare_12 (by decide) rfl ?_
      exact r_iret dL_lieShare_13 hq
    | 0, he, hq => cases he
    | c + 2, he, hq => cases he
theorem h_L_append {x ao : Nat} {fs : List Value} {a1 : Int32} (hM : M (0, 0, 0) = some (x, .inr (0, fs))) (ms : ∀ (Q1 : Option Value → Me → Prop) (QX1 : String → Me → Prop), (∀ (y : Int32) M', (∃ g, M' (12, 0, 0) = some (ao, .inl (G.2.2.1 1, 1, .inr (.inl g))) ∧ Q (some (.int (nI 0))) (oM G ao g y M')) → Q1 (some (.int y)) M') → (∀ e M' c, exL ["java/lang/IllegalArgumentException", "java/lang/IllegalStateException"] c = some e → Q (some (.int (nI c))) M' → QX1 e M') → MS G yX8_append cX8_append 5 (some .int) d k n [.ref x, .int a1] M Q1 QX1) : MT G yL_append cL_append 4 (some .int) hh_append (d + 1) k n [.ref x, .int a1, .ref ao] M Q QX := by
  refine MT.of (by decide) (by simp [Value.category]) (Nat.le_of_ble_eq_true rfl) ?_
  show AW _ (_, _, _, _, _, _, _, _, _) _ _ _ _ [some _, some _, some _, _] _ _
  refine r_aload_n (q := 1) dL_append_0 rfl rfl ?_
  refine r_iconst (v := nI 0) (q := 2) dL_append_1 (by decide) rfl ?_
  refine r_aload_n (q := 3) dL_append_2 rfl rfl ?_
  refine r_iload_n (q := 4) dL_append_3 rfl rfl ?_
  refine r_invVC (X := wXT G yL_append cL_append 4 (some .int) hh_append k n Q QX) (q := 7) (k' := k) (n' := n) (k2 := 0) (n2 := 0) (As := [.int _]) (QX := fun e M' => ∃ c, exL ["java/lang/IllegalArgumentException", "java/lang/IllegalStateException"] c = some e ∧ Q (some (.int (nI c))) M') wc_L_98 rfl im_X8_append se_X8_append hM rfl rfl (Nat.le_of_ble_eq_true rfl) (Nat.le_of_eq (Nat.add_zero _)) (Nat.le_of_eq (Nat.add_zero _)) dL_append_4 rfl rfl (ms _ _ (fun y M' hy => ?_) fun e M' c he hq => ⟨c, he, hq⟩) fun e M' he => ?_
  · obtain ⟨g, hg, hq⟩ := hy
    show AW _ (_, _, _, _, _, _, _, _, _) _ _ _ _ [some _, some _, some _, _] _ _
    refine r_i2l (q := 8) dL_append_7 rfl ?_
    refine r_last (o := (12, 0, 0)) (q := 9) hg vp_01 dL_append_8 rfl ?_
    refine r_goto (t := 18) dL_append_9 (by decide) ?_
    refine r_iconst (v := nI 0) (q := 19) dL_append_18 (by decide) rfl ?_
    exact r_iret dL_append_19 hq
  · obtain ⟨c, he, hq⟩ := he
    match c, he, hq with
    | 1, he, hq =>
      cases he
      refine ⟨12, ⟨[], ⟨0, 9, 12, 15⟩, [⟨0, 9, 15, 83⟩], _, rfl, List.forall_mem_nil _, by decide, by decide, ⟨_, kl_L_15⟩, ⟨_, ka_IllegalArgumentException⟩, rfl⟩, fun q9 => ?_⟩
      show AW _ (_, _, _, _, _, _, _, _, _) _ _ _ _ [some _, some _, some _, _] _ _
      refine r_astore_n (q := 13) dL_append_12 (Nat.le_of_ble_eq_true rfl) rfl rfl ?_
      refine r_iconst (v := nI 1) (q := 14) dL_append_13 (by decide) rfl ?_
      exact r_iret dL_append_14 hq
    | 2, he, hq =>
      cases he
      refine ⟨15, ⟨[⟨0, 9, 12, 15⟩], ⟨0, 9, 15, 83⟩, [], _, rfl, List.forall_mem_cons.mpr ⟨Or.inr ⟨by decide, _, _, kl_L_15, by decide⟩, List.forall_mem_nil _⟩, by decide, by decide, ⟨_, kl_L_83⟩, ⟨_, ka_IllegalStateException⟩, rfl⟩, fun q9 => ?_⟩
      show AW _ (_, _, _, _, _, _, _, _, _) _ _ _ _ [some _, some _, some _, _] _ _
      refine r_astore_n (q := 16) dL_append_15 (Nat.le_of_ble_eq_true rfl) rfl rfl ?_
      refine r_iconst (v := nI 2) (q := 17) dL_append_16 (by decide) rfl ?_
      exact r_iret dL_append_17 hq
    | 0, he, hq => cases he
    | c + 3, he, hq => cases he
theorem h_L_read {x ao : Nat} {fs : List Value} (hM : M (0, 0, 0) = some (x, .inr (0, fs))) (ms : ∀ (Q1 : Option Value → Me → Prop) (QX1 : String → Me → Prop), (∀ (y : Int32) M', (∃ g, M' (12, 0, 0) = some (ao, .inl (G.2.2.1 1, 1, .inr (.inl g))) ∧ Q (some (.int (nI 0))) (oM G ao g y M')) → Q1 (some (.int y)) M') → (∀ e M' c, exL ["java/lang/IllegalArgumentException", "java/lang/UnsupportedOperationException"] c = some e → Q (some (.int (nI c))) M' → QX1 e M') → MS G yX8_read cX8_read 3 (some .int) d k n [.ref x] M Q1 QX1) : MT G yL_read cL_read 3 (some .int) hh_read (d + 1) k n [.ref x, .ref ao] M Q QX := by
  refine MT.of (by decide) (by simp [Value.category]) (Nat.le_of_ble_eq_true rfl) ?_
  show AW _ (_, _, _, _, _, _, _, _, _) _ _ _ _ [some _, some _, _] _ _
  refine r_aload_n (q := 1) dL_read_0 rfl rfl ?_
  refine r_iconst (v := nI 0) (q := 2) dL_read_1 (by decide) rfl ?_
  refine r_aload_n (q := 3) dL_read_2 rfl rfl ?_
  refine r_invVC (X := wXT G yL_read cL_read 3 (some .int) hh_read k n Q QX) (q := 6) (k' := k) (n' := n) (k2 := 0) (n2 := 0) (As := []) (QX := fun e M' => ∃ c, exL ["java/lang/IllegalArgumentException", "java/lang/UnsupportedOperationException"] c = some e ∧ Q (some (.int (nI c))) M') wc_L_101 rfl im_X8_read se_X8_read hM rfl rfl (Nat.le_of_ble_eq_true rfl) (Nat.le_of_eq (Nat.add_zero _)) (Nat.le_of_eq (Nat.add_zero _)) dL_read_3 rfl rfl (ms _ _ (fun y M' hy => ?_) fun e M' c he hq => ⟨c, he, hq⟩) fun e M' he => ?_
  · obtain ⟨g, hg, hq⟩ := hy
    show AW _ (_, _, _, _, _, _, _, _, _) _ _ _ _ [some _, some _, _] _ _
    refine r_i2l (q := 7) dL_read_6 rfl ?_
    refine r_last (o := (12, 0, 0)) (q := 8) hg vp_01 dL_read_7 rfl ?_
    refine r_goto (t := 17) dL_read_8 (by decide) ?_
    refine r_iconst (v := nI 0) (q := 18) dL_read_17 (by decide) rfl ?_
    exact r_iret dL_read_18 hq
  · obtain ⟨c, he, hq⟩ := he
    match c, he, hq with
    | 1, he, hq =>
      cases he
      refine ⟨11, ⟨[], ⟨0, 8, 11, 15⟩, [⟨0, 8, 14, 17⟩], _, rfl, List.forall_mem_nil _, by decide, by decide, ⟨_, kl_L_15⟩, ⟨_, ka_IllegalArgumentException⟩, rfl⟩, fun q9 => ?_⟩
      show AW _ (_, _, _, _, _, _, _, _, _) _ _ _ _ [some _, some _, _] _ _
      refine r_astore_n (q := 12) dL_read_11 (Nat.le_of_ble_eq_true rfl) rfl rfl ?_
      refine r_iconst (v := nI 1) (q := 13) dL_read_12 (by decide) rfl ?_
      exact r_iret dL_read_13 hq
    | 2, he, hq =>
      cases he
      refine ⟨14, ⟨[⟨0, 8, 11, 15⟩], ⟨0, 8, 14, 17⟩, [], _, rfl, List.forall_mem_cons.mpr ⟨Or.inr ⟨by decide, _, _, kl_L_15, by decide⟩, List.forall_mem_nil _⟩, by decide, by decide, ⟨_, kl_L_17⟩, ⟨_, ka_UnsupportedOperationException⟩, rfl⟩, fun q9 => ?_⟩
      show AW _ (_, _, _, _, _, _, _, _, _) _ _ _ _ [some _, some _, _] _ _
      refine r_astore_n (q := 15) dL_read_14 (Nat.le_of_ble_eq_true rfl) rfl rfl ?_
      refine r_iconst (v := nI 2) (q := 16) dL_read_15 (by decide) rfl ?_
      exact r_iret dL_read_16 hq
    | 0, he, hq => cases he
    | c + 3, he, hq => cases he
theorem h_L_errorPosition {x ao : Nat} {fs : List Value} (hM : M (0, 0, 0) = some (x, .inr (0, fs))) (ms : ∀ (Q1 : Option Value → Me → Prop) (QX1 : String → Me → Prop), (∀ (y : Int32) M', (∃ g, M' (12, 0, 0) = some (ao, .inl (G.2.2.1 1, 1, .inr (.inl g))) ∧ Q (some (.int (nI 0))) (oM G ao g y M')) → Q1 (some (.int y)) M') → (∀ e M' c, exL ["java/util/NoSuchElementException"] c = some e → Q (some (.int (nI c))) M' → QX1 e M') → MS G yX8_errorPosition cX8_errorPosition 1 (some .int) d k n [.ref x] M Q1 QX1) : MT G yL_errorPosition cL_errorPosition 3 (some .int) hh_errorPosition (d + 1) k n [.ref x, .ref ao] M Q QX := by
  refine MT.of (by decide) (by simp [Value.category]) (Nat.le_of_ble_eq_true rfl) ?_
  show AW _ (_, _, _, _, _, _, _, _, _) _ _ _ _ [some _, some _, _] _ _
  refine r_aload_n (q := 1) dL_errorPosition_0 rfl rfl ?_
  refine r_iconst (v := nI 0) (q := 2) dL_errorPosition_1 (by decide) rfl ?_
  refine r_aload_n (q := 3) dL_errorPosition_2 rfl rfl ?_
  refine r_invVC (X := wXT G yL_errorPosition cL_errorPosition 3 (some .int) hh_errorPosition k n Q QX) (q := 6) (k' := k) (n' := n) (k2 := 0) (n2 := 0) (As := []) (QX := fun e M' => ∃ c, exL ["java/util/NoSuchElementException"] c = some e ∧ Q (some (.int (nI c))) M') wc_L_105 rfl im_X8_errorPosition se_X8_errorPosition hM rfl rfl (Nat.le_of_ble_eq_true rfl) (Nat.le_of_eq (Nat.add_zero _)) (Nat.le_of_eq (Nat.add_zero _)) dL_errorPosition_3 rfl rfl (ms _ _ (fun y M' hy => ?_) fun e M' c he hq => ⟨c, he, hq⟩) fun e M' he => ?_
  · obtain ⟨g, hg, hq⟩ := hy
    show AW _ (_, _, _, _, _, _, _, _, _) _ _ _ _ [some _, some _, _] _ _
    refine r_i2l (q := 7) dL_errorPosition_6 rfl ?_
    refine r_last (o := (12, 0, 0)) (q := 8) hg vp_01 dL_errorPosition_7 rfl ?_
    refine r_goto (t := 14) dL_errorPosition_8 (by decide) ?_
    refine r_iconst (v := nI 0) (q := 15) dL_errorPosition_14 (by decide) rfl ?_
    exact r_iret dL_errorPosition_15 hq
  · obtain ⟨c, he, hq⟩ := he
    match c, he, hq with
    | 1, he, hq =>
      cases he
      refine ⟨11, ⟨[], ⟨0, 8, 11, 61⟩, [], _, rfl, List.forall_mem_nil _, by decide, by decide, ⟨_, kl_L_61⟩, ⟨_, ka_NoSuchElementException⟩, rfl⟩, fun q9 => ?_⟩
      show AW _ (_, _, _, _, _, _, _, _, _) _ _ _ _ [some _, some _, _] _ _
      refine r_astore_n (q := 12) dL_errorPosition_11 (Nat.le_of_ble_eq_true rfl) rfl rfl ?_
      refine r_iconst (v := nI 1) (q := 13) dL_errorPosition_12 (by decide) rfl ?_
      exact r_iret dL_errorPosition_13 hq
    | 0, he, hq => cases he
    | c + 2, he, hq => cases he
theorem h_L_refusedItem {x ao : Nat} {fs : List Value} (hM : M (0, 0, 0) = some (x, .inr (0, fs))) (ms : ∀ (Q1 : Option Value → Me → Prop) (QX1 : String → Me → Prop), (∀ (y : Int32) M', (∃ g, M' (12, 0, 0) = some (ao, .inl (G.2.2.1 1, 1, .inr (.inl g))) ∧ Q (some (.int (nI 0))) (oM G ao g y M')) → Q1 (some (.int y)) M') → (∀ e M' c, exL ["java/util/NoSuchElementException"] c = some e → Q (some (.int (nI c))) M' → QX1 e M') → MS G yX8_refusedItem cX8_refusedItem 1 (some .int) d k n [.ref x] M Q1 QX1) : MT G yL_refusedItem cL_refusedItem 3 (some .int) hh_refusedItem (d + 1) k n [.ref x, .ref ao] M Q QX := by
  refine MT.of (by decide) (by simp [Value.category]) (Nat.le_of_ble_eq_true rfl) ?_
  show AW _ (_, _, _, _, _, _, _, _, _) _ _ _ _ [some _, some _, _] _ _
  refine r_aload_n (q := 1) dL_refusedItem_0 rfl rfl ?_
  refine r_iconst (v := nI 0) (q := 2) dL_refusedItem_1 (by decide) rfl ?_
  refine r_aload_n (q := 3) dL_refusedItem_2 rfl rfl ?_
  refine r_invVC (X := wXT G yL_refusedItem cL_refusedItem 3 (some .int) hh_refusedItem k n Q QX) (q := 6) (k' := k) (n' := n) (k2 := 0) (n2 := 0) (As := []) (QX := fun e M' => ∃ c, exL ["java/util/NoSuchElementException"] c = some e ∧ Q (some (.int (nI c))) M') wc_L_108 rfl im_X8_refusedItem se_X8_refusedItem hM rfl rfl (Nat.le_of_ble_eq_true rfl) (Nat.le_of_eq (Nat.add_zero _)) (Nat.le_of_eq (Nat.add_zero _)) dL_refusedItem_3 rfl rfl (ms _ _ (fun y M' hy => ?_) fun e M' c he hq => ⟨c, he, hq⟩) fun e M' he => ?_
  · obtain ⟨g, hg, hq⟩ := hy
    show AW _ (_, _, _, _, _, _, _, _, _) _ _ _ _ [some _, some _, _] _ _
    refine r_i2l (q := 7) dL_refusedItem_6 rfl ?_
    refine r_last (o := (12, 0, 0)) (q := 8) hg vp_01 dL_refusedItem_7 rfl ?_
    refine r_goto (t := 14) dL_refusedItem_8 (by decide) ?_
    refine r_iconst (v := nI 0) (q := 15) dL_refusedItem_14 (by decide) rfl ?_
    exact r_iret dL_refusedItem_15 hq
  · obtain ⟨c, he, hq⟩ := he
    match c, he, hq with
    | 1, he, hq =>
      cases he
      refine ⟨11, ⟨[], ⟨0, 8, 11, 61⟩, [], _, rfl, List.forall_mem_nil _, by decide, by decide, ⟨_, kl_L_61⟩, ⟨_, ka_NoSuchElementException⟩, rfl⟩, fun q9 => ?_⟩
      show AW _ (_, _, _, _, _, _, _, _, _) _ _ _ _ [some _, some _, _] _ _
      refine r_astore_n (q := 12) dL_refusedItem_11 (Nat.le_of_ble_eq_true rfl) rfl rfl ?_
      refine r_iconst (v := nI 1) (q := 13) dL_refusedItem_12 (by decide) rfl ?_
      exact r_iret dL_refusedItem_13 hq
    | 0, he, hq => cases he
    | c + 2, he, hq => cases he
theorem h_L_undo {x ao : Nat} {fs : List Value} (hM : M (0, 0, 0) = some (x, .inr (0, fs))) (ms : ∀ (Q1 : Option Value → Me → Prop) (QX1 : String → Me → Prop), (∀ (y : Int32) M', (∃ g, M' (12, 0, 0) = some (ao, .inl (G.2.2.1 1, 1, .inr (.inl g))) ∧ Q (some (.int (nI 0))) (oM G ao g y M')) → Q1 (some (.int y)) M') → (∀ e M' c, exL ["java/lang/IllegalStateException"] c = some e → Q (some (.int (nI c))) M' → QX1 e M') → MS G yX8_undo cX8_undo 1 (some .int) d k n [.ref x] M Q1 QX1) : MT G yL_undo cL_undo 3 (some .int) hh_undo (d + 1) k n [.ref x, .ref ao] M Q QX := by
  refine MT.of (by decide) (by simp [Value.category]) (Nat.le_of_ble_eq_true rfl) ?_
  show AW _ (_, _, _, _, _, _, _, _, _) _ _ _ _ [some _, some _, _] _ _
  refine r_aload_n (q := 1) dL_undo_0 rfl rfl ?_
  refine r_iconst (v := nI 0) (q := 2) dL_undo_1 (by decide) rfl ?_
  refine r_aload_n (q := 3) dL_undo_2 rfl rfl ?_
  refine r_invVC (X := wXT G yL_undo cL_undo 3 (some .int) hh_undo k n Q QX) (q := 6) (k' := k) (n' := n) (k2 := 0) (n2 := 0) (As := []) (QX := fun e M' => ∃ c, exL ["java/lang/IllegalStateException"] c = some e ∧ Q (some (.int (nI c))) M') wc_L_111 rfl im_X8_undo se_X8_undo hM rfl rfl (Nat.le_of_ble_eq_true rfl) (Nat.le_of_eq (Nat.add_zero _)) (Nat.le_of_eq (Nat.add_zero _)) dL_undo_3 rfl rfl (ms _ _ (fun y M' hy => ?_) fun e M' c he hq => ⟨c, he, hq⟩) fun e M' he => ?_
  · obtain ⟨g, hg, hq⟩ := hy
    show AW _ (_, _, _, _, _, _, _, _, _) _ _ _ _ [some _, some _, _] _ _
    refine r_i2l (q := 7) dL_undo_6 rfl ?_
    refine r_last (o := (12, 0, 0)) (q := 8) hg vp_01 dL_undo_7 rfl ?_
    refine r_goto (t := 14) dL_undo_8 (by decide) ?_
    refine r_iconst (v := nI 0) (q := 15) dL_undo_14 (by decide) rfl ?_
    exact r_iret dL_undo_15 hq
  · obtain ⟨c, he, hq⟩ := he
    match c, he, hq with
    | 1, he, hq =>
      cases he
      refine ⟨11, ⟨[], ⟨0, 8, 11, 83⟩, [], _, rfl, List.forall_mem_nil _, by decide, by decide, ⟨_, kl_L_83⟩, ⟨_, ka_IllegalStateException⟩, rfl⟩, fun q9 => ?_⟩
      show AW _ (_, _, _, _, _, _, _, _, _) _ _ _ _ [some _, some _, _] _ _
      refine r_astore_n (q := 12) dL_undo_11 (Nat.le_of_ble_eq_true rfl) rfl rfl ?_
      refine r_iconst (v := nI 1) (q := 13) dL_undo_12 (by decide) rfl ?_
      exact r_iret dL_undo_13 hq
    | 0, he, hq => cases he
    | c + 2, he, hq => cases he
theorem h_L_restore {x ao : Nat} {fs : List Value} (hM : M (0, 0, 0) = some (x, .inr (0, fs))) (ms : ∀ (Q1 : Option Value → Me → Prop) (QX1 : String → Me → Prop), (∀ (y : Int32) M', (∃ g, M' (12, 0, 0) = some (ao, .inl (G.2.2.1 1, 1, .inr (.inl g))) ∧ Q (some (.int (nI 0))) (oM G ao g y M')) → Q1 (some (.int y)) M') → (∀ e M' c, exL ["java/lang/IllegalStateException"] c = some e → Q (some (.int (nI c))) M' → QX1 e M') → MS G yX8_restore cX8_restore 1 (some .int) d k n [.ref x] M Q1 QX1) : MT G yL_restore cL_restore 3 (some .int) hh_restore (d + 1) k n [.ref x, .ref ao] M Q QX := by
  refine MT.of (by decide) (by simp [Value.category]) (Nat.le_of_ble_eq_true rfl) ?_
  show AW _ (_, _, _, _, _, _, _, _, _) _ _ _ _ [some _, some _, _] _ _
  refine r_aload_n (q := 1) dL_restore_0 rfl rfl ?_
  refine r_iconst (v := nI 0) (q := 2) dL_restore_1 (by decide) rfl ?_
  refine r_aload_n (q := 3) dL_restore_2 rfl rfl ?_
  refine r_invVC (X := wXT G yL_restore cL_restore 3 (some .int) hh_restore k n Q QX) (q := 6) (k' := k) (n' := n) (k2 := 0) (n2 := 0) (As := []) (QX := fun e M' => ∃ c, exL ["java/lang/IllegalStateException"] c = some e ∧ Q (some (.int (nI c))) M') wc_L_114 rfl im_X8_restore se_X8_restore hM rfl rfl (Nat.le_of_ble_eq_true rfl) (Nat.le_of_eq (Nat.add_zero _)) (Nat.le_of_eq (Nat.add_zero _)) dL_restore_3 rfl rfl (ms _ _ (fun y M' hy => ?_) fun e M' c he hq => ⟨c, he, hq⟩) fun e M' he => ?_
  · obtain ⟨g, hg, hq⟩ := hy
    show AW _ (_, _, _, _, _, _, _, _, _) _ _ _ _ [some _, some _, _] _ _
    refine r_i2l (q := 7) dL_restore_6 rfl ?_
    refine r_last (o := (12, 0, 0)) (q := 8) hg vp_01 dL_restore_7 rfl ?_
    refine r_goto (t := 14) dL_restore_8 (by decide) ?_
    refine r_iconst (v := nI 0) (q := 15) dL_restore_14 (by decide) rfl ?_
    exact r_iret dL_restore_15 hq
  · obtain ⟨c, he, hq⟩ := he
    match c, he, hq with
    | 1, he, hq =>
      cases he
      refine ⟨11, ⟨[], ⟨0, 8, 11, 83⟩, [], _, rfl, List.forall_mem_nil _, by decide, by decide, ⟨_, kl_L_83⟩, ⟨_, ka_IllegalStateException⟩, rfl⟩, fun q9 => ?_⟩
      show AW _ (_, _, _, _, _, _, _, _, _) _ _ _ _ [some _, some _, _] _ _
      refine r_astore_n (q := 12) dL_restore_11 (Nat.le_of_ble_eq_true rfl) rfl rfl ?_
      refine r_iconst (v := nI 1) (q := 13) dL_restore_12 (by decide) rfl ?_
      exact r_iret dL_restore_13 hq
    | 0, he, hq => cases he
    | c + 2, he, hq => cases he
end W91
