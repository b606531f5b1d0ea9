/-! THE LAW: cases that compare two answers -/
section W99d
theorem bkh (K : Nat) : 1 + K ≤ K + 8 := by omega
theorem bnh (N : Nat) : 6 + N ≤ N + 2400 := by omega
theorem bks {c : Nat} (hc : cOk c) (K : Nat) : pKk c + K ≤ K + 8 := by
  unfold pKk
  repeat' split
  all_goals omega
theorem bns (c N : Nat) : pNn c + N ≤ N + 2400 := by unfold pNn; omega
theorem lc_0 {G : En} {tb : List ExceptionTableEntry × String} {Λ : Ob → Nat} {ao ad k0 n0 K N n i : Nat} {Z : List Frame → Array Value → State → State → Prop} {σ : Sg} {μ : Mg} {M : Me} {d : Nat} (h : HX G Λ ao ad σ μ M) (hj : JR n σ μ) (hn : n + 5000 ≤ 2 ^ 24) (hn10 : 10 ≤ n) (hi : i + 4 ≤ scL G) (hl : scL G ≤ 2048) (kk : ∀ σ2 μ2 M2, HX G Λ ao ad σ2 μ2 M2 → JR (n + 5000) σ2 μ2 → AW G (XL tb k0 n0 Z) (d + 15) K N 2111 [some (.ref (scA G)), some (.ref (Λ (0, 0, 0))), some (.ref (Λ (10, 0, 0))), some (.ref ao), some (.ref ad), some (.int (nI i)), none, none, none] [] M2) : AW G (XL tb k0 n0 Z) (d + 15) (K + 8) (N + 2400) 208 [some (.ref (scA G)), some (.ref (Λ (0, 0, 0))), some (.ref (Λ (10, 0, 0))), some (.ref ao), some (.ref ad), some (.int (nI i)), none, none, none] [] M := by
  obtain ⟨z, hz8, hz⟩ := hj.z
  refine r_aload_n (q := 209) dL_law_208 rfl rfl ?_
  refine r_cV (k2 := K + 8) (n2 := N + 2400) (q := 212) (As := []) wc_L_121 rfl im_X8_clear se_X8_clear h.x rfl rfl (Nat.le_of_ble_eq_true rfl) (Nat.le_of_eq (Nat.zero_add _)) (Nat.le_of_eq (Nat.zero_add _)) dL_law_209 rfl rfl (s_X8_clear (S := gS σ 0) (h.1.toS 0) fun M' hM' => ?_)
  have h2 := h.cls hM'
  refine r_aload_n (q := 213) dL_law_212 rfl rfl ?_
  refine r_cV (q := 216) (As := []) wc_L_124 rfl im_X9_clear se_X9_clear h2.m rfl rfl (Nat.le_of_ble_eq_true rfl) (Nat.le_of_eq (Nat.zero_add _)) (Nat.le_of_eq (Nat.zero_add _)) dL_law_213 rfl rfl (s_X9_clear h2.2.1 fun M2 hM2 => ?_)
  have h3 := h2.mod hM2
  have he : _ = _ := congrArg nI (j_clear hj hn10).2.symm
  refine r_icmp_eq (q := 219) (t := 2111) dL_law_216 (by decide) rfl (fun _ => ?_) (fun c => absurd he c)
  exact AW.less (by omega) (by omega) (kk _ _ _ h3 ((j_clear hj hn10).1.up (by omega)))
theorem lc_8 {G : En} {tb : List ExceptionTableEntry × String} {Λ : Ob → Nat} {ao ad k0 n0 K N n i : Nat} {Z : List Frame → Array Value → State → State → Prop} {σ : Sg} {μ : Mg} {M : Me} {d : Nat} (h : HX G Λ ao ad σ μ M) (hj : JR n σ μ) (hn : n + 5000 ≤ 2 ^ 24) (hn10 : 10 ≤ n) (hi : i + 4 ≤ scL G) (hl : scL G ≤ 2048) (kk : ∀ σ2 μ2 M2, HX G Λ ao ad σ2 μ2 M2 → JR (n + 5000) σ2 μ2 → AW G (XL tb k0 n0 Z) (d + 15) K N 2111 [some (.ref (scA G)), some (.ref (Λ (0, 0, 0))), some (.ref (Λ (10, 0, 0))), some (.ref ao), some (.ref ad), some (.int (nI i)), none, none, none] [] M2) : AW G (XL tb k0 n0 Z) (d + 15) (K + 8) (N + 2400) 709 [some (.ref (scA G)), some (.ref (Λ (0, 0, 0))), some (.ref (Λ (10, 0, 0))), some (.ref ao), some (.ref ad), some (.int (nI i)), none, none, none] [] M := by
  obtain ⟨z, hz8, hz⟩ := hj.z
  have ok := hj.oks hn
  have okf := hj.okf hn
  refine r_aload_n (q := 710) dL_law_709 rfl rfl ?_
  refine r_cV (k2 := K + 8) (n2 := N + 2400) (q := 713) (As := []) wc_L_154 rfl im_X8_isClear se_X8_isClear h.x rfl rfl (Nat.le_of_ble_eq_true rfl) (Nat.le_of_eq (Nat.zero_add _)) (Nat.le_of_eq (Nat.zero_add _)) dL_law_710 rfl rfl (s_X8_isClear (S := gS σ 0) (h.1.toS 0) ok.2.1 ?_)
  have h2 := h
  refine r_aload_n (q := 714) dL_law_713 rfl rfl ?_
  refine r_cV (q := 717) (As := []) wc_L_158 rfl im_X9_isClear se_X9_isClear h2.m rfl rfl (Nat.le_of_ble_eq_true rfl) (Nat.le_of_eq (Nat.zero_add _)) (Nat.le_of_eq (Nat.zero_add _)) dL_law_714 rfl rfl (s_X9_isClear h2.2.1 okf.1 fun M2 hM2 => ?_)
  have h3 := h2.mod hM2
  have he : _ = _ := congrArg bI (same_clear hj.en hj.iv.sh).symm
  refine r_icmp_eq (q := 720) (t := 2111) dL_law_717 (by decide) rfl (fun _ => ?_) (fun c => absurd he c)
  exact AW.less (by omega) (by omega) (kk _ _ _ h3 (hj.q4.up (by omega)))
theorem lc_15 {G : En} {tb : List ExceptionTableEntry × String} {Λ : Ob → Nat} {ao ad k0 n0 K N n i : Nat} {Z : List Frame → Array Value → State → State → Prop} {σ : Sg} {μ : Mg} {M : Me} {d : Nat} (h : HX G Λ ao ad σ μ M) (hj : JR n σ μ) (hn : n + 5000 ≤ 2 ^ 24) (hn10 : 10 ≤ n) (hi : i + 4 ≤ scL G) (hl : scL G ≤ 2048) (kk : ∀ σ2 μ2 M2, HX G Λ ao ad σ2 μ2 M2 → JR (n + 5000) σ2 μ2 → AW G (XL tb k0 n0 Z) (d + 15) K N 2111 [some (.ref (scA G)), some (.ref (Λ (0, 0, 0))), some (.ref (Λ (10, 0, 0))), some (.ref ao), some (.ref ad), some (.int (nI i)), none, none, none] [] M2) : AW G (XL tb k0 n0 Z) (d + 15) (K + 8) (N + 2400) 1110 [some (.ref (scA G)), some (.ref (Λ (0, 0, 0))), some (.ref (Λ (10, 0, 0))), some (.ref ao), some (.ref ad), some (.int (nI i)), none, none, none] [] M := by
  obtain ⟨z, hz8, hz⟩ := hj.z
  have ok := hj.oks hn
  have okf := hj.okf hn
  have bk := bkh K
  have bn := bnh N
  refine r_aload_n (q := 1111) dL_law_1110 rfl rfl ?_
  refine r_cV (k' := 1) (n' := 6) (k2 := K) (n2 := N) (q := 1114) (As := []) wc_L_178 rfl im_X8_hour se_X8_hour h.x rfl rfl (Nat.le_of_ble_eq_true rfl) bk bn dL_law_1111 rfl rfl (s_X8_hour (S := gS σ 0) (h.1.toS 0) hj.hs.hv ok.1 ok.2.2.2.2 fun M' hM' => ?_)
  have h2 := h.cls hM'
  refine r_aload_n (q := 1115) dL_law_1114 rfl rfl ?_
  refine r_cV (q := 1118) (As := []) wc_L_181 rfl im_X9_hour se_X9_hour h2.m rfl rfl (Nat.le_of_ble_eq_true rfl) (Nat.le_of_eq (Nat.zero_add _)) (Nat.le_of_eq (Nat.zero_add _)) dL_law_1115 rfl rfl (s_X9_hour h2.2.1 hz hz8 okf.2.2.2.1 fun M2 hM2 => ?_)
  have h3 := h2.mod hM2
  have he : _ = _ := (j_hour hj hz hz8).2.symm
  refine r_icmp_eq (q := 1121) (t := 2111) dL_law_1118 (by decide) rfl (fun _ => ?_) (fun c => absurd he c)
  exact AW.less (by omega) (by omega) (kk _ _ _ h3 ((j_hour hj hz hz8).1.up (by omega)))
theorem lc_16 {G : En} {tb : List ExceptionTableEntry × String} {Λ : Ob → Nat} {ao ad k0 n0 K N n i : Nat} {Z : List Frame → Array Value → State → State → Prop} {σ : Sg} {μ : Mg} {M : Me} {d : Nat} (h : HX G Λ ao ad σ μ M) (hj : JR n σ μ) (hn : n + 5000 ≤ 2 ^ 24) (hn10 : 10 ≤ n) (hi : i + 4 ≤ scL G) (hl : scL G ≤ 2048) (kk : ∀ σ2 μ2 M2, HX G Λ ao ad σ2 μ2 M2 → JR (n + 5000) σ2 μ2 → AW G (XL tb k0 n0 Z) (d + 15) K N 2111 [some (.ref (scA G)), some (.ref (Λ (0, 0, 0))), some (.ref (Λ (10, 0, 0))), some (.ref ao), some (.ref ad), some (.int (nI i)), none, none, none] [] M2) : AW G (XL tb k0 n0 Z) (d + 15) (K + 8) (N + 2400) 1123 [some (.ref (scA G)), some (.ref (Λ (0, 0, 0))), some (.ref (Λ (10, 0, 0))), some (.ref ao), some (.ref ad), some (.int (nI i)), none, none, none] [] M := by
  obtain ⟨z, hz8, hz⟩ := hj.z
  have ok := hj.oks hn
  have okf := hj.okf hn
  refine r_aload_n (q := 1124) dL_law_1123 rfl rfl ?_
  refine r_cV (k2 := K + 8) (n2 := N + 2400) (q := 1127) (As := []) wc_L_182 rfl im_X8_way se_X8_way h.x rfl rfl (Nat.le_of_ble_eq_true rfl) (Nat.le_of_eq (Nat.zero_add _)) (Nat.le_of_eq (Nat.zero_add _)) dL_law_1124 rfl rfl (s_X8_way (S := gS σ 0) (h.1.toS 0) ok.1 ?_)
  have h2 := h
  refine r_aload_n (q := 1128) dL_law_1127 rfl rfl ?_
  refine r_cV (q := 1131) (As := []) wc_L_185 rfl im_X9_way se_X9_way h2.m rfl rfl (Nat.le_of_ble_eq_true rfl) (Nat.le_of_eq (Nat.zero_add _)) (Nat.le_of_eq (Nat.zero_add _)) dL_law_1128 rfl rfl (s_X9_way h2.2.1 okf.2.2.2.1 fun M2 hM2 => ?_)
  have h3 := h2.mod hM2
  have he : _ = _ := (same_way hj.en hj.iv.so).symm
  refine r_icmp_eq (q := 1134) (t := 2111) dL_law_1131 (by decide) rfl (fun _ => ?_) (fun c => absurd he c)
  exact AW.less (by omega) (by omega) (kk _ _ _ h3 (hj.q4.up (by omega)))
theorem ways_eq {n : Nat} {σ : Sg} {μ : Mg} (hj : JR n σ μ) (b : Bool) : gWaysS ((gS σ 0).1 0) (gLet ((gS σ 0).1 11)) b = mRE (gA μ 0) (gLet ((gS σ 0).1 11)) (gA μ 5) 0 := by
  have e : gWaysS ((gS σ 0).1 0) (gLet ((gS σ 0).1 11)) b = gWaysS ((gS σ 0).1 0) (gLet ((gS σ 0).1 11)) true := by
    cases b with
    | true => rfl
    | false => exact both_ends hj.iv.sh.ws gLet_lt2
  rw [e, gWaysS, if_pos rfl]
  exact same_ways hj.en hj.iv.sh gLet_lt2 _ (Nat.zero_le _)
theorem lc_18 {G : En} {tb : List ExceptionTableEntry × String} {Λ : Ob → Nat} {ao ad k0 n0 K N n i : Nat} {Z : List Frame → Array Value → State → State → Prop} {σ : Sg} {μ : Mg} {M : Me} {d : Nat} (h : HX G Λ ao ad σ μ M) (hj : JR n σ μ) (hn : n + 5000 ≤ 2 ^ 24) (hn10 : 10 ≤ n) (hi : i + 4 ≤ scL G) (hl : scL G ≤ 2048) (kk : ∀ σ2 μ2 M2, HX G Λ ao ad σ2 μ2 M2 → JR (n + 5000) σ2 μ2 → AW G (XL tb k0 n0 Z) (d + 15) K N 2111 [some (.ref (scA G)), some (.ref (Λ (0, 0, 0))), some (.ref (Λ (10, 0, 0))), some (.ref ao), some (.ref ad), some (.int (nI i)), none, none, none] [] M2) : AW G (XL tb k0 n0 Z) (d + 15) (K + 8) (N + 2400) 1204 [some (.ref (scA G)), some (.ref (Λ (0, 0, 0))), some (.ref (Λ (10, 0, 0))), some (.ref ao), some (.ref ad), some (.int (nI i)), none, none, none] [] M := by
  obtain ⟨z, hz8, hz⟩ := hj.z
  have ok := hj.oks hn
  have okf := hj.okf hn
  have lrn := hj.en.lrn hj.iv.sh hj.iv.so hj.iv.h11
  refine r_aload_n (q := 1205) dL_law_1204 rfl rfl ?_
  refine r_aload_n (q := 1206) dL_law_1205 rfl rfl ?_
  refine r_iload (q := 1208) dL_law_1206 rfl rfl ?_
  refine r_iconst (v := nI 1) (q := 1209) dL_law_1208 (by decide) rfl ?_
  refine r_iadd (q := 1210) dL_law_1209 rfl ?_
  refine r_sc (q := 1211) (by omega) hl dL_law_1210 rfl ?_
  refine r_bz (p1 := 1214) (p2 := 1215) (p3 := 1218) (q := 1219) dL_law_1211 rfl rfl dL_law_1214 dL_law_1215 (by decide) dL_law_1218 (by decide) rfl ?_
  refine r_cV (k2 := K + 8) (n2 := N + 2400) (q := 1222) (As := [.int _]) wc_L_189 rfl im_X8_ways se_X8_ways h.x rfl rfl (Nat.le_of_ble_eq_true rfl) (Nat.le_of_eq (Nat.zero_add _)) (Nat.le_of_eq (Nat.zero_add _)) dL_law_1219 rfl rfl (s_X8_ways h.1 ok.2.1 lrn.2.2.2.2 fun S' M' hM' => ?_)
  have h2 := h.cls hM'
  refine r_aload_n (q := 1223) dL_law_1222 rfl rfl ?_
  refine r_aload_n (q := 1224) dL_law_1223 rfl rfl ?_
  refine r_iload (q := 1226) dL_law_1224 rfl rfl ?_
  refine r_iconst (v := nI 1) (q := 1227) dL_law_1226 (by decide) rfl ?_
  refine r_iadd (q := 1228) dL_law_1227 rfl ?_
  refine r_sc (q := 1229) (by omega) hl dL_law_1228 rfl ?_
  refine r_bz (p1 := 1232) (p2 := 1233) (p3 := 1236) (q := 1237) dL_law_1229 rfl rfl dL_law_1232 dL_law_1233 (by decide) dL_law_1236 (by decide) rfl ?_
  refine r_cV (q := 1240) (As := [.int _]) wc_L_192 rfl im_X9_ways se_X9_ways h2.m rfl rfl (Nat.le_of_ble_eq_true rfl) (Nat.le_of_eq (Nat.zero_add _)) (Nat.le_of_eq (Nat.zero_add _)) dL_law_1237 rfl rfl (s_X9_ways h2.2.1 lrn fun M2 T R eR hM2 => ?_)
  have h3 := h2.mod hM2
  have he : _ = _ := congrArg nI ((ways_eq hj (decide (¬ scF G (i + 1) = 0))).trans (congrFun eR 0))
  refine r_icmp_eq (q := 1243) (t := 2111) dL_law_1240 (by decide) rfl (fun _ => ?_) (fun c => absurd he c)
  exact AW.less (by omega) (by omega) (kk _ _ _ h3 (((((hj.s12.q4).sa (by decide)).sn (by decide)).sa (by decide)).up (by omega)))
theorem lc_22 {G : En} {tb : List ExceptionTableEntry × String} {Λ : Ob → Nat} {ao ad k0 n0 K N n i : Nat} {Z : List Frame → Array Value → State → State → Prop} {σ : Sg} {μ : Mg} {M : Me} {d : Nat} (h : HX G Λ ao ad σ μ M) (hj : JR n σ μ) (hn : n + 5000 ≤ 2 ^ 24) (hn10 : 10 ≤ n) (hi : i + 4 ≤ scL G) (hl : scL G ≤ 2048) (kk : ∀ σ2 μ2 M2, HX G Λ ao ad σ2 μ2 M2 → JR (n + 5000) σ2 μ2 → AW G (XL tb k0 n0 Z) (d + 15) K N 2111 [some (.ref (scA G)), some (.ref (Λ (0, 0, 0))), some (.ref (Λ (10, 0, 0))), some (.ref ao), some (.ref ad), some (.int (nI i)), none, none, none] [] M2) : AW G (XL tb k0 n0 Z) (d + 15) (K + 8) (N + 2400) 1425 [some (.ref (scA G)), some (.ref (Λ (0, 0, 0))), some (.ref (Λ (10, 0, 0))), some (.ref ao), some (.ref ad), some (.int (nI i)), none, none, none] [] M := by
  obtain ⟨z, hz8, hz⟩ := hj.z
  have ok := hj.oks hn
  have okf := hj.okf hn
  have lrn := hj.en.lrn hj.iv.sh hj.iv.so hj.iv.h11
  refine r_aload_n (q := 1426) dL_law_1425 rfl rfl ?_
  refine r_cV (k2 := K + 8) (n2 := N + 2400) (q := 1429) (As := []) wc_L_202 rfl im_X8_isRight se_X8_isRight h.x rfl rfl (Nat.le_of_ble_eq_true rfl) (Nat.le_of_eq (Nat.zero_add _)) (Nat.le_of_eq (Nat.zero_add _)) dL_law_1426 rfl rfl (s_X8_isRight h.1 ok.2.1 lrn.2.2.2.2 (fun m h1 h6 => free_bars hj.iv.sh.ws h1 h6) (both_ends hj.iv.sh.ws gLet_lt2) (fun hc => ways_one hj.iv.sh.ws gLet_lt2 hc) (gDist_t hj.iv.dw) fun S' M' hM' => ?_)
  have h2 := h.cls hM'
  refine r_aload_n (q := 1430) dL_law_1429 rfl rfl ?_
  refine r_cV (q := 1433) (As := []) wc_L_205 rfl im_X9_isRight se_X9_isRight h2.m rfl rfl (Nat.le_of_ble_eq_true rfl) (Nat.le_of_eq (Nat.zero_add _)) (Nat.le_of_eq (Nat.zero_add _)) dL_law_1430 rfl rfl (s_X9_isRight h2.2.1 fun M2 hM2 => ?_)
  have h3 := h2.mod hM2
  have he : nI 1 = nI 1 := rfl
  refine r_icmp_eq (q := 1436) (t := 2111) dL_law_1433 (by decide) rfl (fun _ => ?_) (fun c => absurd he c)
  exact AW.less (by omega) (by omega) (kk _ _ _ h3 (hj.s12.q4.up (by omega)))
theorem lc_24 {G : En} {tb : List ExceptionTableEntry × String} {Λ : Ob → Nat} {ao ad k0 n0 K N n i : Nat} {Z : List Frame → Array Value → State → State → Prop} {σ : Sg} {μ : Mg} {M : Me} {d : Nat} (h : HX G Λ ao ad σ μ M) (hj : JR n σ μ) (hn : n + 5000 ≤ 2 ^ 24) (hn10 : 10 ≤ n) (hi : i + 4 ≤ scL G) (hl : scL G ≤ 2048) (kk : ∀ σ2 μ2 M2, HX G Λ ao ad σ2 μ2 M2 → JR (n + 5000) σ2 μ2 → AW G (XL tb k0 n0 Z) (d + 15) K N 2111 [some (.ref (scA G)), some (.ref (Λ (0, 0, 0))), some (.ref (Λ (10, 0, 0))), some (.ref ao), some (.ref ad), some (.int (nI i)), none, none, none] [] M2) : AW G (XL tb k0 n0 Z) (d + 15) (K + 8) (N + 2400) 1494 [some (.ref (scA G)), some (.ref (Λ (0, 0, 0))), some (.ref (Λ (10, 0, 0))), some (.ref ao), some (.ref ad), some (.int (nI i)), none, none, none] [] M := by
  obtain ⟨z, hz8, hz⟩ := hj.z
  have ok := hj.oks hn
  have okf := hj.okf hn
  have lrn := hj.en.lrn hj.iv.sh hj.iv.so hj.iv.h11
  have hlen : (gStr (gR σ 0 11)).length ≤ 882 := by
    rw [← str_let, mStT, List.length_map]; exact lrn.2.2.2.2
  have bk := bks hj.t.ck K
  have bn := bns (gC σ) N
  refine r_aload_n (q := 1495) dL_law_1494 rfl rfl ?_
  refine r_cV (k' := pKk (gC σ)) (n' := pNn (gC σ)) (k2 := K) (n2 := N) (q := 1498) (As := []) wc_L_209 rfl im_X8_strip se_X8_strip h.x rfl rfl (Nat.le_of_ble_eq_true rfl) bk bn dL_law_1495 rfl rfl (s_X8_strip (σ := σ) (t := gT σ) (c := gC σ) (show RX G Λ M (sT σ (gT σ) (gC σ)) M from h.1) h.2.2.2.2 hj.t.ck (fun s hs => (hj.iv.so.td s hs).2) hlen fun c' M' hc' hM' => ?_)
  have h2 := h.cls hM'
  refine r_aload_n (q := 1499) dL_law_1498 rfl rfl ?_
  refine r_cV (q := 1502) (As := []) wc_L_212 rfl im_X9_strip se_X9_strip h2.m rfl rfl (Nat.le_of_ble_eq_true rfl) (Nat.le_of_eq (Nat.zero_add _)) (Nat.le_of_eq (Nat.zero_add _)) dL_law_1499 rfl rfl (s_X9_strip h2.2.1 rfl lrn fun M2 T T2 hT hM2 => ?_)
  have h3 := h2.mod hM2
  have he : nI (gStr (gR σ 0 11)).length = nI (mStT (gLet ((gS σ 0).1 11))).length := by rw [show gStr (gR σ 0 11) = mStT (gLet ((gS σ 0).1 11)) from (str_let _).symm]
  refine r_icmp_eq (q := 1505) (t := 2111) dL_law_1502 (by decide) rfl (fun _ => ?_) (fun c => absurd he c)
  exact AW.less (by omega) (by omega) (kk _ _ _ h3 (by
      rw [str_let] at hT ⊢
      exact (j_tx (((hj.q4).sa (by decide)).sn (by decide)) hc' hT (Nat.le_trans hlen (by decide)) str_lt).up (by omega)))
theorem lc_35 {G : En} {tb : List ExceptionTableEntry × String} {Λ : Ob → Nat} {ao ad k0 n0 K N n i : Nat} {Z : List Frame → Array Value → State → State → Prop} {σ : Sg} {μ : Mg} {M : Me} {d : Nat} (h : HX G Λ ao ad σ μ M) (hj : JR n σ μ) (hn : n + 5000 ≤ 2 ^ 24) (hn10 : 10 ≤ n) (hi : i + 4 ≤ scL G) (hl : scL G ≤ 2048) (kk : ∀ σ2 μ2 M2, HX G Λ ao ad σ2 μ2 M2 → JR (n + 5000) σ2 μ2 → AW G (XL tb k0 n0 Z) (d + 15) K N 2111 [some (.ref (scA G)), some (.ref (Λ (0, 0, 0))), some (.ref (Λ (10, 0, 0))), some (.ref ao), some (.ref ad), some (.int (nI i)), none, none, none] [] M2) : AW G (XL tb k0 n0 Z) (d + 15) (K + 8) (N + 2400) 2054 [some (.ref (scA G)), some (.ref (Λ (0, 0, 0))), some (.ref (Λ (10, 0, 0))), some (.ref ao), some (.ref ad), some (.int (nI i)), none, none, none] [] M := by
  obtain ⟨z, hz8, hz⟩ := hj.z
  refine r_aload_n (q := 2055) dL_law_2054 rfl rfl ?_
  refine r_cV (k2 := K + 8) (n2 := N + 2400) (q := 2058) (As := []) wc_L_246 rfl im_X8_snapshot se_X8_snapshot h.x rfl rfl (Nat.le_of_ble_eq_true rfl) (Nat.le_of_eq (Nat.zero_add _)) (Nat.le_of_eq (Nat.zero_add _)) dL_law_2055 rfl rfl (s_X8_snapshot h.1 fun M' hM' => ?_)
  have h2 := h.cls hM'
  refine r_aload_n (q := 2059) dL_law_2058 rfl rfl ?_
  refine r_cV (q := 2062) (As := []) wc_L_249 rfl im_X9_snapshot se_X9_snapshot h2.m rfl rfl (Nat.le_of_ble_eq_true rfl) (Nat.le_of_eq (Nat.zero_add _)) (Nat.le_of_eq (Nat.zero_add _)) dL_law_2059 rfl rfl (s_X9_snapshot h2.2.1 fun M2 hM2 => ?_)
  have h3 := h2.mod hM2
  have he : _ = _ := congrArg nI (j_snap hj).2.symm
  refine r_icmp_eq (q := 2065) (t := 2111) dL_law_2062 (by decide) rfl (fun _ => ?_) (fun c => absurd he c)
  exact AW.less (by omega) (by omega) (kk _ _ _ h3 ((j_snap hj).1.up (by omega)))
end W99d
