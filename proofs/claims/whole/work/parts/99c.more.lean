/-! THE LAW: the other cases with a helper -/
section W99c
theorem bI_inj : bI true ≠ bI false := by decide
theorem RX.t128 {G : En} {Λ : Ob → Nat} {ρ M : Me} {σ : Sg} (h : RX G Λ ρ σ M) : ∀ x ∈ gT σ, x < 128 := by
  obtain ⟨q, ml, f, a, b, c, d, e, r⟩ := h.2.2.2.2.2.2.2.1
  exact e
theorem gTx_len {σ : Sg} {l : Nat} (hw : ∀ x ∈ gR σ 0 0, x < 448) : (gTx σ l).length ≤ 1000 := by
  have hd : ∀ i, (digs i).length ≤ 2 := fun i => by
    unfold digs
    split
    · exact Nat.le_succ 1
    · exact Nat.le_refl 2
  have h1 : (gR σ 0 0).getD l 0 < 448 := by
    by_cases hl : l < (gR σ 0 0).length
    · rw [getD_lt hl]; exact hw _ (List.getElem_mem hl)
    · rw [List.getD_eq_getElem?_getD, List.getElem?_eq_none (by omega)]; decide
  have h2 : (gHd1 σ l).length ≤ 20 := by
    have := hd l
    rw [gHd1, List.length_append]
    split
    · show (digs l).length + 0 ≤ 20; omega
    · rw [List.length_append, wl_len]; show (digs l).length + (1 + _) ≤ 20; omega
  have h3 : (gMu σ l).length ≤ 20 := by
    rw [gMu]
    split
    · exact Nat.zero_le _
    · rw [List.length_append]
      have := hd ((gR σ 0 4).getD l 0)
      show 1 + _ ≤ 20; omega
  have e1 := hd ((gR σ 0 1).getD l 0)
  have e2 := hd ((gR σ 0 2).getD l 0)
  rw [gTx, List.length_append, List.length_append, List.length_append, List.length_append, List.length_append]
  show (gHd1 σ l).length + 1 + _ + 1 + _ + _ ≤ 1000
  omega
theorem JR.z6 {n z z' : Nat} {σ : Sg} {μ : Mg} (h : JR n σ μ) (hz8 : z ≤ 8) (hz : gN μ 5 = nI z) (h8 : z' ≤ 8) (h6 : gM σ 6 = nI z') : z' = z := by
  obtain ⟨o, w, a, b, c, d, e, f⟩ := h.hs
  have e1 := congrArg Int32.toNatClampNeg (h6.symm.trans d)
  have e2 := congrArg Int32.toNatClampNeg (e.symm.trans hz)
  rw [nI_c7 (by omega), nI_c7 (by omega)] at e1 e2
  omega
theorem JR.b12 {n : Nat} {σ : Sg} {μ : Mg} (h : JR n σ μ) : ∃ b, gN μ 12 = bI b := by
  rcases h.sv with ⟨-, b⟩ | ⟨-, b, -⟩
  · exact ⟨_, b⟩
  · exact ⟨_, b⟩
theorem ch_in {t : List Nat} {i : Int32} (hl : t.length ≤ 1000) (e : (qChar t i).1 = 0) : ∃ j, j < t.length ∧ i = nI j ∧ inI i (nI 0) (nI t.length - nI 1) = true ∧ (qChar t i).2 = nI (t.getD j 0) := by
  by_cases h1 : i < 0
  · rw [qChar, if_pos h1] at e; exact absurd e (by decide)
  by_cases h2 : nI t.length ≤ i
  · rw [qChar, if_neg h1, if_pos h2] at e; exact absurd e (by decide)
  obtain ⟨j, hj, rfl⟩ := nI_nat h1
  have hjl : j < t.length := Decidable.byContradiction fun g => h2 ((nI_leI (by omega) hj).mpr (by omega))
  refine ⟨j, hjl, rfl, ?_, ?_⟩
  · have e1 : ¬ nI j < nI 0 := fun g => absurd ((nI_ltI hj (by decide)).mp g) (Nat.not_lt_zero _)
    have e2 : ¬ nI (t.length - 1) < nI j := fun g => by have := (nI_ltI (by omega) hj).mp g; omega
    rw [n_sub (by omega), inI, Bool.and_eq_true, decide_eq_true_eq, decide_eq_true_eq]
    exact ⟨e1, e2⟩
  · rw [qChar, if_neg h1, if_neg h2, nI_c7 hj]
theorem ch_out {t : List Nat} {i : Int32} (hl : t.length ≤ 1000) (e : (qChar t i).1 ≠ 0) : (qChar t i).1 = 1 ∧ ∀ j, j < t.length → i ≠ nI j := by
  by_cases h1 : i < 0
  · refine ⟨by rw [qChar, if_pos h1], fun j hj g => ?_⟩
    rw [g] at h1; exact nI_pos (by omega) h1
  by_cases h2 : nI t.length ≤ i
  · refine ⟨by rw [qChar, if_neg h1, if_pos h2], fun j hj g => ?_⟩
    rw [g] at h2
    have := (nI_leI (by omega) (by omega)).mp h2
    omega
  · rw [qChar, if_neg h1, if_neg h2] at e; exact absurd rfl e
theorem tx_0 {σ : Sg} {l : Int32} (e : (qText σ l).1 = 0) : isL l = true ∧ (qText σ l).2 = nI (gTx σ l.toNatClampNeg).length := by
  cases hl : isL l with
  | false => rw [qText, if_pos hl] at e; exact absurd e (by decide)
  | true => exact ⟨rfl, by rw [qText, if_neg (by rw [hl]; decide)]⟩
theorem tx_1 {σ : Sg} {l : Int32} (e : (qText σ l).1 ≠ 0) : isL l = false ∧ (qText σ l).1 = 1 := by
  cases hl : isL l with
  | false => exact ⟨rfl, by rw [qText, if_pos hl]⟩
  | true => rw [qText, if_neg (by rw [hl]; decide)] at e; exact absurd rfl e
theorem lc_19 {G : En} {tb : List ExceptionTableEntry × String} {Λ : Ob → Nat} {ao ad k0 n0 K N n i : Nat} {Z : List Frame → Array Value → State → State → Prop} {σ : Sg} {μ : Mg} {M : Me} {d : Nat} (h : HX G Λ ao ad σ μ M) (hj : JR n σ μ) (hn : n + 5000 ≤ 2 ^ 24) (hn10 : 10 ≤ n) (hi : i + 4 ≤ scL G) (hl : scL G ≤ 2048) (kk : ∀ σ2 μ2 M2, HX G Λ ao ad σ2 μ2 M2 → JR (n + 5000) σ2 μ2 → AW G (XL tb k0 n0 Z) (d + 15) K N 2111 [some (.ref (scA G)), some (.ref (Λ (0, 0, 0))), some (.ref (Λ (10, 0, 0))), some (.ref ao), some (.ref ad), some (.int (nI i)), none, none, none] [] M2) : AW G (XL tb k0 n0 Z) (d + 15) (K + 8) (N + 2400) 1245 [some (.ref (scA G)), some (.ref (Λ (0, 0, 0))), some (.ref (Λ (10, 0, 0))), some (.ref ao), some (.ref ad), some (.int (nI i)), none, none, none] [] M := by
  obtain ⟨z, hz8, hz⟩ := hj.z
  have ok := hj.oks hn
  have okf := hj.okf hn
  have lrn := hj.en.lrn hj.iv.sh hj.iv.so hj.iv.h11
  have tail : ∀ (k : Nat) (y v : Int32) (σ2 : Sg) (M1 : Me) (μ2 : Mg) (M2 : Me), k < 4 → HX G Λ ao ad σ2 μ M1 → (k = 0 → oCell G ao y M1) → RM G Λ M1 μ2 M2 → JR (n + 5000) σ2 μ2 ∧ gN μ2 4 = nI k ∧ (k = 0 → y = v) → AW G (XL tb k0 n0 Z) (d + 15) (K + 7) (N + 2394) 1268 [some (.ref (scA G)), some (.ref (Λ (0, 0, 0))), some (.ref (Λ (10, 0, 0))), some (.ref ao), some (.ref ad), some (.int (nI i)), some (.int (nI k)), none, none] [.int v] M2 := by
    intro k y v σ2 M1 μ2 M2 hk h1 ho hM2 hr
    have h2 := h1.mod hM2
    refine r_istore (q := 1270) dL_law_1268 (Nat.le_of_ble_eq_true rfl) rfl rfl ?_
    refine r_aload_n (q := 1271) dL_law_1270 rfl rfl ?_
    refine r_cV (q := 1274) (As := []) wc_L_131 rfl im_X9_thrown se_X9_thrown h2.m rfl rfl (Nat.le_of_ble_eq_true rfl) (Nat.le_of_eq (Nat.zero_add _)) (Nat.le_of_eq (Nat.zero_add _)) dL_law_1271 rfl rfl (s_X9_thrown h2.2.1 ?_)
    refine r_iload (q := 1276) dL_law_1274 rfl rfl ?_
    refine r_icmp_eq (q := 1279) (t := 1281) dL_law_1276 (by decide) rfl (fun _ => ?_) (fun c => absurd hr.2.1 c)
    refine r_iload (q := 1283) dL_law_1281 rfl rfl ?_
    refine r_if_ne (q := 1286) (t := 1298) dL_law_1283 (by decide) rfl (fun c => ?_) (fun c => ?_)
    · refine r_goto (t := 2111) dL_law_1298 (by decide) ?_
      exact AW.forget (lv := [some (.ref (scA G)), some (.ref (Λ (0, 0, 0))), some (.ref (Λ (10, 0, 0))), some (.ref ao), some (.ref ad), some (.int (nI i)), none, none, none]) ⟨rfl, rfl, rfl, rfl, rfl, rfl, trivial⟩ (AW.less (by omega) (by omega) (kk _ _ _ h2 hr.1))
    · have k0 := nI_k0 k hk c
      obtain ⟨g, hg⟩ := (ho k0).mod hM2
      refine r_aload_n (q := 1287) dL_law_1286 rfl rfl ?_
      refine r_iconst (v := nI 0) (q := 1288) dL_law_1287 (by decide) rfl ?_
      refine r_lald (o := (12, 0, 0)) (q := 1289) hg vp_01 dL_law_1288 rfl ?_
      refine r_iload (q := 1291) dL_law_1289 rfl rfl ?_
      refine r_i2l (q := 1292) dL_law_1291 rfl ?_
      refine r_lcmp (q := 1293) dL_law_1292 rfl ?_
      rw [outv, hr.2.2 k0, lg_self]
      refine r_if_eq (q := 1296) (t := 1298) dL_law_1293 (by decide) rfl (fun _ => ?_) (fun c => absurd rfl c)
      refine r_goto (t := 2111) dL_law_1298 (by decide) ?_
      exact AW.forget (lv := [some (.ref (scA G)), some (.ref (Λ (0, 0, 0))), some (.ref (Λ (10, 0, 0))), some (.ref ao), some (.ref ad), some (.int (nI i)), none, none, none]) ⟨rfl, rfl, rfl, rfl, rfl, rfl, trivial⟩ (AW.less (by omega) (by omega) (kk _ _ _ h2 hr.1))
  have rest : ∀ (k : Nat) (y : Int32) (σ2 : Sg) (M1 : Me), k < 4 → HX G Λ ao ad σ2 μ M1 → (k = 0 → oCell G ao y M1) → (∀ T R, mRE (gA μ 0) (gLet ((gS σ 0).1 11)) (gA μ 5) = R → JR (n + 5000) σ2 (sA (sN (sA (sN μ 4 (nI (mqRd (gA μ 0) (gLet ((gS σ 0).1 11)) R (scF G (i + 1))).1)) 4 T) 15 (nI (gLet ((gS σ 0).1 11)).length)) 5 R) ∧ gN (sA (sN (sA (sN μ 4 (nI (mqRd (gA μ 0) (gLet ((gS σ 0).1 11)) R (scF G (i + 1))).1)) 4 T) 15 (nI (gLet ((gS σ 0).1 11)).length)) 5 R) 4 = nI k ∧ (k = 0 → y = (mqRd (gA μ 0) (gLet ((gS σ 0).1 11)) R (scF G (i + 1))).2)) → AW G (XL tb k0 n0 Z) (d + 15) (K + 7) (N + 2394) 1256 [some (.ref (scA G)), some (.ref (Λ (0, 0, 0))), some (.ref (Λ (10, 0, 0))), some (.ref ao), some (.ref ad), some (.int (nI i)), none, none, none] [.int (nI k)] M1 := by
    intro k y σ2 M1 hk h1 ho hr
    refine r_istore (q := 1258) dL_law_1256 (Nat.le_of_ble_eq_true rfl) rfl rfl ?_
    refine r_aload_n (q := 1259) dL_law_1258 rfl rfl ?_
    refine r_aload_n (q := 1260) dL_law_1259 rfl rfl ?_
    refine r_iload (q := 1262) dL_law_1260 rfl rfl ?_
    refine r_iconst (v := nI 1) (q := 1263) dL_law_1262 (by decide) rfl ?_
    refine r_iadd (q := 1264) dL_law_1263 rfl ?_
    refine r_sc (q := 1265) (by omega) hl dL_law_1264 rfl ?_
    refine r_cV (q := 1268) (As := [.int _]) wc_L_195 rfl im_X9_reading se_X9_reading h1.m rfl rfl (Nat.le_of_ble_eq_true rfl) (Nat.le_of_eq (Nat.zero_add _)) (Nat.le_of_eq (Nat.zero_add _)) dL_law_1265 rfl rfl (s_X9_reading h1.2.1 rfl lrn fun M2 T R eR hM2 => ?_)
    exact tail k y _ σ2 M1 _ M2 hk h1 ho hM2 (hr T R eR)
  refine r_aload_n (q := 1246) dL_law_1245 rfl rfl ?_
  refine r_aload_n (q := 1247) dL_law_1246 rfl rfl ?_
  refine r_iload (q := 1249) dL_law_1247 rfl rfl ?_
  refine r_iconst (v := nI 1) (q := 1250) dL_law_1249 (by decide) rfl ?_
  refine r_iadd (q := 1251) dL_law_1250 rfl ?_
  refine r_sc (q := 1252) (by omega) hl dL_law_1251 rfl ?_
  refine r_aload_n (q := 1253) dL_law_1252 rfl rfl ?_
  have bk := bk1 K
  have bn := bn6 N
  refine r_invSH (X := XL tb k0 n0 Z) (q := 1256) (k' := 1) (n' := 6) (k2 := K + 7) (n2 := N + 2394) (As := [.ref _, .int _, .ref _]) wh_reading st_L_reading rfl (Nat.le_of_ble_eq_true rfl) bk bn dL_law_1253 rfl rfl (h_L_reading h.x fun Q1 QX1 hq hx => ?_)
  have es := same_read (σ := σ) hj.en hj.iv.sh lrn.2.2.2.2 (gA μ 5) (scF G (i + 1))
  refine s_X8_reading h.1 ok.2.1 lrn.2.2.2.2 (fun e S' M' hM' => ?_) (fun E e S' M' hM' => ?_)
  · have h2 := h.cls hM'
    obtain ⟨g, hg⟩ := h2.c0
    exact hq _ M' ⟨g, hg, rest 0 _ _ _ (by decide) h2.out (fun _ => oM_cell) fun T R eR => ⟨((((hj.s12.q4).sa (by decide)).sn (by decide)).sa (by decide)).up (by omega), by rw [gN_sA, gN_sNn (by decide), gN_sA, gN_sNs, ← eR]; exact congrArg nI ((congrArg Prod.fst es).trans e), fun _ => by rw [← eR]; exact (congrArg Prod.snd es).symm⟩⟩
  · have h2 := h.cls hM'
    exact hx E M' _ e (rest _ 0 _ M' (Nat.lt_of_le_of_lt (exL_lt e).2 (by decide)) h2 (fun e0 => absurd e0 (exL_lt e).1) fun T R eR => ⟨((((hj.s12.q4).sa (by decide)).sn (by decide)).sa (by decide)).up (by omega), by rw [gN_sA, gN_sNn (by decide), gN_sA, gN_sNs, ← eR]; exact congrArg nI (congrArg Prod.fst es), fun e0 => absurd e0 (exL_lt e).1⟩)
theorem lc_27 {G : En} {tb : List ExceptionTableEntry × String} {Λ : Ob → Nat} {ao ad k0 n0 K N n i : Nat} {Z : List Frame → Array Value → State → State → Prop} {σ : Sg} {μ : Mg} {M : Me} {d : Nat} (h : HX G Λ ao ad σ μ M) (hj : JR n σ μ) (hn : n + 5000 ≤ 2 ^ 24) (hn10 : 10 ≤ n) (hi : i + 4 ≤ scL G) (hl : scL G ≤ 2048) (kk : ∀ σ2 μ2 M2, HX G Λ ao ad σ2 μ2 M2 → JR (n + 5000) σ2 μ2 → AW G (XL tb k0 n0 Z) (d + 15) K N 2111 [some (.ref (scA G)), some (.ref (Λ (0, 0, 0))), some (.ref (Λ (10, 0, 0))), some (.ref ao), some (.ref ad), some (.int (nI i)), none, none, none] [] M2) : AW G (XL tb k0 n0 Z) (d + 15) (K + 8) (N + 2400) 1635 [some (.ref (scA G)), some (.ref (Λ (0, 0, 0))), some (.ref (Λ (10, 0, 0))), some (.ref ao), some (.ref ad), some (.int (nI i)), none, none, none] [] M := by
  obtain ⟨z, hz8, hz⟩ := hj.z
  have ok := hj.oks hn
  have okf := hj.okf hn
  have lrn := hj.en.lrn hj.iv.sh hj.iv.so hj.iv.h11
  have tail : ∀ (k : Nat) (y v : Int32) (σ2 : Sg) (M1 : Me) (μ2 : Mg) (M2 : Me), k < 4 → HX G Λ ao ad σ2 μ M1 → (k = 0 → oCell G ao y M1) → RM G Λ M1 μ2 M2 → JR (n + 5000) σ2 μ2 ∧ gN μ2 4 = nI k ∧ (k = 0 → y = v) → AW G (XL tb k0 n0 Z) (d + 15) (K + 7) (N + 2394) 1658 [some (.ref (scA G)), some (.ref (Λ (0, 0, 0))), some (.ref (Λ (10, 0, 0))), some (.ref ao), some (.ref ad), some (.int (nI i)), some (.int (nI k)), none, none] [.int v] M2 := by
    intro k y v σ2 M1 μ2 M2 hk h1 ho hM2 hr
    have h2 := h1.mod hM2
    refine r_istore (q := 1660) dL_law_1658 (Nat.le_of_ble_eq_true rfl) rfl rfl ?_
    refine r_aload_n (q := 1661) dL_law_1660 rfl rfl ?_
    refine r_cV (q := 1664) (As := []) wc_L_131 rfl im_X9_thrown se_X9_thrown h2.m rfl rfl (Nat.le_of_ble_eq_true rfl) (Nat.le_of_eq (Nat.zero_add _)) (Nat.le_of_eq (Nat.zero_add _)) dL_law_1661 rfl rfl (s_X9_thrown h2.2.1 ?_)
    refine r_iload (q := 1666) dL_law_1664 rfl rfl ?_
    refine r_icmp_eq (q := 1669) (t := 1671) dL_law_1666 (by decide) rfl (fun _ => ?_) (fun c => absurd hr.2.1 c)
    refine r_iload (q := 1673) dL_law_1671 rfl rfl ?_
    refine r_if_ne (q := 1676) (t := 1688) dL_law_1673 (by decide) rfl (fun c => ?_) (fun c => ?_)
    · refine r_goto (t := 2111) dL_law_1688 (by decide) ?_
      exact AW.forget (lv := [some (.ref (scA G)), some (.ref (Λ (0, 0, 0))), some (.ref (Λ (10, 0, 0))), some (.ref ao), some (.ref ad), some (.int (nI i)), none, none, none]) ⟨rfl, rfl, rfl, rfl, rfl, rfl, trivial⟩ (AW.less (by omega) (by omega) (kk _ _ _ h2 hr.1))
    · have k0 := nI_k0 k hk c
      obtain ⟨g, hg⟩ := (ho k0).mod hM2
      refine r_aload_n (q := 1677) dL_law_1676 rfl rfl ?_
      refine r_iconst (v := nI 0) (q := 1678) dL_law_1677 (by decide) rfl ?_
      refine r_lald (o := (12, 0, 0)) (q := 1679) hg vp_01 dL_law_1678 rfl ?_
      refine r_iload (q := 1681) dL_law_1679 rfl rfl ?_
      refine r_i2l (q := 1682) dL_law_1681 rfl ?_
      refine r_lcmp (q := 1683) dL_law_1682 rfl ?_
      rw [outv, hr.2.2 k0, lg_self]
      refine r_if_eq (q := 1686) (t := 1688) dL_law_1683 (by decide) rfl (fun _ => ?_) (fun c => absurd rfl c)
      refine r_goto (t := 2111) dL_law_1688 (by decide) ?_
      exact AW.forget (lv := [some (.ref (scA G)), some (.ref (Λ (0, 0, 0))), some (.ref (Λ (10, 0, 0))), some (.ref ao), some (.ref ad), some (.int (nI i)), none, none, none]) ⟨rfl, rfl, rfl, rfl, rfl, rfl, trivial⟩ (AW.less (by omega) (by omega) (kk _ _ _ h2 hr.1))
  have rest : ∀ (k : Nat) (y : Int32) (σ2 : Sg) (M1 : Me), k < 4 → HX G Λ ao ad σ2 μ M1 → (k = 0 → oCell G ao y M1) → (∀ T v, JR (n + 5000) σ2 (sN (sA (sN μ 4 (nI (mqAc μ (gLet ((gS σ 0).1 11)) (scF G (i + 1))).1)) 4 T) 15 v) ∧ gN (sN (sA (sN μ 4 (nI (mqAc μ (gLet ((gS σ 0).1 11)) (scF G (i + 1))).1)) 4 T) 15 v) 4 = nI k ∧ (k = 0 → y = (mqAc μ (gLet ((gS σ 0).1 11)) (scF G (i + 1))).2)) → AW G (XL tb k0 n0 Z) (d + 15) (K + 7) (N + 2394) 1646 [some (.ref (scA G)), some (.ref (Λ (0, 0, 0))), some (.ref (Λ (10, 0, 0))), some (.ref ao), some (.ref ad), some (.int (nI i)), none, none, none] [.int (nI k)] M1 := by
    intro k y σ2 M1 hk h1 ho hr
    refine r_istore (q := 1648) dL_law_1646 (Nat.le_of_ble_eq_true rfl) rfl rfl ?_
    refine r_aload_n (q := 1649) dL_law_1648 rfl rfl ?_
    refine r_aload_n (q := 1650) dL_law_1649 rfl rfl ?_
    refine r_iload (q := 1652) dL_law_1650 rfl rfl ?_
    refine r_iconst (v := nI 1) (q := 1653) dL_law_1652 (by decide) rfl ?_
    refine r_iadd (q := 1654) dL_law_1653 rfl ?_
    refine r_sc (q := 1655) (by omega) hl dL_law_1654 rfl ?_
    refine r_cV (q := 1658) (As := [.int _]) wc_L_222 rfl im_X9_account se_X9_account h1.m rfl rfl (Nat.le_of_ble_eq_true rfl) (Nat.le_of_eq (Nat.zero_add _)) (Nat.le_of_eq (Nat.zero_add _)) dL_law_1655 rfl rfl (s_X9_account h1.2.1 lrn fun M2 T v hM2 => ?_)
    exact tail k y _ σ2 M1 _ M2 hk h1 ho hM2 (hr T v)
  refine r_aload_n (q := 1636) dL_law_1635 rfl rfl ?_
  refine r_aload_n (q := 1637) dL_law_1636 rfl rfl ?_
  refine r_iload (q := 1639) dL_law_1637 rfl rfl ?_
  refine r_iconst (v := nI 1) (q := 1640) dL_law_1639 (by decide) rfl ?_
  refine r_iadd (q := 1641) dL_law_1640 rfl ?_
  refine r_sc (q := 1642) (by omega) hl dL_law_1641 rfl ?_
  refine r_aload_n (q := 1643) dL_law_1642 rfl rfl ?_
  have bk := bk1 K
  have bn := bn6 N
  refine r_invSH (X := XL tb k0 n0 Z) (q := 1646) (k' := 1) (n' := 6) (k2 := K + 7) (n2 := N + 2394) (As := [.ref _, .int _, .ref _]) wh_account st_L_account rfl (Nat.le_of_ble_eq_true rfl) bk bn dL_law_1643 rfl rfl (h_L_account h.x fun Q1 QX1 hq hx => ?_)
  have e65 : gN μ 5 = gM σ 6 := by
    obtain ⟨o, w, a, b, c, d, e, f⟩ := hj.hs
    rw [d, e]
  have es := same_acc hj.en hj.iv.sh (μ := μ) (σ := σ) rfl rfl hj.t.fl e65 (scF G (i + 1))
  refine s_X8_account h.1 (fun e => ?_) (fun E e => ?_)
  · obtain ⟨g, hg⟩ := h.c0
    exact hq _ M ⟨g, hg, rest 0 _ σ _ (by decide) h.out (fun _ => oM_cell) fun T v => ⟨(((hj.q4).sa (by decide)).sn (by decide)).up (by omega), by rw [gN_sNn (by decide), gN_sA, gN_sNs, es, e], fun _ => by rw [es]⟩⟩
  · exact hx E M _ e (rest _ 0 σ M (Nat.lt_of_le_of_lt (exL_lt e).2 (by decide)) h (fun e0 => absurd e0 (exL_lt e).1) fun T v => ⟨(((hj.q4).sa (by decide)).sn (by decide)).up (by omega), by rw [gN_sNn (by decide), gN_sA, gN_sNs, es], fun e0 => absurd e0 (exL_lt e).1⟩)
theorem lc_23 {G : En} {tb : List ExceptionTableEntry × String} {Λ : Ob → Nat} {ao ad k0 n0 K N n i : Nat} {Z : List Frame → Array Value → State → State → Prop} {σ : Sg} {μ : Mg} {M : Me} {d : Nat} (h : HX G Λ ao ad σ μ M) (hj : JR n σ μ) (hn : n + 5000 ≤ 2 ^ 24) (hn10 : 10 ≤ n) (hi : i + 4 ≤ scL G) (hl : scL G ≤ 2048) (kk : ∀ σ2 μ2 M2, HX G Λ ao ad σ2 μ2 M2 → JR (n + 5000) σ2 μ2 → AW G (XL tb k0 n0 Z) (d + 15) K N 2111 [some (.ref (scA G)), some (.ref (Λ (0, 0, 0))), some (.ref (Λ (10, 0, 0))), some (.ref ao), some (.ref ad), some (.int (nI i)), none, none, none] [] M2) : AW G (XL tb k0 n0 Z) (d + 15) (K + 8) (N + 2400) 1438 [some (.ref (scA G)), some (.ref (Λ (0, 0, 0))), some (.ref (Λ (10, 0, 0))), some (.ref ao), some (.ref ad), some (.int (nI i)), none, none, none] [] M := by
  obtain ⟨z, hz8, hz⟩ := hj.z
  have ok := hj.oks hn
  have okf := hj.okf hn
  have hb25 : ∀ l, l < 7 → lF (gA μ 0) l 2 < 100 ∧ lF (gA μ 0) l 3 < 100 ∧ lF (gA μ 0) l 5 < 100 := fun l hl7 => by
    rw [hj.en.ln l hl7 2 (by decide) (by decide), hj.en.ln l hl7 3 (by decide) (by decide), hj.en.ln l hl7 5 (by decide) (by decide)]
    have e0 : ((gS σ 0).1 1).getD l 0 ≤ 9 := getD_le (fun x hx => Nat.le_of_lt_succ (hj.iv.sh.pr x hx)) l
    have e1 := getD_le hj.iv.sh.st l
    have e2 := getD_le hj.iv.sh.mu l
    exact ⟨Nat.lt_of_le_of_lt e0 (by decide), Nat.lt_of_le_of_lt e1 (by decide), Nat.lt_of_le_of_lt e2 (by decide)⟩
  have tail : ∀ (k : Nat) (y v : Int32) (σ2 : Sg) (M1 : Me) (μ2 : Mg) (M2 : Me), k < 4 → HX G Λ ao ad σ2 μ M1 → (k = 0 → oCell G ao y M1) → RM G Λ M1 μ2 M2 → JR (n + 5000) σ2 μ2 ∧ gN μ2 4 = nI k ∧ (k = 0 → y = v) → AW G (XL tb k0 n0 Z) (d + 15) (K + 7) (N + 2394) 1461 [some (.ref (scA G)), some (.ref (Λ (0, 0, 0))), some (.ref (Λ (10, 0, 0))), some (.ref ao), some (.ref ad), some (.int (nI i)), some (.int (nI k)), none, none] [.int v] M2 := by
    intro k y v σ2 M1 μ2 M2 hk h1 ho hM2 hr
    have h2 := h1.mod hM2
    refine r_istore (q := 1463) dL_law_1461 (Nat.le_of_ble_eq_true rfl) rfl rfl ?_
    refine r_aload_n (q := 1464) dL_law_1463 rfl rfl ?_
    refine r_cV (q := 1467) (As := []) wc_L_131 rfl im_X9_thrown se_X9_thrown h2.m rfl rfl (Nat.le_of_ble_eq_true rfl) (Nat.le_of_eq (Nat.zero_add _)) (Nat.le_of_eq (Nat.zero_add _)) dL_law_1464 rfl rfl (s_X9_thrown h2.2.1 ?_)
    refine r_iload (q := 1469) dL_law_1467 rfl rfl ?_
    refine r_icmp_eq (q := 1472) (t := 1474) dL_law_1469 (by decide) rfl (fun _ => ?_) (fun c => absurd hr.2.1 c)
    refine r_iload (q := 1476) dL_law_1474 rfl rfl ?_
    refine r_if_ne (q := 1479) (t := 1491) dL_law_1476 (by decide) rfl (fun c => ?_) (fun c => ?_)
    · refine r_goto (t := 2111) dL_law_1491 (by decide) ?_
      exact AW.forget (lv := [some (.ref (scA G)), some (.ref (Λ (0, 0, 0))), some (.ref (Λ (10, 0, 0))), some (.ref ao), some (.ref ad), some (.int (nI i)), none, none, none]) ⟨rfl, rfl, rfl, rfl, rfl, rfl, trivial⟩ (AW.less (by omega) (by omega) (kk _ _ _ h2 hr.1))
    · have k0 := nI_k0 k hk c
      obtain ⟨g, hg⟩ := (ho k0).mod hM2
      refine r_aload_n (q := 1480) dL_law_1479 rfl rfl ?_
      refine r_iconst (v := nI 0) (q := 1481) dL_law_1480 (by decide) rfl ?_
      refine r_lald (o := (12, 0, 0)) (q := 1482) hg vp_01 dL_law_1481 rfl ?_
      refine r_iload (q := 1484) dL_law_1482 rfl rfl ?_
      refine r_i2l (q := 1485) dL_law_1484 rfl ?_
      refine r_lcmp (q := 1486) dL_law_1485 rfl ?_
      rw [outv, hr.2.2 k0, lg_self]
      refine r_if_eq (q := 1489) (t := 1491) dL_law_1486 (by decide) rfl (fun _ => ?_) (fun c => absurd rfl c)
      refine r_goto (t := 2111) dL_law_1491 (by decide) ?_
      exact AW.forget (lv := [some (.ref (scA G)), some (.ref (Λ (0, 0, 0))), some (.ref (Λ (10, 0, 0))), some (.ref ao), some (.ref ad), some (.int (nI i)), none, none, none]) ⟨rfl, rfl, rfl, rfl, rfl, rfl, trivial⟩ (AW.less (by omega) (by omega) (kk _ _ _ h2 hr.1))
  have rest : ∀ (k : Nat) (y : Int32) (σ2 : Sg) (M1 : Me), k < 4 → HX G Λ ao ad σ2 μ M1 → (k = 0 → oCell G ao y M1) → ((isL (scF G (i + 1)) = false → JR (n + 5000) σ2 (sN μ 4 (nI 1)) ∧ gN (sN μ 4 (nI 1)) 4 = nI k ∧ (k = 0 → y = nI 0)) ∧ ∀ j, j < 7 → (scF G (i + 1)) = nI j → ∀ T, LTo (mTx (gA μ 0) j) T → JR (n + 5000) σ2 (tM (sN μ 4 (nI 0)) T (mTx (gA μ 0) j)) ∧ gN (tM (sN μ 4 (nI 0)) T (mTx (gA μ 0) j)) 4 = nI k ∧ (k = 0 → y = nI (mTx (gA μ 0) j).length)) → AW G (XL tb k0 n0 Z) (d + 15) (K + 7) (N + 2394) 1449 [some (.ref (scA G)), some (.ref (Λ (0, 0, 0))), some (.ref (Λ (10, 0, 0))), some (.ref ao), some (.ref ad), some (.int (nI i)), none, none, none] [.int (nI k)] M1 := by
    intro k y σ2 M1 hk h1 ho hr
    refine r_istore (q := 1451) dL_law_1449 (Nat.le_of_ble_eq_true rfl) rfl rfl ?_
    refine r_aload_n (q := 1452) dL_law_1451 rfl rfl ?_
    refine r_aload_n (q := 1453) dL_law_1452 rfl rfl ?_
    refine r_iload (q := 1455) dL_law_1453 rfl rfl ?_
    refine r_iconst (v := nI 1) (q := 1456) dL_law_1455 (by decide) rfl ?_
    refine r_iadd (q := 1457) dL_law_1456 rfl ?_
    refine r_sc (q := 1458) (by omega) hl dL_law_1457 rfl ?_
    refine r_cV (q := 1461) (As := [.int _]) wc_L_208 rfl im_X9_text se_X9_text h1.m rfl rfl (Nat.le_of_ble_eq_true rfl) (Nat.le_of_eq (Nat.zero_add _)) (Nat.le_of_eq (Nat.zero_add _)) dL_law_1458 rfl rfl (s_X9_text h1.2.1 rfl okf.1 hb25 (fun hb M2 hM2 => ?_) (fun j hj7 ej M2 T hT hM2 => ?_))
    · exact tail k y _ σ2 M1 _ M2 hk h1 ho hM2 (hr.1 hb)
    · exact tail k y _ σ2 M1 _ M2 hk h1 ho hM2 (hr.2 j hj7 ej T hT)
  refine r_aload_n (q := 1439) dL_law_1438 rfl rfl ?_
  refine r_aload_n (q := 1440) dL_law_1439 rfl rfl ?_
  refine r_iload (q := 1442) dL_law_1440 rfl rfl ?_
  refine r_iconst (v := nI 1) (q := 1443) dL_law_1442 (by decide) rfl ?_
  refine r_iadd (q := 1444) dL_law_1443 rfl ?_
  refine r_sc (q := 1445) (by omega) hl dL_law_1444 rfl ?_
  refine r_aload_n (q := 1446) dL_law_1445 rfl rfl ?_
  have bk := bk1 K
  have bn := bn6 N
  refine r_invSH (X := XL tb k0 n0 Z) (q := 1449) (k' := 1) (n' := 6) (k2 := K + 7) (n2 := N + 2394) (As := [.ref _, .int _, .ref _]) wh_text st_L_text rfl (Nat.le_of_ble_eq_true rfl) bk bn dL_law_1446 rfl rfl (h_L_text h.x fun Q1 QX1 hq hx => ?_)
  refine s_X8_text (σ := σ) (t := gT σ) (c := gC σ) (show RX G Λ M (sT σ (gT σ) (gC σ)) M from h.1) h.2.2.2.2 ok.2.1 hj.iv.sh.pr (fun x hx => Nat.lt_succ_of_le (hj.iv.sh.st x hx)) (fun x hx => Nat.lt_succ_of_le (hj.iv.sh.mu x hx)) hj.t.ck (fun e M' hM' => ?_) (fun E e => ?_)
  · have h2 := h.cls hM'
    obtain ⟨g, hg⟩ := h2.c0
    obtain ⟨l1, l2⟩ := tx_0 e
    refine hq _ M' ⟨g, hg, rest 0 _ _ _ (by decide) h2.out (fun _ => oM_cell) ⟨fun hf => absurd hf (by rw [l1]; decide), fun j hj7 ej T hT => ?_⟩⟩
    have e1 : ((scF G (i + 1))).toNatClampNeg = j := by rw [ej, nI_c7 (by omega)]
    have e2 := same_txt (σ := σ) hj.en hj.iv.sh hj7
    rw [e2] at hT ⊢
    rw [l2, e1]
    rw [e1] at hM'
    exact ⟨(j_tx hj.q4 hj.t.ck hT (gTx_len ok.2.1) hM'.t128).up (by omega), by rw [tM, gN_sNn (by decide), gN_sA, gN_sNs], fun _ => rfl⟩
  · obtain ⟨l1, l2⟩ := tx_1 (exL_lt e).1
    exact hx E M _ e (rest _ 0 σ M (Nat.lt_of_le_of_lt (exL_lt e).2 (by decide)) h (fun e0 => absurd e0 (exL_lt e).1) ⟨fun _ => ⟨hj.q4.up (by omega), by rw [gN_sNs, l2], fun e0 => absurd e0 (exL_lt e).1⟩, fun j hj7 ej => absurd l1 (by rw [ej, isL_n hj7]; decide)⟩)
theorem lc_25 {G : En} {tb : List ExceptionTableEntry × String} {Λ : Ob → Nat} {ao ad k0 n0 K N n i : Nat} {Z : List Frame → Array Value → State → State → Prop} {σ : Sg} {μ : Mg} {M : Me} {d : Nat} (h : HX G Λ ao ad σ μ M) (hj : JR n σ μ) (hn : n + 5000 ≤ 2 ^ 24) (hn10 : 10 ≤ n) (hi : i + 4 ≤ scL G) (hl : scL G ≤ 2048) (kk : ∀ σ2 μ2 M2, HX G Λ ao ad σ2 μ2 M2 → JR (n + 5000) σ2 μ2 → AW G (XL tb k0 n0 Z) (d + 15) K N 2111 [some (.ref (scA G)), some (.ref (Λ (0, 0, 0))), some (.ref (Λ (10, 0, 0))), some (.ref ao), some (.ref ad), some (.int (nI i)), none, none, none] [] M2) : AW G (XL tb k0 n0 Z) (d + 15) (K + 8) (N + 2400) 1507 [some (.ref (scA G)), some (.ref (Λ (0, 0, 0))), some (.ref (Λ (10, 0, 0))), some (.ref ao), some (.ref ad), some (.int (nI i)), none, none, none] [] M := by
  obtain ⟨z, hz8, hz⟩ := hj.z
  have ok := hj.oks hn
  have okf := hj.okf hn
  have tail : ∀ (k : Nat) (y v : Int32) (σ2 : Sg) (M1 : Me) (μ2 : Mg) (M2 : Me), k < 4 → HX G Λ ao ad σ2 μ M1 → (k = 0 → oCell G ao y M1) → RM G Λ M1 μ2 M2 → JR (n + 5000) σ2 μ2 ∧ gN μ2 4 = nI k ∧ (k = 0 → y = v) → AW G (XL tb k0 n0 Z) (d + 15) (K + 7) (N + 2394) 1530 [some (.ref (scA G)), some (.ref (Λ (0, 0, 0))), some (.ref (Λ (10, 0, 0))), some (.ref ao), some (.ref ad), some (.int (nI i)), some (.int (nI k)), none, none] [.int v] M2 := by
    intro k y v σ2 M1 μ2 M2 hk h1 ho hM2 hr
    have h2 := h1.mod hM2
    refine r_istore (q := 1532) dL_law_1530 (Nat.le_of_ble_eq_true rfl) rfl rfl ?_
    refine r_aload_n (q := 1533) dL_law_1532 rfl rfl ?_
    refine r_cV (q := 1536) (As := []) wc_L_131 rfl im_X9_thrown se_X9_thrown h2.m rfl rfl (Nat.le_of_ble_eq_true rfl) (Nat.le_of_eq (Nat.zero_add _)) (Nat.le_of_eq (Nat.zero_add _)) dL_law_1533 rfl rfl (s_X9_thrown h2.2.1 ?_)
    refine r_iload (q := 1538) dL_law_1536 rfl rfl ?_
    refine r_icmp_eq (q := 1541) (t := 1543) dL_law_1538 (by decide) rfl (fun _ => ?_) (fun c => absurd hr.2.1 c)
    refine r_iload (q := 1545) dL_law_1543 rfl rfl ?_
    refine r_if_ne (q := 1548) (t := 1560) dL_law_1545 (by decide) rfl (fun c => ?_) (fun c => ?_)
    · refine r_goto (t := 2111) dL_law_1560 (by decide) ?_
      exact AW.forget (lv := [some (.ref (scA G)), some (.ref (Λ (0, 0, 0))), some (.ref (Λ (10, 0, 0))), some (.ref ao), some (.ref ad), some (.int (nI i)), none, none, none]) ⟨rfl, rfl, rfl, rfl, rfl, rfl, trivial⟩ (AW.less (by omega) (by omega) (kk _ _ _ h2 hr.1))
    · have k0 := nI_k0 k hk c
      obtain ⟨g, hg⟩ := (ho k0).mod hM2
      refine r_aload_n (q := 1549) dL_law_1548 rfl rfl ?_
      refine r_iconst (v := nI 0) (q := 1550) dL_law_1549 (by decide) rfl ?_
      refine r_lald (o := (12, 0, 0)) (q := 1551) hg vp_01 dL_law_1550 rfl ?_
      refine r_iload (q := 1553) dL_law_1551 rfl rfl ?_
      refine r_i2l (q := 1554) dL_law_1553 rfl ?_
      refine r_lcmp (q := 1555) dL_law_1554 rfl ?_
      rw [outv, hr.2.2 k0, lg_self]
      refine r_if_eq (q := 1558) (t := 1560) dL_law_1555 (by decide) rfl (fun _ => ?_) (fun c => absurd rfl c)
      refine r_goto (t := 2111) dL_law_1560 (by decide) ?_
      exact AW.forget (lv := [some (.ref (scA G)), some (.ref (Λ (0, 0, 0))), some (.ref (Λ (10, 0, 0))), some (.ref ao), some (.ref ad), some (.int (nI i)), none, none, none]) ⟨rfl, rfl, rfl, rfl, rfl, rfl, trivial⟩ (AW.less (by omega) (by omega) (kk _ _ _ h2 hr.1))
  have rest : ∀ (k : Nat) (y : Int32) (σ2 : Sg) (M1 : Me), k < 4 → HX G Λ ao ad σ2 μ M1 → (k = 0 → oCell G ao y M1) → ((inI (scF G (i + 1)) (nI 0) (nI (gT σ).length - nI 1) = false → JR (n + 5000) σ2 (sN μ 4 (nI 1)) ∧ gN (sN μ 4 (nI 1)) 4 = nI k ∧ (k = 0 → y = nI 32)) ∧ ∀ j, j < (gT σ).length → (scF G (i + 1)) = nI j → JR (n + 5000) σ2 (sN μ 4 (nI 0)) ∧ gN (sN μ 4 (nI 0)) 4 = nI k ∧ (k = 0 → y = nI ((gT σ).getD j 0))) → AW G (XL tb k0 n0 Z) (d + 15) (K + 7) (N + 2394) 1518 [some (.ref (scA G)), some (.ref (Λ (0, 0, 0))), some (.ref (Λ (10, 0, 0))), some (.ref ao), some (.ref ad), some (.int (nI i)), none, none, none] [.int (nI k)] M1 := by
    intro k y σ2 M1 hk h1 ho hr
    refine r_istore (q := 1520) dL_law_1518 (Nat.le_of_ble_eq_true rfl) rfl rfl ?_
    refine r_aload_n (q := 1521) dL_law_1520 rfl rfl ?_
    refine r_aload_n (q := 1522) dL_law_1521 rfl rfl ?_
    refine r_iload (q := 1524) dL_law_1522 rfl rfl ?_
    refine r_iconst (v := nI 1) (q := 1525) dL_law_1524 (by decide) rfl ?_
    refine r_iadd (q := 1526) dL_law_1525 rfl ?_
    refine r_sc (q := 1527) (by omega) hl dL_law_1526 rfl ?_
    refine r_cV (q := 1530) (As := [.int _]) wc_L_215 rfl im_X9_character se_X9_character h1.m rfl rfl (Nat.le_of_ble_eq_true rfl) (Nat.le_of_eq (Nat.zero_add _)) (Nat.le_of_eq (Nat.zero_add _)) dL_law_1527 rfl rfl (s_X9_character h1.2.1 (t := gT σ) hj.t.tn hj.t.tl hj.t.tt hj.t.tx (fun hb M2 hM2 => ?_) (fun j hjl ej M2 hM2 => ?_))
    · exact tail k y _ σ2 M1 _ M2 hk h1 ho hM2 (hr.1 hb)
    · exact tail k y _ σ2 M1 _ M2 hk h1 ho hM2 (hr.2 j hjl ej)
  refine r_aload_n (q := 1508) dL_law_1507 rfl rfl ?_
  refine r_aload_n (q := 1509) dL_law_1508 rfl rfl ?_
  refine r_iload (q := 1511) dL_law_1509 rfl rfl ?_
  refine r_iconst (v := nI 1) (q := 1512) dL_law_1511 (by decide) rfl ?_
  refine r_iadd (q := 1513) dL_law_1512 rfl ?_
  refine r_sc (q := 1514) (by omega) hl dL_law_1513 rfl ?_
  refine r_aload_n (q := 1515) dL_law_1514 rfl rfl ?_
  have bk := bk1 K
  have bn := bn6 N
  refine r_invSH (X := XL tb k0 n0 Z) (q := 1518) (k' := 1) (n' := 6) (k2 := K + 7) (n2 := N + 2394) (As := [.ref _, .int _, .ref _]) wh_character st_L_character rfl (Nat.le_of_ble_eq_true rfl) bk bn dL_law_1515 rfl rfl (h_L_character h.x fun Q1 QX1 hq hx => ?_)
  refine s_X8_character (σ := σ) (t := gT σ) (c := gC σ) (show RX G Λ M (sT σ (gT σ) (gC σ)) M from h.1) h.2.2.2.2 hj.t.ck (fun e => ?_) (fun E e => ?_)
  · obtain ⟨g, hg⟩ := h.c0
    obtain ⟨j0, a1, a2, a3, a4⟩ := ch_in hj.t.tn e
    refine hq _ M ⟨g, hg, rest 0 _ σ _ (by decide) h.out (fun _ => oM_cell) ⟨fun hf => absurd hf (by rw [a3]; decide), fun j hjl ej => ⟨hj.q4.up (by omega), gN_sNs, fun _ => ?_⟩⟩⟩
    have e1 := congrArg Int32.toNatClampNeg (a2.symm.trans ej)
    have hl9 := hj.t.tn
    rw [nI_c7 (by omega), nI_c7 (by omega)] at e1
    rw [a4, e1]
  · obtain ⟨l1, l2⟩ := ch_out hj.t.tn (exL_lt e).1
    exact hx E M _ e (rest _ 0 σ M (Nat.lt_of_le_of_lt (exL_lt e).2 (by decide)) h (fun e0 => absurd e0 (exL_lt e).1) ⟨fun _ => ⟨hj.q4.up (by omega), by rw [gN_sNs, l1], fun e0 => absurd e0 (exL_lt e).1⟩, fun j hjl ej => absurd ej (l2 j hjl)⟩)
theorem lc_30 {G : En} {tb : List ExceptionTableEntry × String} {Λ : Ob → Nat} {ao ad k0 n0 K N n i : Nat} {Z : List Frame → Array Value → State → State → Prop} {σ : Sg} {μ : Mg} {M : Me} {d : Nat} (h : HX G Λ ao ad σ μ M) (hj : JR n σ μ) (hn : n + 5000 ≤ 2 ^ 24) (hn10 : 10 ≤ n) (hi : i + 4 ≤ scL G) (hl : scL G ≤ 2048) (kk : ∀ σ2 μ2 M2, HX G Λ ao ad σ2 μ2 M2 → JR (n + 5000) σ2 μ2 → AW G (XL tb k0 n0 Z) (d + 15) K N 2111 [some (.ref (scA G)), some (.ref (Λ (0, 0, 0))), some (.ref (Λ (10, 0, 0))), some (.ref ao), some (.ref ad), some (.int (nI i)), none, none, none] [] M2) : AW G (XL tb k0 n0 Z) (d + 15) (K + 8) (N + 2400) 1822 [some (.ref (scA G)), some (.ref (Λ (0, 0, 0))), some (.ref (Λ (10, 0, 0))), some (.ref ao), some (.ref ad), some (.int (nI i)), none, none, none] [] M := by
  obtain ⟨z, hz8, hz⟩ := hj.z
  have ok := hj.oks hn
  have okf := hj.okf hn
  have tail : ∀ (k : Nat) (y v : Int32) (σ2 : Sg) (M1 : Me) (μ2 : Mg) (M2 : Me), k < 4 → HX G Λ ao ad σ2 μ M1 → (k = 0 → oCell G ao y M1) → RM G Λ M1 μ2 M2 → JR (n + 5000) σ2 μ2 ∧ gN μ2 4 = nI k ∧ (k = 0 → y = v) → AW G (XL tb k0 n0 Z) (d + 15) (K + 7) (N + 2394) 1845 [some (.ref (scA G)), some (.ref (Λ (0, 0, 0))), some (.ref (Λ (10, 0, 0))), some (.ref ao), some (.ref ad), some (.int (nI i)), some (.int (nI k)), none, none] [.int v] M2 := by
    intro k y v σ2 M1 μ2 M2 hk h1 ho hM2 hr
    have h2 := h1.mod hM2
    refine r_istore (q := 1847) dL_law_1845 (Nat.le_of_ble_eq_true rfl) rfl rfl ?_
    refine r_aload_n (q := 1848) dL_law_1847 rfl rfl ?_
    refine r_cV (q := 1851) (As := []) wc_L_131 rfl im_X9_thrown se_X9_thrown h2.m rfl rfl (Nat.le_of_ble_eq_true rfl) (Nat.le_of_eq (Nat.zero_add _)) (Nat.le_of_eq (Nat.zero_add _)) dL_law_1848 rfl rfl (s_X9_thrown h2.2.1 ?_)
    refine r_iload (q := 1853) dL_law_1851 rfl rfl ?_
    refine r_icmp_eq (q := 1856) (t := 1858) dL_law_1853 (by decide) rfl (fun _ => ?_) (fun c => absurd hr.2.1 c)
    refine r_iload (q := 1860) dL_law_1858 rfl rfl ?_
    refine r_if_ne (q := 1863) (t := 1875) dL_law_1860 (by decide) rfl (fun c => ?_) (fun c => ?_)
    · refine r_goto (t := 2111) dL_law_1875 (by decide) ?_
      exact AW.forget (lv := [some (.ref (scA G)), some (.ref (Λ (0, 0, 0))), some (.ref (Λ (10, 0, 0))), some (.ref ao), some (.ref ad), some (.int (nI i)), none, none, none]) ⟨rfl, rfl, rfl, rfl, rfl, rfl, trivial⟩ (AW.less (by omega) (by omega) (kk _ _ _ h2 hr.1))
    · have k0 := nI_k0 k hk c
      obtain ⟨g, hg⟩ := (ho k0).mod hM2
      refine r_aload_n (q := 1864) dL_law_1863 rfl rfl ?_
      refine r_iconst (v := nI 0) (q := 1865) dL_law_1864 (by decide) rfl ?_
      refine r_lald (o := (12, 0, 0)) (q := 1866) hg vp_01 dL_law_1865 rfl ?_
      refine r_iload (q := 1868) dL_law_1866 rfl rfl ?_
      refine r_i2l (q := 1869) dL_law_1868 rfl ?_
      refine r_lcmp (q := 1870) dL_law_1869 rfl ?_
      rw [outv, hr.2.2 k0, lg_self]
      refine r_if_eq (q := 1873) (t := 1875) dL_law_1870 (by decide) rfl (fun _ => ?_) (fun c => absurd rfl c)
      refine r_goto (t := 2111) dL_law_1875 (by decide) ?_
      exact AW.forget (lv := [some (.ref (scA G)), some (.ref (Λ (0, 0, 0))), some (.ref (Λ (10, 0, 0))), some (.ref ao), some (.ref ad), some (.int (nI i)), none, none, none]) ⟨rfl, rfl, rfl, rfl, rfl, rfl, trivial⟩ (AW.less (by omega) (by omega) (kk _ _ _ h2 hr.1))
  have rest : ∀ (k : Nat) (y : Int32) (σ2 : Sg) (M1 : Me), k < 4 → HX G Λ ao ad σ2 μ M1 → (k = 0 → oCell G ao y M1) → ((∀ c : Nat, c = 1 ∨ c = 2 → mqAp (scF G (i + 1)) (gR σ 11 0) = (c, 0) → JR (n + 5000) σ2 (sN μ 4 (nI c)) ∧ gN (sN μ 4 (nI c)) 4 = nI k ∧ (k = 0 → y = nI 0)) ∧ (mqAp (scF G (i + 1)) (gR σ 11 0) = (0, nI (aAll (wdN (scF G (i + 1))) 4 (gR σ 11 0)).length) → ∀ T, LTo (aAll (wdN (scF G (i + 1))) 4 (gR σ 11 0)) T → JR (n + 5000) σ2 (sN (sA (sN μ 4 (nI 0)) 7 T) 21 (nI (aAll (wdN (scF G (i + 1))) 4 (gR σ 11 0)).length)) ∧ gN (sN (sA (sN μ 4 (nI 0)) 7 T) 21 (nI (aAll (wdN (scF G (i + 1))) 4 (gR σ 11 0)).length)) 4 = nI k ∧ (k = 0 → y = nI (aAll (wdN (scF G (i + 1))) 4 (gR σ 11 0)).length))) → AW G (XL tb k0 n0 Z) (d + 15) (K + 7) (N + 2394) 1833 [some (.ref (scA G)), some (.ref (Λ (0, 0, 0))), some (.ref (Λ (10, 0, 0))), some (.ref ao), some (.ref ad), some (.int (nI i)), none, none, none] [.int (nI k)] M1 := by
    intro k y σ2 M1 hk h1 ho hr
    refine r_istore (q := 1835) dL_law_1833 (Nat.le_of_ble_eq_true rfl) rfl rfl ?_
    refine r_aload_n (q := 1836) dL_law_1835 rfl rfl ?_
    refine r_aload_n (q := 1837) dL_law_1836 rfl rfl ?_
    refine r_iload (q := 1839) dL_law_1837 rfl rfl ?_
    refine r_iconst (v := nI 1) (q := 1840) dL_law_1839 (by decide) rfl ?_
    refine r_iadd (q := 1841) dL_law_1840 rfl ?_
    refine r_sc (q := 1842) (by omega) hl dL_law_1841 rfl ?_
    refine r_cV (q := 1845) (As := [.int _]) wc_L_232 rfl im_X9_append se_X9_append h1.m rfl rfl (Nat.le_of_ble_eq_true rfl) (Nat.le_of_eq (Nat.zero_add _)) (Nat.le_of_eq (Nat.zero_add _)) dL_law_1842 rfl rfl (s_X9_append h1.2.1 hj.t.fl hj.t.fc hj.t.ft (fun {c} hc em M2 hM2 => ?_) (fun em M2 T hT hM2 => ?_))
    · exact tail k y _ σ2 M1 _ M2 hk h1 ho hM2 (hr.1 c hc em)
    · exact tail k y _ σ2 M1 _ M2 hk h1 ho hM2 (hr.2 em T hT)
  refine r_aload_n (q := 1823) dL_law_1822 rfl rfl ?_
  refine r_aload_n (q := 1824) dL_law_1823 rfl rfl ?_
  refine r_iload (q := 1826) dL_law_1824 rfl rfl ?_
  refine r_iconst (v := nI 1) (q := 1827) dL_law_1826 (by decide) rfl ?_
  refine r_iadd (q := 1828) dL_law_1827 rfl ?_
  refine r_sc (q := 1829) (by omega) hl dL_law_1828 rfl ?_
  refine r_aload_n (q := 1830) dL_law_1829 rfl rfl ?_
  have bk := bk1 K
  have bn := bn6 N
  refine r_invSH (X := XL tb k0 n0 Z) (q := 1833) (k' := 1) (n' := 6) (k2 := K + 7) (n2 := N + 2394) (As := [.ref _, .int _, .ref _]) wh_append st_L_append rfl (Nat.le_of_ble_eq_true rfl) bk bn dL_law_1830 rfl rfl (h_L_append h.x fun Q1 QX1 hq hx => ?_)
  have es : mqAp (scF G (i + 1)) (gR σ 11 0) = qApp σ (scF G (i + 1)) := rfl
  refine s_X8_append h.1 (fun e M' hM' => ?_) (fun E e => ?_)
  · have h2 := h.cls hM'
    obtain ⟨g, hg⟩ := h2.c0
    refine hq _ M' ⟨g, hg, rest 0 _ _ _ (by decide) h2.out (fun _ => oM_cell) ⟨fun c hc em => ?_, fun em T hT => ⟨(j_app hj e hT).up (by omega), by rw [gN_sNn (by decide), gN_sA, gN_sNs], fun _ => by rw [← es, em]⟩⟩⟩
    rw [← es, em] at e
    exact absurd (show c = 0 from e) (by omega)
  · refine hx E M _ e (rest _ 0 σ M (Nat.lt_of_le_of_lt (exL_lt e).2 (by decide)) h (fun e0 => absurd e0 (exL_lt e).1) ⟨fun c hc em => ⟨hj.q4.up (by omega), by rw [gN_sNs, ← es, em], fun e0 => absurd e0 (exL_lt e).1⟩, fun em => ?_⟩)
    have e1 := (exL_lt e).1
    rw [← es, em] at e1
    exact absurd rfl e1
theorem lc_34 {G : En} {tb : List ExceptionTableEntry × String} {Λ : Ob → Nat} {ao ad k0 n0 K N n i : Nat} {Z : List Frame → Array Value → State → State → Prop} {σ : Sg} {μ : Mg} {M : Me} {d : Nat} (h : HX G Λ ao ad σ μ M) (hj : JR n σ μ) (hn : n + 5000 ≤ 2 ^ 24) (hn10 : 10 ≤ n) (hi : i + 4 ≤ scL G) (hl : scL G ≤ 2048) (kk : ∀ σ2 μ2 M2, HX G Λ ao ad σ2 μ2 M2 → JR (n + 5000) σ2 μ2 → AW G (XL tb k0 n0 Z) (d + 15) K N 2111 [some (.ref (scA G)), some (.ref (Λ (0, 0, 0))), some (.ref (Λ (10, 0, 0))), some (.ref ao), some (.ref ad), some (.int (nI i)), none, none, none] [] M2) : AW G (XL tb k0 n0 Z) (d + 15) (K + 8) (N + 2400) 2010 [some (.ref (scA G)), some (.ref (Λ (0, 0, 0))), some (.ref (Λ (10, 0, 0))), some (.ref ao), some (.ref ad), some (.int (nI i)), none, none, none] [] M := by
  obtain ⟨z, hz8, hz⟩ := hj.z
  have ok := hj.oks hn
  have okf := hj.okf hn
  have tail : ∀ (k : Nat) (y v : Int32) (σ2 : Sg) (M1 : Me) (μ2 : Mg) (M2 : Me), k < 4 → HX G Λ ao ad σ2 μ M1 → (k = 0 → oCell G ao y M1) → RM G Λ M1 μ2 M2 → JR (n + 5000) σ2 μ2 ∧ gN μ2 4 = nI k ∧ (k = 0 → y = v) → AW G (XL tb k0 n0 Z) (d + 15) (K + 7) (N + 2394) 2021 [some (.ref (scA G)), some (.ref (Λ (0, 0, 0))), some (.ref (Λ (10, 0, 0))), some (.ref ao), some (.ref ad), some (.int (nI i)), some (.int (nI k)), none, none] [.int v] M2 := by
    intro k y v σ2 M1 μ2 M2 hk h1 ho hM2 hr
    have h2 := h1.mod hM2
    refine r_istore (q := 2023) dL_law_2021 (Nat.le_of_ble_eq_true rfl) rfl rfl ?_
    refine r_aload_n (q := 2024) dL_law_2023 rfl rfl ?_
    refine r_cV (q := 2027) (As := []) wc_L_131 rfl im_X9_thrown se_X9_thrown h2.m rfl rfl (Nat.le_of_ble_eq_true rfl) (Nat.le_of_eq (Nat.zero_add _)) (Nat.le_of_eq (Nat.zero_add _)) dL_law_2024 rfl rfl (s_X9_thrown h2.2.1 ?_)
    refine r_iload (q := 2029) dL_law_2027 rfl rfl ?_
    refine r_icmp_eq (q := 2032) (t := 2034) dL_law_2029 (by decide) rfl (fun _ => ?_) (fun c => absurd hr.2.1 c)
    refine r_iload (q := 2036) dL_law_2034 rfl rfl ?_
    refine r_if_ne (q := 2039) (t := 2051) dL_law_2036 (by decide) rfl (fun c => ?_) (fun c => ?_)
    · refine r_goto (t := 2111) dL_law_2051 (by decide) ?_
      exact AW.forget (lv := [some (.ref (scA G)), some (.ref (Λ (0, 0, 0))), some (.ref (Λ (10, 0, 0))), some (.ref ao), some (.ref ad), some (.int (nI i)), none, none, none]) ⟨rfl, rfl, rfl, rfl, rfl, rfl, trivial⟩ (AW.less (by omega) (by omega) (kk _ _ _ h2 hr.1))
    · have k0 := nI_k0 k hk c
      obtain ⟨g, hg⟩ := (ho k0).mod hM2
      refine r_aload_n (q := 2040) dL_law_2039 rfl rfl ?_
      refine r_iconst (v := nI 0) (q := 2041) dL_law_2040 (by decide) rfl ?_
      refine r_lald (o := (12, 0, 0)) (q := 2042) hg vp_01 dL_law_2041 rfl ?_
      refine r_iload (q := 2044) dL_law_2042 rfl rfl ?_
      refine r_i2l (q := 2045) dL_law_2044 rfl ?_
      refine r_lcmp (q := 2046) dL_law_2045 rfl ?_
      rw [outv, hr.2.2 k0, lg_self]
      refine r_if_eq (q := 2049) (t := 2051) dL_law_2046 (by decide) rfl (fun _ => ?_) (fun c => absurd rfl c)
      refine r_goto (t := 2111) dL_law_2051 (by decide) ?_
      exact AW.forget (lv := [some (.ref (scA G)), some (.ref (Λ (0, 0, 0))), some (.ref (Λ (10, 0, 0))), some (.ref ao), some (.ref ad), some (.int (nI i)), none, none, none]) ⟨rfl, rfl, rfl, rfl, rfl, rfl, trivial⟩ (AW.less (by omega) (by omega) (kk _ _ _ h2 hr.1))
  have rest : ∀ (k : Nat) (y : Int32) (σ2 : Sg) (M1 : Me), k < 4 → HX G Λ ao ad σ2 μ M1 → (k = 0 → oCell G ao y M1) → (JR (n + 5000) σ2 (mUnd μ z) ∧ gN (mUnd μ z) 4 = nI k ∧ (k = 0 → y = nI (z - 1))) → AW G (XL tb k0 n0 Z) (d + 15) (K + 7) (N + 2394) 2015 [some (.ref (scA G)), some (.ref (Λ (0, 0, 0))), some (.ref (Λ (10, 0, 0))), some (.ref ao), some (.ref ad), some (.int (nI i)), none, none, none] [.int (nI k)] M1 := by
    intro k y σ2 M1 hk h1 ho hr
    refine r_istore (q := 2017) dL_law_2015 (Nat.le_of_ble_eq_true rfl) rfl rfl ?_
    refine r_aload_n (q := 2018) dL_law_2017 rfl rfl ?_
    refine r_cV (q := 2021) (As := []) wc_L_245 rfl im_X9_undo se_X9_undo h1.m rfl rfl (Nat.le_of_ble_eq_true rfl) (Nat.le_of_eq (Nat.zero_add _)) (Nat.le_of_eq (Nat.zero_add _)) dL_law_2018 rfl rfl (s_X9_undo h1.2.1 hz hz8 fun M2 hM2 => ?_)
    exact tail k y _ σ2 M1 _ M2 hk h1 ho hM2 hr
  refine r_aload_n (q := 2011) dL_law_2010 rfl rfl ?_
  refine r_aload_n (q := 2012) dL_law_2011 rfl rfl ?_
  have bk := bk1 K
  have bn := bn6 N
  refine r_invSH (X := XL tb k0 n0 Z) (q := 2015) (k' := 1) (n' := 6) (k2 := K + 7) (n2 := N + 2394) (As := [.ref _, .ref _]) wh_undo st_L_undo rfl (Nat.le_of_ble_eq_true rfl) bk bn dL_law_2012 rfl rfl (h_L_undo h.x fun Q1 QX1 hq hx => ?_)
  refine s_X8_undo h.1 hj.hs.hv (fun o w ho8 hw8 ho hw6 h0 M' hM' => ?_) (fun h60 => ?_)
  · have h2 := h.cls hM'
    obtain ⟨g, hg⟩ := h2.c0
    have ez := hj.z6 hz8 hz hw8 hw6
    subst ez
    obtain ⟨r1, r2⟩ := j_undo hj ho8 hw8 ho hw6 hz h0
    exact hq _ M' ⟨g, hg, rest 0 _ _ _ (by decide) h2.out (fun _ => oM_cell) ⟨r1.up (by omega), r2, fun _ => rfl⟩⟩
  · obtain ⟨r1, r2, r3⟩ := j_undo0 hj h60
    have ez : z = 0 := by
      have := congrArg Int32.toNatClampNeg (hz.symm.trans r3)
      rw [nI_c7 (by omega), nI_c7 (by omega)] at this; exact this
    rw [ez] at rest
    exact hx _ M 1 rfl (rest 1 0 σ M (by decide) h (fun e0 => absurd e0 (by decide)) ⟨r1.up (by omega), r2, fun e0 => absurd e0 (by decide)⟩)
theorem lc_36 {G : En} {tb : List ExceptionTableEntry × String} {Λ : Ob → Nat} {ao ad k0 n0 K N n i : Nat} {Z : List Frame → Array Value → State → State → Prop} {σ : Sg} {μ : Mg} {M : Me} {d : Nat} (h : HX G Λ ao ad σ μ M) (hj : JR n σ μ) (hn : n + 5000 ≤ 2 ^ 24) (hn10 : 10 ≤ n) (hi : i + 4 ≤ scL G) (hl : scL G ≤ 2048) (kk : ∀ σ2 μ2 M2, HX G Λ ao ad σ2 μ2 M2 → JR (n + 5000) σ2 μ2 → AW G (XL tb k0 n0 Z) (d + 15) K N 2111 [some (.ref (scA G)), some (.ref (Λ (0, 0, 0))), some (.ref (Λ (10, 0, 0))), some (.ref ao), some (.ref ad), some (.int (nI i)), none, none, none] [] M2) : AW G (XL tb k0 n0 Z) (d + 15) (K + 8) (N + 2400) 2067 [some (.ref (scA G)), some (.ref (Λ (0, 0, 0))), some (.ref (Λ (10, 0, 0))), some (.ref ao), some (.ref ad), some (.int (nI i)), none, none, none] [] M := by
  obtain ⟨z, hz8, hz⟩ := hj.z
  have ok := hj.oks hn
  have okf := hj.okf hn
  obtain ⟨b, hb⟩ := hj.b12
  have tail : ∀ (k : Nat) (y v : Int32) (σ2 : Sg) (M1 : Me) (μ2 : Mg) (M2 : Me), k < 4 → HX G Λ ao ad σ2 μ M1 → (k = 0 → oCell G ao y M1) → RM G Λ M1 μ2 M2 → JR (n + 5000) σ2 μ2 ∧ gN μ2 4 = nI k ∧ (k = 0 → y = v) → AW G (XL tb k0 n0 Z) (d + 15) (K + 7) (N + 2394) 2078 [some (.ref (scA G)), some (.ref (Λ (0, 0, 0))), some (.ref (Λ (10, 0, 0))), some (.ref ao), some (.ref ad), some (.int (nI i)), some (.int (nI k)), none, none] [.int v] M2 := by
    intro k y v σ2 M1 μ2 M2 hk h1 ho hM2 hr
    have h2 := h1.mod hM2
    refine r_istore (q := 2080) dL_law_2078 (Nat.le_of_ble_eq_true rfl) rfl rfl ?_
    refine r_aload_n (q := 2081) dL_law_2080 rfl rfl ?_
    refine r_cV (q := 2084) (As := []) wc_L_131 rfl im_X9_thrown se_X9_thrown h2.m rfl rfl (Nat.le_of_ble_eq_true rfl) (Nat.le_of_eq (Nat.zero_add _)) (Nat.le_of_eq (Nat.zero_add _)) dL_law_2081 rfl rfl (s_X9_thrown h2.2.1 ?_)
    refine r_iload (q := 2086) dL_law_2084 rfl rfl ?_
    refine r_icmp_eq (q := 2089) (t := 2091) dL_law_2086 (by decide) rfl (fun _ => ?_) (fun c => absurd hr.2.1 c)
    refine r_iload (q := 2093) dL_law_2091 rfl rfl ?_
    refine r_if_ne (q := 2096) (t := 2108) dL_law_2093 (by decide) rfl (fun c => ?_) (fun c => ?_)
    · refine r_goto (t := 2111) dL_law_2108 (by decide) ?_
      exact AW.forget (lv := [some (.ref (scA G)), some (.ref (Λ (0, 0, 0))), some (.ref (Λ (10, 0, 0))), some (.ref ao), some (.ref ad), some (.int (nI i)), none, none, none]) ⟨rfl, rfl, rfl, rfl, rfl, rfl, trivial⟩ (AW.less (by omega) (by omega) (kk _ _ _ h2 hr.1))
    · have k0 := nI_k0 k hk c
      obtain ⟨g, hg⟩ := (ho k0).mod hM2
      refine r_aload_n (q := 2097) dL_law_2096 rfl rfl ?_
      refine r_iconst (v := nI 0) (q := 2098) dL_law_2097 (by decide) rfl ?_
      refine r_lald (o := (12, 0, 0)) (q := 2099) hg vp_01 dL_law_2098 rfl ?_
      refine r_iload (q := 2101) dL_law_2099 rfl rfl ?_
      refine r_i2l (q := 2102) dL_law_2101 rfl ?_
      refine r_lcmp (q := 2103) dL_law_2102 rfl ?_
      rw [outv, hr.2.2 k0, lg_self]
      refine r_if_eq (q := 2106) (t := 2108) dL_law_2103 (by decide) rfl (fun _ => ?_) (fun c => absurd rfl c)
      refine r_goto (t := 2111) dL_law_2108 (by decide) ?_
      exact AW.forget (lv := [some (.ref (scA G)), some (.ref (Λ (0, 0, 0))), some (.ref (Λ (10, 0, 0))), some (.ref ao), some (.ref ad), some (.int (nI i)), none, none, none]) ⟨rfl, rfl, rfl, rfl, rfl, rfl, trivial⟩ (AW.less (by omega) (by omega) (kk _ _ _ h2 hr.1))
  have rest : ∀ (k : Nat) (y : Int32) (σ2 : Sg) (M1 : Me), k < 4 → HX G Λ ao ad σ2 μ M1 → (k = 0 → oCell G ao y M1) → (JR (n + 5000) σ2 (if b = true then mRst μ else sN μ 4 (nI 1)) ∧ gN (if b = true then mRst μ else sN μ 4 (nI 1)) 4 = nI k ∧ (k = 0 → y = if b = true then nI (mCn (gA μ 2) 0 7) else 0)) → AW G (XL tb k0 n0 Z) (d + 15) (K + 7) (N + 2394) 2072 [some (.ref (scA G)), some (.ref (Λ (0, 0, 0))), some (.ref (Λ (10, 0, 0))), some (.ref ao), some (.ref ad), some (.int (nI i)), none, none, none] [.int (nI k)] M1 := by
    intro k y σ2 M1 hk h1 ho hr
    refine r_istore (q := 2074) dL_law_2072 (Nat.le_of_ble_eq_true rfl) rfl rfl ?_
    refine r_aload_n (q := 2075) dL_law_2074 rfl rfl ?_
    refine r_cV (q := 2078) (As := []) wc_L_252 rfl im_X9_restore se_X9_restore h1.m rfl rfl (Nat.le_of_ble_eq_true rfl) (Nat.le_of_eq (Nat.zero_add _)) (Nat.le_of_eq (Nat.zero_add _)) dL_law_2075 rfl rfl (s_X9_restore h1.2.1 hb fun M2 hM2 => ?_)
    exact tail k y _ σ2 M1 _ M2 hk h1 ho hM2 hr
  refine r_aload_n (q := 2068) dL_law_2067 rfl rfl ?_
  refine r_aload_n (q := 2069) dL_law_2068 rfl rfl ?_
  have bk := bk1 K
  have bn := bn6 N
  refine r_invSH (X := XL tb k0 n0 Z) (q := 2072) (k' := 1) (n' := 6) (k2 := K + 7) (n2 := N + 2394) (As := [.ref _, .ref _]) wh_restore st_L_restore rfl (Nat.le_of_ble_eq_true rfl) bk bn dL_law_2069 rfl rfl (h_L_restore h.x fun Q1 QX1 hq hx => ?_)
  refine s_X8_restore h.1 (fun h0 M' hM' => ?_) (fun h0 => ?_)
  · have h2 := h.cls hM'
    obtain ⟨g, hg⟩ := h2.c0
    obtain ⟨r0, r1, r2, r3⟩ := j_rest hj h0
    have eb : b = true := by
      cases b with
      | true => rfl
      | false => exact absurd (r0.symm.trans hb) bI_inj
    rw [eb] at rest
    exact hq _ M' ⟨g, hg, rest 0 _ _ _ (by decide) h2.out (fun _ => oM_cell) ⟨r1.up (by omega), r3, fun _ => by rw [if_pos rfl, r2]; rfl⟩⟩
  · have r0 := j_rest0 hj h0
    have eb : b = false := by
      cases b with
      | true => exact absurd (hb.symm.trans r0) bI_inj
      | false => rfl
    rw [eb] at rest
    exact hx _ M 1 rfl (rest 1 0 σ M (by decide) h (fun e0 => absurd e0 (by decide)) ⟨hj.q4.up (by omega), gN_sNs, fun e0 => absurd e0 (by decide)⟩)
theorem lc_31 {G : En} {tb : List ExceptionTableEntry × String} {Λ : Ob → Nat} {ao ad k0 n0 K N n i : Nat} {Z : List Frame → Array Value → State → State → Prop} {σ : Sg} {μ : Mg} {M : Me} {d : Nat} (h : HX G Λ ao ad σ μ M) (hj : JR n σ μ) (hn : n + 5000 ≤ 2 ^ 24) (hn10 : 10 ≤ n) (hi : i + 4 ≤ scL G) (hl : scL G ≤ 2048) (kk : ∀ σ2 μ2 M2, HX G Λ ao ad σ2 μ2 M2 → JR (n + 5000) σ2 μ2 → AW G (XL tb k0 n0 Z) (d + 15) K N 2111 [some (.ref (scA G)), some (.ref (Λ (0, 0, 0))), some (.ref (Λ (10, 0, 0))), some (.ref ao), some (.ref ad), some (.int (nI i)), none, none, none] [] M2) : AW G (XL tb k0 n0 Z) (d + 15) (K + 8) (N + 2400) 1878 [some (.ref (scA G)), some (.ref (Λ (0, 0, 0))), some (.ref (Λ (10, 0, 0))), some (.ref ao), some (.ref ad), some (.int (nI i)), none, none, none] [] M := by
  obtain ⟨z, hz8, hz⟩ := hj.z
  have ok := hj.oks hn
  have okf := hj.okf hn
  obtain ⟨mJ1, mJ2⟩ := j_mod hj hn
  have hPI : PIN (gR σ 11 0) (muR (bgM μ) (gR σ 11 0)) := ⟨by rw [muR, gN_sNn (by decide), gN_sNs], by rw [muR, gA_sNe, gA_sNe, bgM, gA_n (by decide), gA_sNe]; exact hj.t.ft, hj.t.fc, hj.t.fd⟩
  have tail : ∀ (k : Nat) (y v : Int32) (σ2 : Sg) (M1 : Me) (μ2 : Mg) (M2 : Me), k < 4 → HX G Λ ao ad σ2 μ M1 → (k = 0 → oCell G ao y M1) → RM G Λ M1 μ2 M2 → JR (n + 5000) σ2 μ2 ∧ gN μ2 4 = nI k ∧ (k = 0 → y = v) → AW G (XL tb k0 n0 Z) (d + 15) (K + 7) (N + 2394) 1889 [some (.ref (scA G)), some (.ref (Λ (0, 0, 0))), some (.ref (Λ (10, 0, 0))), some (.ref ao), some (.ref ad), some (.int (nI i)), some (.int (nI k)), none, none] [.int v] M2 := by
    intro k y v σ2 M1 μ2 M2 hk h1 ho hM2 hr
    have h2 := h1.mod hM2
    refine r_istore (q := 1891) dL_law_1889 (Nat.le_of_ble_eq_true rfl) rfl rfl ?_
    refine r_aload_n (q := 1892) dL_law_1891 rfl rfl ?_
    refine r_cV (q := 1895) (As := []) wc_L_131 rfl im_X9_thrown se_X9_thrown h2.m rfl rfl (Nat.le_of_ble_eq_true rfl) (Nat.le_of_eq (Nat.zero_add _)) (Nat.le_of_eq (Nat.zero_add _)) dL_law_1892 rfl rfl (s_X9_thrown h2.2.1 ?_)
    refine r_iload (q := 1897) dL_law_1895 rfl rfl ?_
    refine r_icmp_eq (q := 1900) (t := 1902) dL_law_1897 (by decide) rfl (fun _ => ?_) (fun c => absurd hr.2.1 c)
    refine r_iload (q := 1904) dL_law_1902 rfl rfl ?_
    refine r_if_ne (q := 1907) (t := 1919) dL_law_1904 (by decide) rfl (fun c => ?_) (fun c => ?_)
    · refine r_goto (t := 2111) dL_law_1919 (by decide) ?_
      exact AW.forget (lv := [some (.ref (scA G)), some (.ref (Λ (0, 0, 0))), some (.ref (Λ (10, 0, 0))), some (.ref ao), some (.ref ad), some (.int (nI i)), none, none, none]) ⟨rfl, rfl, rfl, rfl, rfl, rfl, trivial⟩ (AW.less (by omega) (by omega) (kk _ _ _ h2 hr.1))
    · have k0 := nI_k0 k hk c
      obtain ⟨g, hg⟩ := (ho k0).mod hM2
      refine r_aload_n (q := 1908) dL_law_1907 rfl rfl ?_
      refine r_iconst (v := nI 0) (q := 1909) dL_law_1908 (by decide) rfl ?_
      refine r_lald (o := (12, 0, 0)) (q := 1910) hg vp_01 dL_law_1909 rfl ?_
      refine r_iload (q := 1912) dL_law_1910 rfl rfl ?_
      refine r_i2l (q := 1913) dL_law_1912 rfl ?_
      refine r_lcmp (q := 1914) dL_law_1913 rfl ?_
      rw [outv, hr.2.2 k0, lg_self]
      refine r_if_eq (q := 1917) (t := 1919) dL_law_1914 (by decide) rfl (fun _ => ?_) (fun c => absurd rfl c)
      refine r_goto (t := 2111) dL_law_1919 (by decide) ?_
      exact AW.forget (lv := [some (.ref (scA G)), some (.ref (Λ (0, 0, 0))), some (.ref (Λ (10, 0, 0))), some (.ref ao), some (.ref ad), some (.int (nI i)), none, none, none]) ⟨rfl, rfl, rfl, rfl, rfl, rfl, trivial⟩ (AW.less (by omega) (by omega) (kk _ _ _ h2 hr.1))
  have rest : ∀ (k : Nat) (y : Int32) (σ2 : Sg) (M1 : Me), k < 4 → HX G Λ ao ad σ2 μ M1 → (k = 0 → oCell G ao y M1) → ((rdW μ (gR σ 11 0) = true → JR (n + 5000) σ2 (rdWr μ (gR σ 11 0)) ∧ gN (rdWr μ (gR σ 11 0)) 4 = nI k ∧ (k = 0 → y = nI 0)) ∧ (rdW μ (gR σ 11 0) = false → ∀ k1 F1, rdE μ (gR σ 11 0) = (F1, some (k1, (2, none))) → JR (n + 5000) σ2 (rdEl μ (gR σ 11 0) F1 k1) ∧ gN (rdEl μ (gR σ 11 0) F1 k1) 4 = nI k ∧ (k = 0 → y = nI 0)) ∧ (rdW μ (gR σ 11 0) = false → ∀ k1 F1 x, rdE μ (gR σ 11 0) = (F1, some (k1, (3, some x))) → JR (n + 5000) σ2 (rdRf μ (gR σ 11 0) k1 x) ∧ gN (rdRf μ (gR σ 11 0) k1 x) 4 = nI k ∧ (k = 0 → y = nI 0)) ∧ (rdW μ (gR σ 11 0) = false → (rdE μ (gR σ 11 0)).2 = none → ∀ v, JR (n + 5000) σ2 (kpM (sA (sN (nuR μ (gR σ 11 0)) 26 v) 0 (rdE μ (gR σ 11 0)).1) z) ∧ gN (kpM (sA (sN (nuR μ (gR σ 11 0)) 26 v) 0 (rdE μ (gR σ 11 0)).1) z) 4 = nI k ∧ (k = 0 → y = nI (rdY μ (gR σ 11 0)).2.1))) → AW G (XL tb k0 n0 Z) (d + 15) (K + 7) (N + 2394) 1883 [some (.ref (scA G)), some (.ref (Λ (0, 0, 0))), some (.ref (Λ (10, 0, 0))), some (.ref ao), some (.ref ad), some (.int (nI i)), none, none, none] [.int (nI k)] M1 := by
    intro k y σ2 M1 hk h1 ho hr
    refine r_istore (q := 1885) dL_law_1883 (Nat.le_of_ble_eq_true rfl) rfl rfl ?_
    refine r_aload_n (q := 1886) dL_law_1885 rfl rfl ?_
    refine r_cV (q := 1889) (As := []) wc_L_236 rfl im_X9_read se_X9_read h1.m rfl rfl (Nat.le_of_ble_eq_true rfl) (Nat.le_of_eq (Nat.zero_add _)) (Nat.le_of_eq (Nat.zero_add _)) dL_law_1886 rfl rfl (s_X9_read (J := fun i F => ∃ S, EN S F ∧ Iv (n + 150 * i) S) (L := gR σ 11 0) h1.2.1 hz hz8 hj.t.fl hPI ⟨_, hj.en, hj.iv⟩ mJ1 mJ2 (fun _ => j_kok hj) (Nat.lt_of_le_of_lt (j_pe hj).m (by decide)) (fun hW M2 hM2 => ?_) (fun hW k1 F1 eg M2 hM2 => ?_) (fun hW k1 F1 x eg M2 hM2 => ?_) (fun hW eg v M2 hM2 => ?_))
    · exact tail k y _ σ2 M1 _ M2 hk h1 ho hM2 (hr.1 hW)
    · exact tail k y _ σ2 M1 _ M2 hk h1 ho hM2 (hr.2.1 hW k1 F1 eg)
    · exact tail k y _ σ2 M1 _ M2 hk h1 ho hM2 (hr.2.2.1 hW k1 F1 x eg)
    · exact tail k y _ σ2 M1 _ M2 hk h1 ho hM2 (hr.2.2.2 hW eg v)
  refine r_aload_n (q := 1879) dL_law_1878 rfl rfl ?_
  refine r_aload_n (q := 1880) dL_law_1879 rfl rfl ?_
  have bk := bk1 K
  have bn := bn6 N
  refine r_invSH (X := XL tb k0 n0 Z) (q := 1883) (k' := 1) (n' := 6) (k2 := K + 7) (n2 := N + 2394) (As := [.ref _, .ref _]) wh_read st_L_read rfl (Nat.le_of_ble_eq_true rfl) bk bn dL_law_1880 rfl rfl (h_L_read h.x fun Q1 QX1 hq hx => ?_)
  obtain ⟨o, w, ho8, hw8, ho, hw6, -, -⟩ := hj.hs
  have ez := hj.z6 hz8 hz hw8 hw6
  subst ez
  obtain ⟨p, hp⟩ := hj.t.pz
  obtain ⟨cJ1, cJ2⟩ := j_cls hj hn
  have hex := j_ex hj
  have hwr := j_wr hj
  refine s_X8_read (J := fun i S => ∃ F, EN S F ∧ Iv (n + 150 * i) S) h.1 ho ho8 hw6 hw8 hp (fun x hx => Nat.lt_of_lt_of_le (hj.t.fd x hx).2 (by decide)) ⟨_, hj.en, hj.iv⟩ cJ1 cJ2 (fun i hi9 => ?_) (fun S => ?_) (fun e M' hM' => ?_) (fun hok i S f e M' hM' => ?_) (fun hok e M' hM' => ?_)
  · rw [j_len hj] at hi9
    obtain ⟨v1, v2, v3⟩ := j_val hj i hi9
    rw [v2]; exact isK_c v1
  · rw [gR_gS, hP_S (Or.inr (by decide)), gS_ne (by decide)]
    show (gR (rdN σ) 11 1).length = _
    rw [rdN_r 1 (by decide)]
  · have h2 := h.cls hM'
    have hW : rdW μ (gR σ 11 0) = true := by
      cases hw9 : rdW μ (gR σ 11 0) with
      | true => rfl
      | false => rw [hwr.mpr hw9] at e; exact absurd e (by decide)
    obtain ⟨r1, r2⟩ := j_wrong hj
    exact hx _ M' 1 rfl (rest 1 0 _ M' (by decide) h2 (fun e0 => absurd e0 (by decide)) ⟨fun _ => ⟨r1.up (by omega), r2, fun e0 => absurd e0 (by decide)⟩, fun hf => absurd hf (by rw [hW]; decide), fun hf => absurd hf (by rw [hW]; decide), fun hf => absurd hf (by rw [hW]; decide)⟩)
  · have h2 := h.cls hM'
    rcases hex with ⟨a, -⟩ | ⟨j, f1, g1, a1, a2, a3, a4, a5, a6⟩
    · rw [e] at a; cases a
    rw [e] at a1
    cases a1
    have fin : ∀ (k1 : Nat) (F1 : Nat → Nat) (gg : Fl), rdE μ (gR σ 11 0) = (F1, some (k1, gg)) → k1 = i ∧ gg.2 = f.2 := fun k1 F1 gg eg => by
      rw [eg] at a2
      cases a2
      exact ⟨rfl, a3.symm⟩
    refine hx _ M' 2 rfl (rest 2 0 _ M' (by decide) h2 (fun e0 => absurd e0 (by decide)) ⟨fun hW => ?_, fun _ k1 F1 eg => ?_, fun _ k1 F1 x eg => ?_, fun _ eg => ?_⟩)
    · rw [hwr.mp hok] at hW; exact absurd hW (by decide)
    · obtain ⟨q1, q2⟩ := fin _ _ _ eg
      subst q1
      rw [← q2]
      obtain ⟨r1, r2⟩ := j_el hj (i := k1) (F1 := F1)
      exact ⟨r1.up (by omega), r2, fun e0 => absurd e0 (by decide)⟩
    · obtain ⟨q1, q2⟩ := fin _ _ _ eg
      subst q1
      rw [← q2]
      obtain ⟨r1, r2⟩ := j_rf hj (i := k1) (x := x)
      exact ⟨r1.up (by omega), r2, fun e0 => absurd e0 (by decide)⟩
    · rw [eg] at a2; cases a2
  · have h2 := h.cls hM'
    obtain ⟨g, hg⟩ := h2.c0
    rcases hex with ⟨a, b, c, d9⟩ | ⟨j, f1, g1, a1, -⟩
    · refine hq _ M' ⟨g, hg, rest 0 _ _ _ (by decide) h2.out (fun _ => oM_cell) ⟨fun hW => ?_, fun _ k1 F1 eg => ?_, fun _ k1 F1 x eg => ?_, fun _ _ v => ?_⟩⟩
      · rw [hwr.mp hok] at hW; exact absurd hW (by decide)
      · rw [eg] at b; cases b
      · rw [eg] at b; cases b
      · obtain ⟨r1, r2⟩ := j_read hj ho8 hw8 ho hw6 c d9 (by omega) (v := v)
        exact ⟨r1, r2, fun _ => by rw [j_len hj]⟩
    · rw [e] at a1; cases a1
end W99c
