/-! THE LAW: cases of changes and of questions -/
section W99b
theorem pla_n {p dl k : Int32} : (fPla p dl k).2 = none := by
  rw [fPla]
  repeat' split
  all_goals rfl
theorem j_refq {n : Nat} {σ : Sg} {μ : Mg} (h : JR n σ μ) (b : Bool) : mqRef μ b = qRef σ b := by rw [mqRef, qRef, h.t.rf, h.t.dt]
theorem j_errq {n : Nat} {σ : Sg} {μ : Mg} (h : JR n σ μ) : mqErr μ 10 = qErr σ 1 := by rw [mqErr, qErr, h.t.er]
theorem j_itq {n : Nat} {σ : Sg} {μ : Mg} (h : JR n σ μ) : mqErr μ 11 = qErr σ 2 := by rw [mqErr, qErr, h.t.it]
theorem lc_1 {G : En} {tb : List ExceptionTableEntry × String} {Λ : Ob → Nat} {ao ad k0 n0 K N n i : Nat} {Z : List Frame → Array Value → State → State → Prop} {σ : Sg} {μ : Mg} {M : Me} {d : Nat} (h : HX G Λ ao ad σ μ M) (hj : JR n σ μ) (hn : n + 5000 ≤ 2 ^ 24) (hn10 : 10 ≤ n) (hi : i + 4 ≤ scL G) (hl : scL G ≤ 2048) (kk : ∀ σ2 μ2 M2, HX G Λ ao ad σ2 μ2 M2 → JR (n + 5000) σ2 μ2 → AW G (XL tb k0 n0 Z) (d + 15) K N 2111 [some (.ref (scA G)), some (.ref (Λ (0, 0, 0))), some (.ref (Λ (10, 0, 0))), some (.ref ao), some (.ref ad), some (.int (nI i)), none, none, none] [] M2) : AW G (XL tb k0 n0 Z) (d + 15) (K + 8) (N + 2400) 221 [some (.ref (scA G)), some (.ref (Λ (0, 0, 0))), some (.ref (Λ (10, 0, 0))), some (.ref ao), some (.ref ad), some (.int (nI i)), none, none, none] [] M := by
  obtain ⟨z, hz8, hz⟩ := hj.z
  have ok := hj.oks hn
  have okf := hj.okf hn
  have tail : ∀ (k : Nat) (y v : Int32) (σ2 : Sg) (M1 : Me) (μ2 : Mg) (M2 : Me), k < 4 → HX G Λ ao ad σ2 μ M1 → (k = 0 → oCell G ao y M1) → RM G Λ M1 μ2 M2 → JR (n + 5000) σ2 μ2 ∧ gN μ2 4 = nI k ∧ (k = 0 → y = v) → AW G (XL tb k0 n0 Z) (d + 15) (K + 7) (N + 2394) 268 [some (.ref (scA G)), some (.ref (Λ (0, 0, 0))), some (.ref (Λ (10, 0, 0))), some (.ref ao), some (.ref ad), some (.int (nI i)), some (.int (nI k)), none, none] [.int v] M2 := by
    intro k y v σ2 M1 μ2 M2 hk h1 ho hM2 hr
    have h2 := h1.mod hM2
    refine r_istore (q := 270) dL_law_268 (Nat.le_of_ble_eq_true rfl) rfl rfl ?_
    refine r_aload_n (q := 271) dL_law_270 rfl rfl ?_
    refine r_cV (q := 274) (As := []) wc_L_131 rfl im_X9_thrown se_X9_thrown h2.m rfl rfl (Nat.le_of_ble_eq_true rfl) (Nat.le_of_eq (Nat.zero_add _)) (Nat.le_of_eq (Nat.zero_add _)) dL_law_271 rfl rfl (s_X9_thrown h2.2.1 ?_)
    refine r_iload (q := 276) dL_law_274 rfl rfl ?_
    refine r_icmp_eq (q := 279) (t := 281) dL_law_276 (by decide) rfl (fun _ => ?_) (fun c => absurd hr.2.1 c)
    refine r_iload (q := 283) dL_law_281 rfl rfl ?_
    refine r_if_ne (q := 286) (t := 298) dL_law_283 (by decide) rfl (fun c => ?_) (fun c => ?_)
    · refine r_goto (t := 2111) dL_law_298 (by decide) ?_
      exact AW.forget (lv := [some (.ref (scA G)), some (.ref (Λ (0, 0, 0))), some (.ref (Λ (10, 0, 0))), some (.ref ao), some (.ref ad), some (.int (nI i)), none, none, none]) ⟨rfl, rfl, rfl, rfl, rfl, rfl, trivial⟩ (AW.less (by omega) (by omega) (kk _ _ _ h2 hr.1))
    · have k0 := nI_k0 k hk c
      obtain ⟨g, hg⟩ := (ho k0).mod hM2
      refine r_aload_n (q := 287) dL_law_286 rfl rfl ?_
      refine r_iconst (v := nI 0) (q := 288) dL_law_287 (by decide) rfl ?_
      refine r_lald (o := (12, 0, 0)) (q := 289) hg vp_01 dL_law_288 rfl ?_
      refine r_iload (q := 291) dL_law_289 rfl rfl ?_
      refine r_i2l (q := 292) dL_law_291 rfl ?_
      refine r_lcmp (q := 293) dL_law_292 rfl ?_
      rw [outv, hr.2.2 k0, lg_self]
      refine r_if_eq (q := 296) (t := 298) dL_law_293 (by decide) rfl (fun _ => ?_) (fun c => absurd rfl c)
      refine r_goto (t := 2111) dL_law_298 (by decide) ?_
      exact AW.forget (lv := [some (.ref (scA G)), some (.ref (Λ (0, 0, 0))), some (.ref (Λ (10, 0, 0))), some (.ref ao), some (.ref ad), some (.int (nI i)), none, none, none]) ⟨rfl, rfl, rfl, rfl, rfl, rfl, trivial⟩ (AW.less (by omega) (by omega) (kk _ _ _ h2 hr.1))
  have rest : ∀ (k : Nat) (y : Int32) (σ2 : Sg) (M1 : Me), k < 4 → HX G Λ ao ad σ2 μ M1 → (k = 0 → oCell G ao y M1) → (JR (n + 5000) σ2 (mRes μ (oSign (gA μ 0) (scF G (i + 1)) (scF G (i + 2)) (scF G (i + 3))) 3 (tellF (gA μ 0) (((scF G (i + 1))).toNatClampNeg) (((scF G (i + 2))).toNatClampNeg) (((scF G (i + 3))).toNatClampNeg)) z) ∧ gN (mRes μ (oSign (gA μ 0) (scF G (i + 1)) (scF G (i + 2)) (scF G (i + 3))) 3 (tellF (gA μ 0) (((scF G (i + 1))).toNatClampNeg) (((scF G (i + 2))).toNatClampNeg) (((scF G (i + 3))).toNatClampNeg)) z) 4 = nI k ∧ (k = 0 → y = mVal (oSign (gA μ 0) (scF G (i + 1)) (scF G (i + 2)) (scF G (i + 3))) (nI (mSt (tellF (gA μ 0) (((scF G (i + 1))).toNatClampNeg) (((scF G (i + 2))).toNatClampNeg) (((scF G (i + 3))).toNatClampNeg)) (((scF G (i + 1))).toNatClampNeg))))) → AW G (XL tb k0 n0 Z) (d + 15) (K + 7) (N + 2394) 244 [some (.ref (scA G)), some (.ref (Λ (0, 0, 0))), some (.ref (Λ (10, 0, 0))), some (.ref ao), some (.ref ad), some (.int (nI i)), none, none, none] [.int (nI k)] M1 := by
    intro k y σ2 M1 hk h1 ho hr
    refine r_istore (q := 246) dL_law_244 (Nat.le_of_ble_eq_true rfl) rfl rfl ?_
    refine r_aload_n (q := 247) dL_law_246 rfl rfl ?_
    refine r_aload_n (q := 248) dL_law_247 rfl rfl ?_
    refine r_iload (q := 250) dL_law_248 rfl rfl ?_
    refine r_iconst (v := nI 1) (q := 251) dL_law_250 (by decide) rfl ?_
    refine r_iadd (q := 252) dL_law_251 rfl ?_
    refine r_sc (q := 253) (by omega) hl dL_law_252 rfl ?_
    refine r_aload_n (q := 254) dL_law_253 rfl rfl ?_
    refine r_iload (q := 256) dL_law_254 rfl rfl ?_
    refine r_iconst (v := nI 2) (q := 257) dL_law_256 (by decide) rfl ?_
    refine r_iadd (q := 258) dL_law_257 rfl ?_
    refine r_sc (q := 259) (by omega) hl dL_law_258 rfl ?_
    refine r_aload_n (q := 260) dL_law_259 rfl rfl ?_
    refine r_iload (q := 262) dL_law_260 rfl rfl ?_
    refine r_iconst (v := nI 3) (q := 263) dL_law_262 (by decide) rfl ?_
    refine r_iadd (q := 264) dL_law_263 rfl ?_
    refine r_sc (q := 265) (by omega) hl dL_law_264 rfl ?_
    refine r_cV (q := 268) (As := [.int _, .int _, .int _]) wc_L_130 rfl im_X9_sign se_X9_sign h1.m rfl rfl (Nat.le_of_ble_eq_true rfl) (Nat.le_of_eq (Nat.zero_add _)) (Nat.le_of_eq (Nat.zero_add _)) dL_law_265 rfl rfl (s_X9_sign h1.2.1 hz hz8 fun M2 hM2 => ?_)
    exact tail k y _ σ2 M1 _ M2 hk h1 ho hM2 hr
  refine r_aload_n (q := 222) dL_law_221 rfl rfl ?_
  refine r_aload_n (q := 223) dL_law_222 rfl rfl ?_
  refine r_iload (q := 225) dL_law_223 rfl rfl ?_
  refine r_iconst (v := nI 1) (q := 226) dL_law_225 (by decide) rfl ?_
  refine r_iadd (q := 227) dL_law_226 rfl ?_
  refine r_sc (q := 228) (by omega) hl dL_law_227 rfl ?_
  refine r_aload_n (q := 229) dL_law_228 rfl rfl ?_
  refine r_iload (q := 231) dL_law_229 rfl rfl ?_
  refine r_iconst (v := nI 2) (q := 232) dL_law_231 (by decide) rfl ?_
  refine r_iadd (q := 233) dL_law_232 rfl ?_
  refine r_sc (q := 234) (by omega) hl dL_law_233 rfl ?_
  refine r_aload_n (q := 235) dL_law_234 rfl rfl ?_
  refine r_iload (q := 237) dL_law_235 rfl rfl ?_
  refine r_iconst (v := nI 3) (q := 238) dL_law_237 (by decide) rfl ?_
  refine r_iadd (q := 239) dL_law_238 rfl ?_
  refine r_sc (q := 240) (by omega) hl dL_law_239 rfl ?_
  refine r_aload_n (q := 241) dL_law_240 rfl rfl ?_
  have bk := bk1 K
  have bn := bn6 N
  refine r_invSH (X := XL tb k0 n0 Z) (q := 244) (k' := 1) (n' := 6) (k2 := K + 7) (n2 := N + 2394) (As := [.ref _, .int _, .int _, .int _, .ref _]) wh_sign st_L_sign rfl (Nat.le_of_ble_eq_true rfl) bk bn dL_law_241 rfl rfl (h_L_sign h.x fun Q1 QX1 hq hx => ?_)
  have jo := j_sign hj hz hz8 (scF G (i + 1)) (scF G (i + 2)) (scF G (i + 3))
  refine s_X8_sign (S := gS σ 0) (h.1.toS 0) hj.hs.hv (fun e M' hM' => ?_) (fun E e M' hM' => ?_)
  · have h2 := h.cls hM'
    obtain ⟨g, hg⟩ := h2.c0
    obtain ⟨r1, r2, r3⟩ := jo.ok e
    exact hq _ M' ⟨g, hg, rest 0 _ _ _ (by decide) h2.out (fun _ => oM_cell) ⟨r1.up (by omega), r2, fun _ => r3⟩⟩
  · have h2 := h.cls hM'
    obtain ⟨c, c1, c2, c3, c4, c5⟩ := jo.nok E e
    exact hx E M' c c1 (rest c 0 _ _ c5 h2 (fun e => absurd e c4) ⟨c2.up (by omega), c3, fun e => absurd e c4⟩)
theorem lc_2 {G : En} {tb : List ExceptionTableEntry × String} {Λ : Ob → Nat} {ao ad k0 n0 K N n i : Nat} {Z : List Frame → Array Value → State → State → Prop} {σ : Sg} {μ : Mg} {M : Me} {d : Nat} (h : HX G Λ ao ad σ μ M) (hj : JR n σ μ) (hn : n + 5000 ≤ 2 ^ 24) (hn10 : 10 ≤ n) (hi : i + 4 ≤ scL G) (hl : scL G ≤ 2048) (kk : ∀ σ2 μ2 M2, HX G Λ ao ad σ2 μ2 M2 → JR (n + 5000) σ2 μ2 → AW G (XL tb k0 n0 Z) (d + 15) K N 2111 [some (.ref (scA G)), some (.ref (Λ (0, 0, 0))), some (.ref (Λ (10, 0, 0))), some (.ref ao), some (.ref ad), some (.int (nI i)), none, none, none] [] M2) : AW G (XL tb k0 n0 Z) (d + 15) (K + 8) (N + 2400) 301 [some (.ref (scA G)), some (.ref (Λ (0, 0, 0))), some (.ref (Λ (10, 0, 0))), some (.ref ao), some (.ref ad), some (.int (nI i)), none, none, none] [] M := by
  obtain ⟨z, hz8, hz⟩ := hj.z
  have ok := hj.oks hn
  have okf := hj.okf hn
  have tail : ∀ (k : Nat) (y v : Int32) (σ2 : Sg) (M1 : Me) (μ2 : Mg) (M2 : Me), k < 4 → HX G Λ ao ad σ2 μ M1 → (k = 0 → oCell G ao y M1) → RM G Λ M1 μ2 M2 → JR (n + 5000) σ2 μ2 ∧ gN μ2 4 = nI k ∧ (k = 0 → y = v) → AW G (XL tb k0 n0 Z) (d + 15) (K + 7) (N + 2394) 324 [some (.ref (scA G)), some (.ref (Λ (0, 0, 0))), some (.ref (Λ (10, 0, 0))), some (.ref ao), some (.ref ad), some (.int (nI i)), some (.int (nI k)), none, none] [.int v] M2 := by
    intro k y v σ2 M1 μ2 M2 hk h1 ho hM2 hr
    have h2 := h1.mod hM2
    refine r_istore (q := 326) dL_law_324 (Nat.le_of_ble_eq_true rfl) rfl rfl ?_
    refine r_aload_n (q := 327) dL_law_326 rfl rfl ?_
    refine r_cV (q := 330) (As := []) wc_L_131 rfl im_X9_thrown se_X9_thrown h2.m rfl rfl (Nat.le_of_ble_eq_true rfl) (Nat.le_of_eq (Nat.zero_add _)) (Nat.le_of_eq (Nat.zero_add _)) dL_law_327 rfl rfl (s_X9_thrown h2.2.1 ?_)
    refine r_iload (q := 332) dL_law_330 rfl rfl ?_
    refine r_icmp_eq (q := 335) (t := 337) dL_law_332 (by decide) rfl (fun _ => ?_) (fun c => absurd hr.2.1 c)
    refine r_iload (q := 339) dL_law_337 rfl rfl ?_
    refine r_if_ne (q := 342) (t := 354) dL_law_339 (by decide) rfl (fun c => ?_) (fun c => ?_)
    · refine r_goto (t := 2111) dL_law_354 (by decide) ?_
      exact AW.forget (lv := [some (.ref (scA G)), some (.ref (Λ (0, 0, 0))), some (.ref (Λ (10, 0, 0))), some (.ref ao), some (.ref ad), some (.int (nI i)), none, none, none]) ⟨rfl, rfl, rfl, rfl, rfl, rfl, trivial⟩ (AW.less (by omega) (by omega) (kk _ _ _ h2 hr.1))
    · have k0 := nI_k0 k hk c
      obtain ⟨g, hg⟩ := (ho k0).mod hM2
      refine r_aload_n (q := 343) dL_law_342 rfl rfl ?_
      refine r_iconst (v := nI 0) (q := 344) dL_law_343 (by decide) rfl ?_
      refine r_lald (o := (12, 0, 0)) (q := 345) hg vp_01 dL_law_344 rfl ?_
      refine r_iload (q := 347) dL_law_345 rfl rfl ?_
      refine r_i2l (q := 348) dL_law_347 rfl ?_
      refine r_lcmp (q := 349) dL_law_348 rfl ?_
      rw [outv, hr.2.2 k0, lg_self]
      refine r_if_eq (q := 352) (t := 354) dL_law_349 (by decide) rfl (fun _ => ?_) (fun c => absurd rfl c)
      refine r_goto (t := 2111) dL_law_354 (by decide) ?_
      exact AW.forget (lv := [some (.ref (scA G)), some (.ref (Λ (0, 0, 0))), some (.ref (Λ (10, 0, 0))), some (.ref ao), some (.ref ad), some (.int (nI i)), none, none, none]) ⟨rfl, rfl, rfl, rfl, rfl, rfl, trivial⟩ (AW.less (by omega) (by omega) (kk _ _ _ h2 hr.1))
  have rest : ∀ (k : Nat) (y : Int32) (σ2 : Sg) (M1 : Me), k < 4 → HX G Λ ao ad σ2 μ M1 → (k = 0 → oCell G ao y M1) → (JR (n + 5000) σ2 (mRes μ (oUns (gA μ 0) (scF G (i + 1))) 2 (tellF (gA μ 0) (((scF G (i + 1))).toNatClampNeg) 0 0) z) ∧ gN (mRes μ (oUns (gA μ 0) (scF G (i + 1))) 2 (tellF (gA μ 0) (((scF G (i + 1))).toNatClampNeg) 0 0) z) 4 = nI k ∧ (k = 0 → y = mVal (oUns (gA μ 0) (scF G (i + 1))) (nI (mCn (tellF (gA μ 0) (((scF G (i + 1))).toNatClampNeg) 0 0) 0 7)))) → AW G (XL tb k0 n0 Z) (d + 15) (K + 7) (N + 2394) 312 [some (.ref (scA G)), some (.ref (Λ (0, 0, 0))), some (.ref (Λ (10, 0, 0))), some (.ref ao), some (.ref ad), some (.int (nI i)), none, none, none] [.int (nI k)] M1 := by
    intro k y σ2 M1 hk h1 ho hr
    refine r_istore (q := 314) dL_law_312 (Nat.le_of_ble_eq_true rfl) rfl rfl ?_
    refine r_aload_n (q := 315) dL_law_314 rfl rfl ?_
    refine r_aload_n (q := 316) dL_law_315 rfl rfl ?_
    refine r_iload (q := 318) dL_law_316 rfl rfl ?_
    refine r_iconst (v := nI 1) (q := 319) dL_law_318 (by decide) rfl ?_
    refine r_iadd (q := 320) dL_law_319 rfl ?_
    refine r_sc (q := 321) (by omega) hl dL_law_320 rfl ?_
    refine r_cV (q := 324) (As := [.int _]) wc_L_137 rfl im_X9_unsign se_X9_unsign h1.m rfl rfl (Nat.le_of_ble_eq_true rfl) (Nat.le_of_eq (Nat.zero_add _)) (Nat.le_of_eq (Nat.zero_add _)) dL_law_321 rfl rfl (s_X9_unsign h1.2.1 hz hz8 fun M2 hM2 => ?_)
    exact tail k y _ σ2 M1 _ M2 hk h1 ho hM2 hr
  refine r_aload_n (q := 302) dL_law_301 rfl rfl ?_
  refine r_aload_n (q := 303) dL_law_302 rfl rfl ?_
  refine r_iload (q := 305) dL_law_303 rfl rfl ?_
  refine r_iconst (v := nI 1) (q := 306) dL_law_305 (by decide) rfl ?_
  refine r_iadd (q := 307) dL_law_306 rfl ?_
  refine r_sc (q := 308) (by omega) hl dL_law_307 rfl ?_
  refine r_aload_n (q := 309) dL_law_308 rfl rfl ?_
  have bk := bk1 K
  have bn := bn6 N
  refine r_invSH (X := XL tb k0 n0 Z) (q := 312) (k' := 1) (n' := 6) (k2 := K + 7) (n2 := N + 2394) (As := [.ref _, .int _, .ref _]) wh_unsign st_L_unsign rfl (Nat.le_of_ble_eq_true rfl) bk bn dL_law_309 rfl rfl (h_L_unsign h.x fun Q1 QX1 hq hx => ?_)
  have jo := j_unsign hj hz hz8 (scF G (i + 1))
  refine s_X8_unsign (S := gS σ 0) (h.1.toS 0) hj.hs.hv (fun e M' hM' => ?_) (fun E e M' hM' => ?_)
  · have h2 := h.cls hM'
    obtain ⟨g, hg⟩ := h2.c0
    obtain ⟨r1, r2, r3⟩ := jo.ok e
    exact hq _ M' ⟨g, hg, rest 0 _ _ _ (by decide) h2.out (fun _ => oM_cell) ⟨r1.up (by omega), r2, fun _ => r3⟩⟩
  · have h2 := h.cls hM'
    obtain ⟨c, c1, c2, c3, c4, c5⟩ := jo.nok E e
    exact hx E M' c c1 (rest c 0 _ _ c5 h2 (fun e => absurd e c4) ⟨c2.up (by omega), c3, fun e => absurd e c4⟩)
theorem lc_3 {G : En} {tb : List ExceptionTableEntry × String} {Λ : Ob → Nat} {ao ad k0 n0 K N n i : Nat} {Z : List Frame → Array Value → State → State → Prop} {σ : Sg} {μ : Mg} {M : Me} {d : Nat} (h : HX G Λ ao ad σ μ M) (hj : JR n σ μ) (hn : n + 5000 ≤ 2 ^ 24) (hn10 : 10 ≤ n) (hi : i + 4 ≤ scL G) (hl : scL G ≤ 2048) (kk : ∀ σ2 μ2 M2, HX G Λ ao ad σ2 μ2 M2 → JR (n + 5000) σ2 μ2 → AW G (XL tb k0 n0 Z) (d + 15) K N 2111 [some (.ref (scA G)), some (.ref (Λ (0, 0, 0))), some (.ref (Λ (10, 0, 0))), some (.ref ao), some (.ref ad), some (.int (nI i)), none, none, none] [] M2) : AW G (XL tb k0 n0 Z) (d + 15) (K + 8) (N + 2400) 357 [some (.ref (scA G)), some (.ref (Λ (0, 0, 0))), some (.ref (Λ (10, 0, 0))), some (.ref ao), some (.ref ad), some (.int (nI i)), none, none, none] [] M := by
  obtain ⟨z, hz8, hz⟩ := hj.z
  have ok := hj.oks hn
  have okf := hj.okf hn
  have tail : ∀ (k : Nat) (y v : Int32) (σ2 : Sg) (M1 : Me) (μ2 : Mg) (M2 : Me), k < 4 → HX G Λ ao ad σ2 μ M1 → (k = 0 → oCell G ao y M1) → RM G Λ M1 μ2 M2 → JR (n + 5000) σ2 μ2 ∧ gN μ2 4 = nI k ∧ (k = 0 → y = v) → AW G (XL tb k0 n0 Z) (d + 15) (K + 7) (N + 2394) 392 [some (.ref (scA G)), some (.ref (Λ (0, 0, 0))), some (.ref (Λ (10, 0, 0))), some (.ref ao), some (.ref ad), some (.int (nI i)), some (.int (nI k)), none, none] [.int v] M2 := by
    intro k y v σ2 M1 μ2 M2 hk h1 ho hM2 hr
    have h2 := h1.mod hM2
    refine r_istore (q := 394) dL_law_392 (Nat.le_of_ble_eq_true rfl) rfl rfl ?_
    refine r_aload_n (q := 395) dL_law_394 rfl rfl ?_
    refine r_cV (q := 398) (As := []) wc_L_131 rfl im_X9_thrown se_X9_thrown h2.m rfl rfl (Nat.le_of_ble_eq_true rfl) (Nat.le_of_eq (Nat.zero_add _)) (Nat.le_of_eq (Nat.zero_add _)) dL_law_395 rfl rfl (s_X9_thrown h2.2.1 ?_)
    refine r_iload (q := 400) dL_law_398 rfl rfl ?_
    refine r_icmp_eq (q := 403) (t := 405) dL_law_400 (by decide) rfl (fun _ => ?_) (fun c => absurd hr.2.1 c)
    refine r_iload (q := 407) dL_law_405 rfl rfl ?_
    refine r_if_ne (q := 410) (t := 422) dL_law_407 (by decide) rfl (fun c => ?_) (fun c => ?_)
    · refine r_goto (t := 2111) dL_law_422 (by decide) ?_
      exact AW.forget (lv := [some (.ref (scA G)), some (.ref (Λ (0, 0, 0))), some (.ref (Λ (10, 0, 0))), some (.ref ao), some (.ref ad), some (.int (nI i)), none, none, none]) ⟨rfl, rfl, rfl, rfl, rfl, rfl, trivial⟩ (AW.less (by omega) (by omega) (kk _ _ _ h2 hr.1))
    · have k0 := nI_k0 k hk c
      obtain ⟨g, hg⟩ := (ho k0).mod hM2
      refine r_aload_n (q := 411) dL_law_410 rfl rfl ?_
      refine r_iconst (v := nI 0) (q := 412) dL_law_411 (by decide) rfl ?_
      refine r_lald (o := (12, 0, 0)) (q := 413) hg vp_01 dL_law_412 rfl ?_
      refine r_iload (q := 415) dL_law_413 rfl rfl ?_
      refine r_i2l (q := 416) dL_law_415 rfl ?_
      refine r_lcmp (q := 417) dL_law_416 rfl ?_
      rw [outv, hr.2.2 k0, lg_self]
      refine r_if_eq (q := 420) (t := 422) dL_law_417 (by decide) rfl (fun _ => ?_) (fun c => absurd rfl c)
      refine r_goto (t := 2111) dL_law_422 (by decide) ?_
      exact AW.forget (lv := [some (.ref (scA G)), some (.ref (Λ (0, 0, 0))), some (.ref (Λ (10, 0, 0))), some (.ref ao), some (.ref ad), some (.int (nI i)), none, none, none]) ⟨rfl, rfl, rfl, rfl, rfl, rfl, trivial⟩ (AW.less (by omega) (by omega) (kk _ _ _ h2 hr.1))
  have rest : ∀ (k : Nat) (y : Int32) (σ2 : Sg) (M1 : Me), k < 4 → HX G Λ ao ad σ2 μ M1 → (k = 0 → oCell G ao y M1) → (JR (n + 5000) σ2 (mRes μ (oPri (gA μ 0) (scF G (i + 1)) (scF G (i + 2))) 3 (uL (gA μ 0) (((scF G (i + 1))).toNatClampNeg) 2 (((scF G (i + 2))).toNatClampNeg)) z) ∧ gN (mRes μ (oPri (gA μ 0) (scF G (i + 1)) (scF G (i + 2))) 3 (uL (gA μ 0) (((scF G (i + 1))).toNatClampNeg) 2 (((scF G (i + 2))).toNatClampNeg)) z) 4 = nI k ∧ (k = 0 → y = mVal (oPri (gA μ 0) (scF G (i + 1)) (scF G (i + 2))) (nI (lF (gA μ 0) (((scF G (i + 1))).toNatClampNeg) 2)))) → AW G (XL tb k0 n0 Z) (d + 15) (K + 7) (N + 2394) 374 [some (.ref (scA G)), some (.ref (Λ (0, 0, 0))), some (.ref (Λ (10, 0, 0))), some (.ref ao), some (.ref ad), some (.int (nI i)), none, none, none] [.int (nI k)] M1 := by
    intro k y σ2 M1 hk h1 ho hr
    refine r_istore (q := 376) dL_law_374 (Nat.le_of_ble_eq_true rfl) rfl rfl ?_
    refine r_aload_n (q := 377) dL_law_376 rfl rfl ?_
    refine r_aload_n (q := 378) dL_law_377 rfl rfl ?_
    refine r_iload (q := 380) dL_law_378 rfl rfl ?_
    refine r_iconst (v := nI 1) (q := 381) dL_law_380 (by decide) rfl ?_
    refine r_iadd (q := 382) dL_law_381 rfl ?_
    refine r_sc (q := 383) (by omega) hl dL_law_382 rfl ?_
    refine r_aload_n (q := 384) dL_law_383 rfl rfl ?_
    refine r_iload (q := 386) dL_law_384 rfl rfl ?_
    refine r_iconst (v := nI 2) (q := 387) dL_law_386 (by decide) rfl ?_
    refine r_iadd (q := 388) dL_law_387 rfl ?_
    refine r_sc (q := 389) (by omega) hl dL_law_388 rfl ?_
    refine r_cV (q := 392) (As := [.int _, .int _]) wc_L_141 rfl im_X9_priority se_X9_priority h1.m rfl rfl (Nat.le_of_ble_eq_true rfl) (Nat.le_of_eq (Nat.zero_add _)) (Nat.le_of_eq (Nat.zero_add _)) dL_law_389 rfl rfl (s_X9_priority h1.2.1 hz hz8 fun M2 hM2 => ?_)
    exact tail k y _ σ2 M1 _ M2 hk h1 ho hM2 hr
  refine r_aload_n (q := 358) dL_law_357 rfl rfl ?_
  refine r_aload_n (q := 359) dL_law_358 rfl rfl ?_
  refine r_iload (q := 361) dL_law_359 rfl rfl ?_
  refine r_iconst (v := nI 1) (q := 362) dL_law_361 (by decide) rfl ?_
  refine r_iadd (q := 363) dL_law_362 rfl ?_
  refine r_sc (q := 364) (by omega) hl dL_law_363 rfl ?_
  refine r_aload_n (q := 365) dL_law_364 rfl rfl ?_
  refine r_iload (q := 367) dL_law_365 rfl rfl ?_
  refine r_iconst (v := nI 2) (q := 368) dL_law_367 (by decide) rfl ?_
  refine r_iadd (q := 369) dL_law_368 rfl ?_
  refine r_sc (q := 370) (by omega) hl dL_law_369 rfl ?_
  refine r_aload_n (q := 371) dL_law_370 rfl rfl ?_
  have bk := bk1 K
  have bn := bn6 N
  refine r_invSH (X := XL tb k0 n0 Z) (q := 374) (k' := 1) (n' := 6) (k2 := K + 7) (n2 := N + 2394) (As := [.ref _, .int _, .int _, .ref _]) wh_priority st_L_priority rfl (Nat.le_of_ble_eq_true rfl) bk bn dL_law_371 rfl rfl (h_L_priority h.x fun Q1 QX1 hq hx => ?_)
  have jo := j_priority hj hz hz8 (scF G (i + 1)) (scF G (i + 2))
  refine s_X8_priority (S := gS σ 0) (h.1.toS 0) hj.hs.hv (fun e M' hM' => ?_) (fun E e M' hM' => ?_)
  · have h2 := h.cls hM'
    obtain ⟨g, hg⟩ := h2.c0
    obtain ⟨r1, r2, r3⟩ := jo.ok e
    exact hq _ M' ⟨g, hg, rest 0 _ _ _ (by decide) h2.out (fun _ => oM_cell) ⟨r1.up (by omega), r2, fun _ => r3⟩⟩
  · have h2 := h.cls hM'
    obtain ⟨c, c1, c2, c3, c4, c5⟩ := jo.nok E e
    exact hx E M' c c1 (rest c 0 _ _ c5 h2 (fun e => absurd e c4) ⟨c2.up (by omega), c3, fun e => absurd e c4⟩)
theorem lc_4 {G : En} {tb : List ExceptionTableEntry × String} {Λ : Ob → Nat} {ao ad k0 n0 K N n i : Nat} {Z : List Frame → Array Value → State → State → Prop} {σ : Sg} {μ : Mg} {M : Me} {d : Nat} (h : HX G Λ ao ad σ μ M) (hj : JR n σ μ) (hn : n + 5000 ≤ 2 ^ 24) (hn10 : 10 ≤ n) (hi : i + 4 ≤ scL G) (hl : scL G ≤ 2048) (kk : ∀ σ2 μ2 M2, HX G Λ ao ad σ2 μ2 M2 → JR (n + 5000) σ2 μ2 → AW G (XL tb k0 n0 Z) (d + 15) K N 2111 [some (.ref (scA G)), some (.ref (Λ (0, 0, 0))), some (.ref (Λ (10, 0, 0))), some (.ref ao), some (.ref ad), some (.int (nI i)), none, none, none] [] M2) : AW G (XL tb k0 n0 Z) (d + 15) (K + 8) (N + 2400) 425 [some (.ref (scA G)), some (.ref (Λ (0, 0, 0))), some (.ref (Λ (10, 0, 0))), some (.ref ao), some (.ref ad), some (.int (nI i)), none, none, none] [] M := by
  obtain ⟨z, hz8, hz⟩ := hj.z
  have ok := hj.oks hn
  have okf := hj.okf hn
  have tail : ∀ (k : Nat) (y v : Int32) (σ2 : Sg) (M1 : Me) (μ2 : Mg) (M2 : Me), k < 4 → HX G Λ ao ad σ2 μ M1 → (k = 0 → oCell G ao y M1) → RM G Λ M1 μ2 M2 → JR (n + 5000) σ2 μ2 ∧ gN μ2 4 = nI k ∧ (k = 0 → y = v) → AW G (XL tb k0 n0 Z) (d + 15) (K + 7) (N + 2394) 472 [some (.ref (scA G)), some (.ref (Λ (0, 0, 0))), some (.ref (Λ (10, 0, 0))), some (.ref ao), some (.ref ad), some (.int (nI i)), some (.int (nI k)), none, none] [.int v] M2 := by
    intro k y v σ2 M1 μ2 M2 hk h1 ho hM2 hr
    have h2 := h1.mod hM2
    refine r_istore (q := 474) dL_law_472 (Nat.le_of_ble_eq_true rfl) rfl rfl ?_
    refine r_aload_n (q := 475) dL_law_474 rfl rfl ?_
    refine r_cV (q := 478) (As := []) wc_L_131 rfl im_X9_thrown se_X9_thrown h2.m rfl rfl (Nat.le_of_ble_eq_true rfl) (Nat.le_of_eq (Nat.zero_add _)) (Nat.le_of_eq (Nat.zero_add _)) dL_law_475 rfl rfl (s_X9_thrown h2.2.1 ?_)
    refine r_iload (q := 480) dL_law_478 rfl rfl ?_
    refine r_icmp_eq (q := 483) (t := 485) dL_law_480 (by decide) rfl (fun _ => ?_) (fun c => absurd hr.2.1 c)
    refine r_iload (q := 487) dL_law_485 rfl rfl ?_
    refine r_if_ne (q := 490) (t := 502) dL_law_487 (by decide) rfl (fun c => ?_) (fun c => ?_)
    · refine r_goto (t := 2111) dL_law_502 (by decide) ?_
      exact AW.forget (lv := [some (.ref (scA G)), some (.ref (Λ (0, 0, 0))), some (.ref (Λ (10, 0, 0))), some (.ref ao), some (.ref ad), some (.int (nI i)), none, none, none]) ⟨rfl, rfl, rfl, rfl, rfl, rfl, trivial⟩ (AW.less (by omega) (by omega) (kk _ _ _ h2 hr.1))
    · have k0 := nI_k0 k hk c
      obtain ⟨g, hg⟩ := (ho k0).mod hM2
      refine r_aload_n (q := 491) dL_law_490 rfl rfl ?_
      refine r_iconst (v := nI 0) (q := 492) dL_law_491 (by decide) rfl ?_
      refine r_lald (o := (12, 0, 0)) (q := 493) hg vp_01 dL_law_492 rfl ?_
      refine r_iload (q := 495) dL_law_493 rfl rfl ?_
      refine r_i2l (q := 496) dL_law_495 rfl ?_
      refine r_lcmp (q := 497) dL_law_496 rfl ?_
      rw [outv, hr.2.2 k0, lg_self]
      refine r_if_eq (q := 500) (t := 502) dL_law_497 (by decide) rfl (fun _ => ?_) (fun c => absurd rfl c)
      refine r_goto (t := 2111) dL_law_502 (by decide) ?_
      exact AW.forget (lv := [some (.ref (scA G)), some (.ref (Λ (0, 0, 0))), some (.ref (Λ (10, 0, 0))), some (.ref ao), some (.ref ad), some (.int (nI i)), none, none, none]) ⟨rfl, rfl, rfl, rfl, rfl, rfl, trivial⟩ (AW.less (by omega) (by omega) (kk _ _ _ h2 hr.1))
  have rest : ∀ (k : Nat) (y : Int32) (σ2 : Sg) (M1 : Me), k < 4 → HX G Λ ao ad σ2 μ M1 → (k = 0 → oCell G ao y M1) → (JR (n + 5000) σ2 (mRes μ (oPla (scF G (i + 1)) (scF G (i + 2)) (scF G (i + 3))) 3 (uP (uP (gA μ 0) (((scF G (i + 1))).toNatClampNeg) 0 (((scF G (i + 2))).toNatClampNeg)) (((scF G (i + 1))).toNatClampNeg) 1 (((scF G (i + 3))).toNatClampNeg)) z) ∧ gN (mRes μ (oPla (scF G (i + 1)) (scF G (i + 2)) (scF G (i + 3))) 3 (uP (uP (gA μ 0) (((scF G (i + 1))).toNatClampNeg) 0 (((scF G (i + 2))).toNatClampNeg)) (((scF G (i + 1))).toNatClampNeg) 1 (((scF G (i + 3))).toNatClampNeg)) z) 4 = nI k ∧ (k = 0 → y = mVal (oPla (scF G (i + 1)) (scF G (i + 2)) (scF G (i + 3))) (nI (mPc (uP (uP (gA μ 0) (((scF G (i + 1))).toNatClampNeg) 0 (((scF G (i + 2))).toNatClampNeg)) (((scF G (i + 1))).toNatClampNeg) 1 (((scF G (i + 3))).toNatClampNeg)) 4)))) → AW G (XL tb k0 n0 Z) (d + 15) (K + 7) (N + 2394) 448 [some (.ref (scA G)), some (.ref (Λ (0, 0, 0))), some (.ref (Λ (10, 0, 0))), some (.ref ao), some (.ref ad), some (.int (nI i)), none, none, none] [.int (nI k)] M1 := by
    intro k y σ2 M1 hk h1 ho hr
    refine r_istore (q := 450) dL_law_448 (Nat.le_of_ble_eq_true rfl) rfl rfl ?_
    refine r_aload_n (q := 451) dL_law_450 rfl rfl ?_
    refine r_aload_n (q := 452) dL_law_451 rfl rfl ?_
    refine r_iload (q := 454) dL_law_452 rfl rfl ?_
    refine r_iconst (v := nI 1) (q := 455) dL_law_454 (by decide) rfl ?_
    refine r_iadd (q := 456) dL_law_455 rfl ?_
    refine r_sc (q := 457) (by omega) hl dL_law_456 rfl ?_
    refine r_aload_n (q := 458) dL_law_457 rfl rfl ?_
    refine r_iload (q := 460) dL_law_458 rfl rfl ?_
    refine r_iconst (v := nI 2) (q := 461) dL_law_460 (by decide) rfl ?_
    refine r_iadd (q := 462) dL_law_461 rfl ?_
    refine r_sc (q := 463) (by omega) hl dL_law_462 rfl ?_
    refine r_aload_n (q := 464) dL_law_463 rfl rfl ?_
    refine r_iload (q := 466) dL_law_464 rfl rfl ?_
    refine r_iconst (v := nI 3) (q := 467) dL_law_466 (by decide) rfl ?_
    refine r_iadd (q := 468) dL_law_467 rfl ?_
    refine r_sc (q := 469) (by omega) hl dL_law_468 rfl ?_
    refine r_cV (q := 472) (As := [.int _, .int _, .int _]) wc_L_144 rfl im_X9_platform se_X9_platform h1.m rfl rfl (Nat.le_of_ble_eq_true rfl) (Nat.le_of_eq (Nat.zero_add _)) (Nat.le_of_eq (Nat.zero_add _)) dL_law_469 rfl rfl (s_X9_platform h1.2.1 hz hz8 fun M2 hM2 => ?_)
    exact tail k y _ σ2 M1 _ M2 hk h1 ho hM2 hr
  refine r_aload_n (q := 426) dL_law_425 rfl rfl ?_
  refine r_aload_n (q := 427) dL_law_426 rfl rfl ?_
  refine r_iload (q := 429) dL_law_427 rfl rfl ?_
  refine r_iconst (v := nI 1) (q := 430) dL_law_429 (by decide) rfl ?_
  refine r_iadd (q := 431) dL_law_430 rfl ?_
  refine r_sc (q := 432) (by omega) hl dL_law_431 rfl ?_
  refine r_aload_n (q := 433) dL_law_432 rfl rfl ?_
  refine r_iload (q := 435) dL_law_433 rfl rfl ?_
  refine r_iconst (v := nI 2) (q := 436) dL_law_435 (by decide) rfl ?_
  refine r_iadd (q := 437) dL_law_436 rfl ?_
  refine r_sc (q := 438) (by omega) hl dL_law_437 rfl ?_
  refine r_aload_n (q := 439) dL_law_438 rfl rfl ?_
  refine r_iload (q := 441) dL_law_439 rfl rfl ?_
  refine r_iconst (v := nI 3) (q := 442) dL_law_441 (by decide) rfl ?_
  refine r_iadd (q := 443) dL_law_442 rfl ?_
  refine r_sc (q := 444) (by omega) hl dL_law_443 rfl ?_
  refine r_aload_n (q := 445) dL_law_444 rfl rfl ?_
  have bk := bk1 K
  have bn := bn6 N
  refine r_invSH (X := XL tb k0 n0 Z) (q := 448) (k' := 1) (n' := 6) (k2 := K + 7) (n2 := N + 2394) (As := [.ref _, .int _, .int _, .int _, .ref _]) wh_platform st_L_platform rfl (Nat.le_of_ble_eq_true rfl) bk bn dL_law_445 rfl rfl (h_L_platform h.x fun Q1 QX1 hq hx => ?_)
  have jo := j_platform hj hz hz8 (scF G (i + 1)) (scF G (i + 2)) (scF G (i + 3))
  refine s_X8_platform (S := gS σ 0) (h.1.toS 0) hj.hs.hv (fun e M' hM' => ?_) (fun E e M' hM' => ?_)
  · have h2 := h.cls hM'
    obtain ⟨g, hg⟩ := h2.c0
    obtain ⟨r1, r2, r3⟩ := jo.ok e
    rw [pla_n] at r1
    exact hq _ M' ⟨g, hg, rest 0 _ _ _ (by decide) h2.out (fun _ => oM_cell) ⟨r1.up (by omega), r2, fun _ => r3⟩⟩
  · have h2 := h.cls hM'
    obtain ⟨c, c1, c2, c3, c4, c5⟩ := jo.nok E e
    rw [pla_n] at c2
    exact hx E M' c c1 (rest c 0 _ _ c5 h2 (fun e => absurd e c4) ⟨c2.up (by omega), c3, fun e => absurd e c4⟩)
theorem lc_10 {G : En} {tb : List ExceptionTableEntry × String} {Λ : Ob → Nat} {ao ad k0 n0 K N n i : Nat} {Z : List Frame → Array Value → State → State → Prop} {σ : Sg} {μ : Mg} {M : Me} {d : Nat} (h : HX G Λ ao ad σ μ M) (hj : JR n σ μ) (hn : n + 5000 ≤ 2 ^ 24) (hn10 : 10 ≤ n) (hi : i + 4 ≤ scL G) (hl : scL G ≤ 2048) (kk : ∀ σ2 μ2 M2, HX G Λ ao ad σ2 μ2 M2 → JR (n + 5000) σ2 μ2 → AW G (XL tb k0 n0 Z) (d + 15) K N 2111 [some (.ref (scA G)), some (.ref (Λ (0, 0, 0))), some (.ref (Λ (10, 0, 0))), some (.ref ao), some (.ref ad), some (.int (nI i)), none, none, none] [] M2) : AW G (XL tb k0 n0 Z) (d + 15) (K + 8) (N + 2400) 806 [some (.ref (scA G)), some (.ref (Λ (0, 0, 0))), some (.ref (Λ (10, 0, 0))), some (.ref ao), some (.ref ad), some (.int (nI i)), none, none, none] [] M := by
  obtain ⟨z, hz8, hz⟩ := hj.z
  have ok := hj.oks hn
  have okf := hj.okf hn
  have tail : ∀ (k : Nat) (y v : Int32) (σ2 : Sg) (M1 : Me) (μ2 : Mg) (M2 : Me), k < 4 → HX G Λ ao ad σ2 μ M1 → (k = 0 → oCell G ao y M1) → RM G Λ M1 μ2 M2 → JR (n + 5000) σ2 μ2 ∧ gN μ2 4 = nI k ∧ (k = 0 → y = v) → AW G (XL tb k0 n0 Z) (d + 15) (K + 7) (N + 2394) 829 [some (.ref (scA G)), some (.ref (Λ (0, 0, 0))), some (.ref (Λ (10, 0, 0))), some (.ref ao), some (.ref ad), some (.int (nI i)), some (.int (nI k)), none, none] [.int v] M2 := by
    intro k y v σ2 M1 μ2 M2 hk h1 ho hM2 hr
    have h2 := h1.mod hM2
    refine r_istore (q := 831) dL_law_829 (Nat.le_of_ble_eq_true rfl) rfl rfl ?_
    refine r_aload_n (q := 832) dL_law_831 rfl rfl ?_
    refine r_cV (q := 835) (As := []) wc_L_131 rfl im_X9_thrown se_X9_thrown h2.m rfl rfl (Nat.le_of_ble_eq_true rfl) (Nat.le_of_eq (Nat.zero_add _)) (Nat.le_of_eq (Nat.zero_add _)) dL_law_832 rfl rfl (s_X9_thrown h2.2.1 ?_)
    refine r_iload (q := 837) dL_law_835 rfl rfl ?_
    refine r_icmp_eq (q := 840) (t := 842) dL_law_837 (by decide) rfl (fun _ => ?_) (fun c => absurd hr.2.1 c)
    refine r_iload (q := 844) dL_law_842 rfl rfl ?_
    refine r_if_ne (q := 847) (t := 859) dL_law_844 (by decide) rfl (fun c => ?_) (fun c => ?_)
    · refine r_goto (t := 2111) dL_law_859 (by decide) ?_
      exact AW.forget (lv := [some (.ref (scA G)), some (.ref (Λ (0, 0, 0))), some (.ref (Λ (10, 0, 0))), some (.ref ao), some (.ref ad), some (.int (nI i)), none, none, none]) ⟨rfl, rfl, rfl, rfl, rfl, rfl, trivial⟩ (AW.less (by omega) (by omega) (kk _ _ _ h2 hr.1))
    · have k0 := nI_k0 k hk c
      obtain ⟨g, hg⟩ := (ho k0).mod hM2
      refine r_aload_n (q := 848) dL_law_847 rfl rfl ?_
      refine r_iconst (v := nI 0) (q := 849) dL_law_848 (by decide) rfl ?_
      refine r_lald (o := (12, 0, 0)) (q := 850) hg vp_01 dL_law_849 rfl ?_
      refine r_iload (q := 852) dL_law_850 rfl rfl ?_
      refine r_i2l (q := 853) dL_law_852 rfl ?_
      refine r_lcmp (q := 854) dL_law_853 rfl ?_
      rw [outv, hr.2.2 k0, lg_self]
      refine r_if_eq (q := 857) (t := 859) dL_law_854 (by decide) rfl (fun _ => ?_) (fun c => absurd rfl c)
      refine r_goto (t := 2111) dL_law_859 (by decide) ?_
      exact AW.forget (lv := [some (.ref (scA G)), some (.ref (Λ (0, 0, 0))), some (.ref (Λ (10, 0, 0))), some (.ref ao), some (.ref ad), some (.int (nI i)), none, none, none]) ⟨rfl, rfl, rfl, rfl, rfl, rfl, trivial⟩ (AW.less (by omega) (by omega) (kk _ _ _ h2 hr.1))
  have rest : ∀ (k : Nat) (y : Int32) (σ2 : Sg) (M1 : Me), k < 4 → HX G Λ ao ad σ2 μ M1 → (k = 0 → oCell G ao y M1) → (JR (n + 5000) σ2 (mRes μ (oWhi (gA μ 0) (scF G (i + 1))) 2 (whF (gA μ 0) (((scF G (i + 1))).toNatClampNeg)) z) ∧ gN (mRes μ (oWhi (gA μ 0) (scF G (i + 1))) 2 (whF (gA μ 0) (((scF G (i + 1))).toNatClampNeg)) z) 4 = nI k ∧ (k = 0 → y = mVal (oWhi (gA μ 0) (scF G (i + 1))) (nI (lF (gA μ 0) (((scF G (i + 1))).toNatClampNeg) 3 - mSt (gA μ 0) (((scF G (i + 1))).toNatClampNeg))))) → AW G (XL tb k0 n0 Z) (d + 15) (K + 7) (N + 2394) 817 [some (.ref (scA G)), some (.ref (Λ (0, 0, 0))), some (.ref (Λ (10, 0, 0))), some (.ref ao), some (.ref ad), some (.int (nI i)), none, none, none] [.int (nI k)] M1 := by
    intro k y σ2 M1 hk h1 ho hr
    refine r_istore (q := 819) dL_law_817 (Nat.le_of_ble_eq_true rfl) rfl rfl ?_
    refine r_aload_n (q := 820) dL_law_819 rfl rfl ?_
    refine r_aload_n (q := 821) dL_law_820 rfl rfl ?_
    refine r_iload (q := 823) dL_law_821 rfl rfl ?_
    refine r_iconst (v := nI 1) (q := 824) dL_law_823 (by decide) rfl ?_
    refine r_iadd (q := 825) dL_law_824 rfl ?_
    refine r_sc (q := 826) (by omega) hl dL_law_825 rfl ?_
    refine r_cV (q := 829) (As := [.int _]) wc_L_165 rfl im_X9_whistle se_X9_whistle h1.m rfl rfl (Nat.le_of_ble_eq_true rfl) (Nat.le_of_eq (Nat.zero_add _)) (Nat.le_of_eq (Nat.zero_add _)) dL_law_826 rfl rfl (s_X9_whistle h1.2.1 hz hz8 okf.1 okf.2.1 fun M2 hM2 => ?_)
    exact tail k y _ σ2 M1 _ M2 hk h1 ho hM2 hr
  refine r_aload_n (q := 807) dL_law_806 rfl rfl ?_
  refine r_aload_n (q := 808) dL_law_807 rfl rfl ?_
  refine r_iload (q := 810) dL_law_808 rfl rfl ?_
  refine r_iconst (v := nI 1) (q := 811) dL_law_810 (by decide) rfl ?_
  refine r_iadd (q := 812) dL_law_811 rfl ?_
  refine r_sc (q := 813) (by omega) hl dL_law_812 rfl ?_
  refine r_aload_n (q := 814) dL_law_813 rfl rfl ?_
  have bk := bk1 K
  have bn := bn6 N
  refine r_invSH (X := XL tb k0 n0 Z) (q := 817) (k' := 1) (n' := 6) (k2 := K + 7) (n2 := N + 2394) (As := [.ref _, .int _, .ref _]) wh_whistle st_L_whistle rfl (Nat.le_of_ble_eq_true rfl) bk bn dL_law_814 rfl rfl (h_L_whistle h.x fun Q1 QX1 hq hx => ?_)
  have jo := j_whistle hj hz hz8 (scF G (i + 1))
  refine s_X8_whistle (S := gS σ 0) (h.1.toS 0) hj.hs.hv ok.1 ok.2.1 ok.2.2.2.1 (fun e M' hM' => ?_) (fun E e M' hM' => ?_)
  · have h2 := h.cls hM'
    obtain ⟨g, hg⟩ := h2.c0
    obtain ⟨r1, r2, r3⟩ := jo.ok e
    exact hq _ M' ⟨g, hg, rest 0 _ _ _ (by decide) h2.out (fun _ => oM_cell) ⟨r1.up (by omega), r2, fun _ => r3⟩⟩
  · have h2 := h.cls hM'
    obtain ⟨c, c1, c2, c3, c4, c5⟩ := jo.nok E e
    exact hx E M' c c1 (rest c 0 _ _ c5 h2 (fun e => absurd e c4) ⟨c2.up (by omega), c3, fun e => absurd e c4⟩)
theorem lc_11 {G : En} {tb : List ExceptionTableEntry × String} {Λ : Ob → Nat} {ao ad k0 n0 K N n i : Nat} {Z : List Frame → Array Value → State → State → Prop} {σ : Sg} {μ : Mg} {M : Me} {d : Nat} (h : HX G Λ ao ad σ μ M) (hj : JR n σ μ) (hn : n + 5000 ≤ 2 ^ 24) (hn10 : 10 ≤ n) (hi : i + 4 ≤ scL G) (hl : scL G ≤ 2048) (kk : ∀ σ2 μ2 M2, HX G Λ ao ad σ2 μ2 M2 → JR (n + 5000) σ2 μ2 → AW G (XL tb k0 n0 Z) (d + 15) K N 2111 [some (.ref (scA G)), some (.ref (Λ (0, 0, 0))), some (.ref (Λ (10, 0, 0))), some (.ref ao), some (.ref ad), some (.int (nI i)), none, none, none] [] M2) : AW G (XL tb k0 n0 Z) (d + 15) (K + 8) (N + 2400) 862 [some (.ref (scA G)), some (.ref (Λ (0, 0, 0))), some (.ref (Λ (10, 0, 0))), some (.ref ao), some (.ref ad), some (.int (nI i)), none, none, none] [] M := by
  obtain ⟨z, hz8, hz⟩ := hj.z
  have ok := hj.oks hn
  have okf := hj.okf hn
  have tail : ∀ (k : Nat) (y v : Int32) (σ2 : Sg) (M1 : Me) (μ2 : Mg) (M2 : Me), k < 4 → HX G Λ ao ad σ2 μ M1 → (k = 0 → oCell G ao y M1) → RM G Λ M1 μ2 M2 → JR (n + 5000) σ2 μ2 ∧ gN μ2 4 = nI k ∧ (k = 0 → y = v) → AW G (XL tb k0 n0 Z) (d + 15) (K + 7) (N + 2394) 897 [some (.ref (scA G)), some (.ref (Λ (0, 0, 0))), some (.ref (Λ (10, 0, 0))), some (.ref ao), some (.ref ad), some (.int (nI i)), some (.int (nI k)), none, none] [.int v] M2 := by
    intro k y v σ2 M1 μ2 M2 hk h1 ho hM2 hr
    have h2 := h1.mod hM2
    refine r_istore (q := 899) dL_law_897 (Nat.le_of_ble_eq_true rfl) rfl rfl ?_
    refine r_aload_n (q := 900) dL_law_899 rfl rfl ?_
    refine r_cV (q := 903) (As := []) wc_L_131 rfl im_X9_thrown se_X9_thrown h2.m rfl rfl (Nat.le_of_ble_eq_true rfl) (Nat.le_of_eq (Nat.zero_add _)) (Nat.le_of_eq (Nat.zero_add _)) dL_law_900 rfl rfl (s_X9_thrown h2.2.1 ?_)
    refine r_iload (q := 905) dL_law_903 rfl rfl ?_
    refine r_icmp_eq (q := 908) (t := 910) dL_law_905 (by decide) rfl (fun _ => ?_) (fun c => absurd hr.2.1 c)
    refine r_iload (q := 912) dL_law_910 rfl rfl ?_
    refine r_if_ne (q := 915) (t := 927) dL_law_912 (by decide) rfl (fun c => ?_) (fun c => ?_)
    · refine r_goto (t := 2111) dL_law_927 (by decide) ?_
      exact AW.forget (lv := [some (.ref (scA G)), some (.ref (Λ (0, 0, 0))), some (.ref (Λ (10, 0, 0))), some (.ref ao), some (.ref ad), some (.int (nI i)), none, none, none]) ⟨rfl, rfl, rfl, rfl, rfl, rfl, trivial⟩ (AW.less (by omega) (by omega) (kk _ _ _ h2 hr.1))
    · have k0 := nI_k0 k hk c
      obtain ⟨g, hg⟩ := (ho k0).mod hM2
      refine r_aload_n (q := 916) dL_law_915 rfl rfl ?_
      refine r_iconst (v := nI 0) (q := 917) dL_law_916 (by decide) rfl ?_
      refine r_lald (o := (12, 0, 0)) (q := 918) hg vp_01 dL_law_917 rfl ?_
      refine r_iload (q := 920) dL_law_918 rfl rfl ?_
      refine r_i2l (q := 921) dL_law_920 rfl ?_
      refine r_lcmp (q := 922) dL_law_921 rfl ?_
      rw [outv, hr.2.2 k0, lg_self]
      refine r_if_eq (q := 925) (t := 927) dL_law_922 (by decide) rfl (fun _ => ?_) (fun c => absurd rfl c)
      refine r_goto (t := 2111) dL_law_927 (by decide) ?_
      exact AW.forget (lv := [some (.ref (scA G)), some (.ref (Λ (0, 0, 0))), some (.ref (Λ (10, 0, 0))), some (.ref ao), some (.ref ad), some (.int (nI i)), none, none, none]) ⟨rfl, rfl, rfl, rfl, rfl, rfl, trivial⟩ (AW.less (by omega) (by omega) (kk _ _ _ h2 hr.1))
  have rest : ∀ (k : Nat) (y : Int32) (σ2 : Sg) (M1 : Me), k < 4 → HX G Λ ao ad σ2 μ M1 → (k = 0 → oCell G ao y M1) → (JR (n + 5000) σ2 (mRes μ (oLi (gA μ 0) (scF G (i + 1)) (scF G (i + 2))) 3 (liF (gA μ 0) (((scF G (i + 1))).toNatClampNeg) (((scF G (i + 2))).toNatClampNeg)) z) ∧ gN (mRes μ (oLi (gA μ 0) (scF G (i + 1)) (scF G (i + 2))) 3 (liF (gA μ 0) (((scF G (i + 1))).toNatClampNeg) (((scF G (i + 2))).toNatClampNeg)) z) 4 = nI k ∧ (k = 0 → y = mVal (oLi (gA μ 0) (scF G (i + 1)) (scF G (i + 2))) (nI (lF (gA μ 0) (((scF G (i + 1))).toNatClampNeg) 3 - 2 * mSt (gA μ 0) (((scF G (i + 2))).toNatClampNeg))))) → AW G (XL tb k0 n0 Z) (d + 15) (K + 7) (N + 2394) 879 [some (.ref (scA G)), some (.ref (Λ (0, 0, 0))), some (.ref (Λ (10, 0, 0))), some (.ref ao), some (.ref ad), some (.int (nI i)), none, none, none] [.int (nI k)] M1 := by
    intro k y σ2 M1 hk h1 ho hr
    refine r_istore (q := 881) dL_law_879 (Nat.le_of_ble_eq_true rfl) rfl rfl ?_
    refine r_aload_n (q := 882) dL_law_881 rfl rfl ?_
    refine r_aload_n (q := 883) dL_law_882 rfl rfl ?_
    refine r_iload (q := 885) dL_law_883 rfl rfl ?_
    refine r_iconst (v := nI 1) (q := 886) dL_law_885 (by decide) rfl ?_
    refine r_iadd (q := 887) dL_law_886 rfl ?_
    refine r_sc (q := 888) (by omega) hl dL_law_887 rfl ?_
    refine r_aload_n (q := 889) dL_law_888 rfl rfl ?_
    refine r_iload (q := 891) dL_law_889 rfl rfl ?_
    refine r_iconst (v := nI 2) (q := 892) dL_law_891 (by decide) rfl ?_
    refine r_iadd (q := 893) dL_law_892 rfl ?_
    refine r_sc (q := 894) (by omega) hl dL_law_893 rfl ?_
    refine r_cV (q := 897) (As := [.int _, .int _]) wc_L_168 rfl im_X9_lie se_X9_lie h1.m rfl rfl (Nat.le_of_ble_eq_true rfl) (Nat.le_of_eq (Nat.zero_add _)) (Nat.le_of_eq (Nat.zero_add _)) dL_law_894 rfl rfl (s_X9_lie h1.2.1 hz hz8 okf.1 okf.2.1 fun M2 hM2 => ?_)
    exact tail k y _ σ2 M1 _ M2 hk h1 ho hM2 hr
  refine r_aload_n (q := 863) dL_law_862 rfl rfl ?_
  refine r_aload_n (q := 864) dL_law_863 rfl rfl ?_
  refine r_iload (q := 866) dL_law_864 rfl rfl ?_
  refine r_iconst (v := nI 1) (q := 867) dL_law_866 (by decide) rfl ?_
  refine r_iadd (q := 868) dL_law_867 rfl ?_
  refine r_sc (q := 869) (by omega) hl dL_law_868 rfl ?_
  refine r_aload_n (q := 870) dL_law_869 rfl rfl ?_
  refine r_iload (q := 872) dL_law_870 rfl rfl ?_
  refine r_iconst (v := nI 2) (q := 873) dL_law_872 (by decide) rfl ?_
  refine r_iadd (q := 874) dL_law_873 rfl ?_
  refine r_sc (q := 875) (by omega) hl dL_law_874 rfl ?_
  refine r_aload_n (q := 876) dL_law_875 rfl rfl ?_
  have bk := bk1 K
  have bn := bn6 N
  refine r_invSH (X := XL tb k0 n0 Z) (q := 879) (k' := 1) (n' := 6) (k2 := K + 7) (n2 := N + 2394) (As := [.ref _, .int _, .int _, .ref _]) wh_lie st_L_lie rfl (Nat.le_of_ble_eq_true rfl) bk bn dL_law_876 rfl rfl (h_L_lie h.x fun Q1 QX1 hq hx => ?_)
  have jo := j_lie hj hz hz8 (scF G (i + 1)) (scF G (i + 2))
  refine s_X8_lie (S := gS σ 0) (h.1.toS 0) hj.hs.hv ok.1 ok.2.1 ok.2.2.2.1 (fun e M' hM' => ?_) (fun E e M' hM' => ?_)
  · have h2 := h.cls hM'
    obtain ⟨g, hg⟩ := h2.c0
    obtain ⟨r1, r2, r3⟩ := jo.ok e
    exact hq _ M' ⟨g, hg, rest 0 _ _ _ (by decide) h2.out (fun _ => oM_cell) ⟨r1.up (by omega), r2, fun _ => r3⟩⟩
  · have h2 := h.cls hM'
    obtain ⟨c, c1, c2, c3, c4, c5⟩ := jo.nok E e
    exact hx E M' c c1 (rest c 0 _ _ c5 h2 (fun e => absurd e c4) ⟨c2.up (by omega), c3, fun e => absurd e c4⟩)
theorem lc_12 {G : En} {tb : List ExceptionTableEntry × String} {Λ : Ob → Nat} {ao ad k0 n0 K N n i : Nat} {Z : List Frame → Array Value → State → State → Prop} {σ : Sg} {μ : Mg} {M : Me} {d : Nat} (h : HX G Λ ao ad σ μ M) (hj : JR n σ μ) (hn : n + 5000 ≤ 2 ^ 24) (hn10 : 10 ≤ n) (hi : i + 4 ≤ scL G) (hl : scL G ≤ 2048) (kk : ∀ σ2 μ2 M2, HX G Λ ao ad σ2 μ2 M2 → JR (n + 5000) σ2 μ2 → AW G (XL tb k0 n0 Z) (d + 15) K N 2111 [some (.ref (scA G)), some (.ref (Λ (0, 0, 0))), some (.ref (Λ (10, 0, 0))), some (.ref ao), some (.ref ad), some (.int (nI i)), none, none, none] [] M2) : AW G (XL tb k0 n0 Z) (d + 15) (K + 8) (N + 2400) 930 [some (.ref (scA G)), some (.ref (Λ (0, 0, 0))), some (.ref (Λ (10, 0, 0))), some (.ref ao), some (.ref ad), some (.int (nI i)), none, none, none] [] M := by
  obtain ⟨z, hz8, hz⟩ := hj.z
  have ok := hj.oks hn
  have okf := hj.okf hn
  have tail : ∀ (k : Nat) (y v : Int32) (σ2 : Sg) (M1 : Me) (μ2 : Mg) (M2 : Me), k < 4 → HX G Λ ao ad σ2 μ M1 → (k = 0 → oCell G ao y M1) → RM G Λ M1 μ2 M2 → JR (n + 5000) σ2 μ2 ∧ gN μ2 4 = nI k ∧ (k = 0 → y = v) → AW G (XL tb k0 n0 Z) (d + 15) (K + 7) (N + 2394) 953 [some (.ref (scA G)), some (.ref (Λ (0, 0, 0))), some (.ref (Λ (10, 0, 0))), some (.ref ao), some (.ref ad), some (.int (nI i)), some (.int (nI k)), none, none] [.int v] M2 := by
    intro k y v σ2 M1 μ2 M2 hk h1 ho hM2 hr
    have h2 := h1.mod hM2
    refine r_istore (q := 955) dL_law_953 (Nat.le_of_ble_eq_true rfl) rfl rfl ?_
    refine r_aload_n (q := 956) dL_law_955 rfl rfl ?_
    refine r_cV (q := 959) (As := []) wc_L_131 rfl im_X9_thrown se_X9_thrown h2.m rfl rfl (Nat.le_of_ble_eq_true rfl) (Nat.le_of_eq (Nat.zero_add _)) (Nat.le_of_eq (Nat.zero_add _)) dL_law_956 rfl rfl (s_X9_thrown h2.2.1 ?_)
    refine r_iload (q := 961) dL_law_959 rfl rfl ?_
    refine r_icmp_eq (q := 964) (t := 966) dL_law_961 (by decide) rfl (fun _ => ?_) (fun c => absurd hr.2.1 c)
    refine r_iload (q := 968) dL_law_966 rfl rfl ?_
    refine r_if_ne (q := 971) (t := 983) dL_law_968 (by decide) rfl (fun c => ?_) (fun c => ?_)
    · refine r_goto (t := 2111) dL_law_983 (by decide) ?_
      exact AW.forget (lv := [some (.ref (scA G)), some (.ref (Λ (0, 0, 0))), some (.ref (Λ (10, 0, 0))), some (.ref ao), some (.ref ad), some (.int (nI i)), none, none, none]) ⟨rfl, rfl, rfl, rfl, rfl, rfl, trivial⟩ (AW.less (by omega) (by omega) (kk _ _ _ h2 hr.1))
    · have k0 := nI_k0 k hk c
      obtain ⟨g, hg⟩ := (ho k0).mod hM2
      refine r_aload_n (q := 972) dL_law_971 rfl rfl ?_
      refine r_iconst (v := nI 0) (q := 973) dL_law_972 (by decide) rfl ?_
      refine r_lald (o := (12, 0, 0)) (q := 974) hg vp_01 dL_law_973 rfl ?_
      refine r_iload (q := 976) dL_law_974 rfl rfl ?_
      refine r_i2l (q := 977) dL_law_976 rfl ?_
      refine r_lcmp (q := 978) dL_law_977 rfl ?_
      rw [outv, hr.2.2 k0, lg_self]
      refine r_if_eq (q := 981) (t := 983) dL_law_978 (by decide) rfl (fun _ => ?_) (fun c => absurd rfl c)
      refine r_goto (t := 2111) dL_law_983 (by decide) ?_
      exact AW.forget (lv := [some (.ref (scA G)), some (.ref (Λ (0, 0, 0))), some (.ref (Λ (10, 0, 0))), some (.ref ao), some (.ref ad), some (.int (nI i)), none, none, none]) ⟨rfl, rfl, rfl, rfl, rfl, rfl, trivial⟩ (AW.less (by omega) (by omega) (kk _ _ _ h2 hr.1))
  have rest : ∀ (k : Nat) (y : Int32) (σ2 : Sg) (M1 : Me), k < 4 → HX G Λ ao ad σ2 μ M1 → (k = 0 → oCell G ao y M1) → (JR (n + 5000) σ2 (mRes μ (oXp (gA μ 0) (scF G (i + 1))) 2 (exF (gA μ 0) (((scF G (i + 1))).toNatClampNeg) (mAt (gA μ 0) (((scF G (i + 1))).toNatClampNeg))) z) ∧ gN (mRes μ (oXp (gA μ 0) (scF G (i + 1))) 2 (exF (gA μ 0) (((scF G (i + 1))).toNatClampNeg) (mAt (gA μ 0) (((scF G (i + 1))).toNatClampNeg))) z) 4 = nI k ∧ (k = 0 → y = mVal (oXp (gA μ 0) (scF G (i + 1))) (nI (lF (gA μ 0) (((scF G (i + 1))).toNatClampNeg) 5 + 3)))) → AW G (XL tb k0 n0 Z) (d + 15) (K + 7) (N + 2394) 941 [some (.ref (scA G)), some (.ref (Λ (0, 0, 0))), some (.ref (Λ (10, 0, 0))), some (.ref ao), some (.ref ad), some (.int (nI i)), none, none, none] [.int (nI k)] M1 := by
    intro k y σ2 M1 hk h1 ho hr
    refine r_istore (q := 943) dL_law_941 (Nat.le_of_ble_eq_true rfl) rfl rfl ?_
    refine r_aload_n (q := 944) dL_law_943 rfl rfl ?_
    refine r_aload_n (q := 945) dL_law_944 rfl rfl ?_
    refine r_iload (q := 947) dL_law_945 rfl rfl ?_
    refine r_iconst (v := nI 1) (q := 948) dL_law_947 (by decide) rfl ?_
    refine r_iadd (q := 949) dL_law_948 rfl ?_
    refine r_sc (q := 950) (by omega) hl dL_law_949 rfl ?_
    refine r_cV (q := 953) (As := [.int _]) wc_L_171 rfl im_X9_expose se_X9_expose h1.m rfl rfl (Nat.le_of_ble_eq_true rfl) (Nat.le_of_eq (Nat.zero_add _)) (Nat.le_of_eq (Nat.zero_add _)) dL_law_950 rfl rfl (s_X9_expose h1.2.1 hz hz8 okf.2.2.1 okf.2.1.2.1 (fun j hj7 => ⟨(okf.2.2.2.2.1 j hj7).2.2, (okf.2.2.2.2.1 j hj7).2.1⟩) okf.2.2.2.2.2.1 fun M2 hM2 => ?_)
    exact tail k y _ σ2 M1 _ M2 hk h1 ho hM2 hr
  refine r_aload_n (q := 931) dL_law_930 rfl rfl ?_
  refine r_aload_n (q := 932) dL_law_931 rfl rfl ?_
  refine r_iload (q := 934) dL_law_932 rfl rfl ?_
  refine r_iconst (v := nI 1) (q := 935) dL_law_934 (by decide) rfl ?_
  refine r_iadd (q := 936) dL_law_935 rfl ?_
  refine r_sc (q := 937) (by omega) hl dL_law_936 rfl ?_
  refine r_aload_n (q := 938) dL_law_937 rfl rfl ?_
  have bk := bk1 K
  have bn := bn6 N
  refine r_invSH (X := XL tb k0 n0 Z) (q := 941) (k' := 1) (n' := 6) (k2 := K + 7) (n2 := N + 2394) (As := [.ref _, .int _, .ref _]) wh_expose st_L_expose rfl (Nat.le_of_ble_eq_true rfl) bk bn dL_law_938 rfl rfl (h_L_expose h.x fun Q1 QX1 hq hx => ?_)
  have jo := j_expose hj hz hz8 (scF G (i + 1))
  refine s_X8_expose (S := gS σ 0) (h.1.toS 0) hj.hs.hv ok.1 (fun e M' hM' => ?_) (fun E e M' hM' => ?_)
  · have h2 := h.cls hM'
    obtain ⟨g, hg⟩ := h2.c0
    obtain ⟨r1, r2, r3⟩ := jo.ok e
    exact hq _ M' ⟨g, hg, rest 0 _ _ _ (by decide) h2.out (fun _ => oM_cell) ⟨r1.up (by omega), r2, fun _ => r3⟩⟩
  · have h2 := h.cls hM'
    obtain ⟨c, c1, c2, c3, c4, c5⟩ := jo.nok E e
    exact hx E M' c c1 (rest c 0 _ _ c5 h2 (fun e => absurd e c4) ⟨c2.up (by omega), c3, fun e => absurd e c4⟩)
theorem lc_13 {G : En} {tb : List ExceptionTableEntry × String} {Λ : Ob → Nat} {ao ad k0 n0 K N n i : Nat} {Z : List Frame → Array Value → State → State → Prop} {σ : Sg} {μ : Mg} {M : Me} {d : Nat} (h : HX G Λ ao ad σ μ M) (hj : JR n σ μ) (hn : n + 5000 ≤ 2 ^ 24) (hn10 : 10 ≤ n) (hi : i + 4 ≤ scL G) (hl : scL G ≤ 2048) (kk : ∀ σ2 μ2 M2, HX G Λ ao ad σ2 μ2 M2 → JR (n + 5000) σ2 μ2 → AW G (XL tb k0 n0 Z) (d + 15) K N 2111 [some (.ref (scA G)), some (.ref (Λ (0, 0, 0))), some (.ref (Λ (10, 0, 0))), some (.ref ao), some (.ref ad), some (.int (nI i)), none, none, none] [] M2) : AW G (XL tb k0 n0 Z) (d + 15) (K + 8) (N + 2400) 986 [some (.ref (scA G)), some (.ref (Λ (0, 0, 0))), some (.ref (Λ (10, 0, 0))), some (.ref ao), some (.ref ad), some (.int (nI i)), none, none, none] [] M := by
  obtain ⟨z, hz8, hz⟩ := hj.z
  have ok := hj.oks hn
  have okf := hj.okf hn
  have tail : ∀ (k : Nat) (y v : Int32) (σ2 : Sg) (M1 : Me) (μ2 : Mg) (M2 : Me), k < 4 → HX G Λ ao ad σ2 μ M1 → (k = 0 → oCell G ao y M1) → RM G Λ M1 μ2 M2 → JR (n + 5000) σ2 μ2 ∧ gN μ2 4 = nI k ∧ (k = 0 → y = v) → AW G (XL tb k0 n0 Z) (d + 15) (K + 7) (N + 2394) 1021 [some (.ref (scA G)), some (.ref (Λ (0, 0, 0))), some (.ref (Λ (10, 0, 0))), some (.ref ao), some (.ref ad), some (.int (nI i)), some (.int (nI k)), none, none] [.int v] M2 := by
    intro k y v σ2 M1 μ2 M2 hk h1 ho hM2 hr
    have h2 := h1.mod hM2
    refine r_istore (q := 1023) dL_law_1021 (Nat.le_of_ble_eq_true rfl) rfl rfl ?_
    refine r_aload_n (q := 1024) dL_law_1023 rfl rfl ?_
    refine r_cV (q := 1027) (As := []) wc_L_131 rfl im_X9_thrown se_X9_thrown h2.m rfl rfl (Nat.le_of_ble_eq_true rfl) (Nat.le_of_eq (Nat.zero_add _)) (Nat.le_of_eq (Nat.zero_add _)) dL_law_1024 rfl rfl (s_X9_thrown h2.2.1 ?_)
    refine r_iload (q := 1029) dL_law_1027 rfl rfl ?_
    refine r_icmp_eq (q := 1032) (t := 1034) dL_law_1029 (by decide) rfl (fun _ => ?_) (fun c => absurd hr.2.1 c)
    refine r_iload (q := 1036) dL_law_1034 rfl rfl ?_
    refine r_if_ne (q := 1039) (t := 1051) dL_law_1036 (by decide) rfl (fun c => ?_) (fun c => ?_)
    · refine r_goto (t := 2111) dL_law_1051 (by decide) ?_
      exact AW.forget (lv := [some (.ref (scA G)), some (.ref (Λ (0, 0, 0))), some (.ref (Λ (10, 0, 0))), some (.ref ao), some (.ref ad), some (.int (nI i)), none, none, none]) ⟨rfl, rfl, rfl, rfl, rfl, rfl, trivial⟩ (AW.less (by omega) (by omega) (kk _ _ _ h2 hr.1))
    · have k0 := nI_k0 k hk c
      obtain ⟨g, hg⟩ := (ho k0).mod hM2
      refine r_aload_n (q := 1040) dL_law_1039 rfl rfl ?_
      refine r_iconst (v := nI 0) (q := 1041) dL_law_1040 (by decide) rfl ?_
      refine r_lald (o := (12, 0, 0)) (q := 1042) hg vp_01 dL_law_1041 rfl ?_
      refine r_iload (q := 1044) dL_law_1042 rfl rfl ?_
      refine r_i2l (q := 1045) dL_law_1044 rfl ?_
      refine r_lcmp (q := 1046) dL_law_1045 rfl ?_
      rw [outv, hr.2.2 k0, lg_self]
      refine r_if_eq (q := 1049) (t := 1051) dL_law_1046 (by decide) rfl (fun _ => ?_) (fun c => absurd rfl c)
      refine r_goto (t := 2111) dL_law_1051 (by decide) ?_
      exact AW.forget (lv := [some (.ref (scA G)), some (.ref (Λ (0, 0, 0))), some (.ref (Λ (10, 0, 0))), some (.ref ao), some (.ref ad), some (.int (nI i)), none, none, none]) ⟨rfl, rfl, rfl, rfl, rfl, rfl, trivial⟩ (AW.less (by omega) (by omega) (kk _ _ _ h2 hr.1))
  have rest : ∀ (k : Nat) (y : Int32) (σ2 : Sg) (M1 : Me), k < 4 → HX G Λ ao ad σ2 μ M1 → (k = 0 → oCell G ao y M1) → (JR (n + 5000) σ2 (mRes μ (oMu (gA μ 0) (scF G (i + 1)) (scF G (i + 2))) 3 (uL (gA μ 0) (((scF G (i + 1))).toNatClampNeg) 5 (((scF G (i + 2))).toNatClampNeg)) z) ∧ gN (mRes μ (oMu (gA μ 0) (scF G (i + 1)) (scF G (i + 2))) 3 (uL (gA μ 0) (((scF G (i + 1))).toNatClampNeg) 5 (((scF G (i + 2))).toNatClampNeg)) z) 4 = nI k ∧ (k = 0 → y = mVal (oMu (gA μ 0) (scF G (i + 1)) (scF G (i + 2))) (nI (mCn (uL (gA μ 0) (((scF G (i + 1))).toNatClampNeg) 5 (((scF G (i + 2))).toNatClampNeg)) 5 7)))) → AW G (XL tb k0 n0 Z) (d + 15) (K + 7) (N + 2394) 1003 [some (.ref (scA G)), some (.ref (Λ (0, 0, 0))), some (.ref (Λ (10, 0, 0))), some (.ref ao), some (.ref ad), some (.int (nI i)), none, none, none] [.int (nI k)] M1 := by
    intro k y σ2 M1 hk h1 ho hr
    refine r_istore (q := 1005) dL_law_1003 (Nat.le_of_ble_eq_true rfl) rfl rfl ?_
    refine r_aload_n (q := 1006) dL_law_1005 rfl rfl ?_
    refine r_aload_n (q := 1007) dL_law_1006 rfl rfl ?_
    refine r_iload (q := 1009) dL_law_1007 rfl rfl ?_
    refine r_iconst (v := nI 1) (q := 1010) dL_law_1009 (by decide) rfl ?_
    refine r_iadd (q := 1011) dL_law_1010 rfl ?_
    refine r_sc (q := 1012) (by omega) hl dL_law_1011 rfl ?_
    refine r_aload_n (q := 1013) dL_law_1012 rfl rfl ?_
    refine r_iload (q := 1015) dL_law_1013 rfl rfl ?_
    refine r_iconst (v := nI 2) (q := 1016) dL_law_1015 (by decide) rfl ?_
    refine r_iadd (q := 1017) dL_law_1016 rfl ?_
    refine r_sc (q := 1018) (by omega) hl dL_law_1017 rfl ?_
    refine r_cV (q := 1021) (As := [.int _, .int _]) wc_L_174 rfl im_X9_mute se_X9_mute h1.m rfl rfl (Nat.le_of_ble_eq_true rfl) (Nat.le_of_eq (Nat.zero_add _)) (Nat.le_of_eq (Nat.zero_add _)) dL_law_1018 rfl rfl (s_X9_mute h1.2.1 hz hz8 fun M2 hM2 => ?_)
    exact tail k y _ σ2 M1 _ M2 hk h1 ho hM2 hr
  refine r_aload_n (q := 987) dL_law_986 rfl rfl ?_
  refine r_aload_n (q := 988) dL_law_987 rfl rfl ?_
  refine r_iload (q := 990) dL_law_988 rfl rfl ?_
  refine r_iconst (v := nI 1) (q := 991) dL_law_990 (by decide) rfl ?_
  refine r_iadd (q := 992) dL_law_991 rfl ?_
  refine r_sc (q := 993) (by omega) hl dL_law_992 rfl ?_
  refine r_aload_n (q := 994) dL_law_993 rfl rfl ?_
  refine r_iload (q := 996) dL_law_994 rfl rfl ?_
  refine r_iconst (v := nI 2) (q := 997) dL_law_996 (by decide) rfl ?_
  refine r_iadd (q := 998) dL_law_997 rfl ?_
  refine r_sc (q := 999) (by omega) hl dL_law_998 rfl ?_
  refine r_aload_n (q := 1000) dL_law_999 rfl rfl ?_
  have bk := bk1 K
  have bn := bn6 N
  refine r_invSH (X := XL tb k0 n0 Z) (q := 1003) (k' := 1) (n' := 6) (k2 := K + 7) (n2 := N + 2394) (As := [.ref _, .int _, .int _, .ref _]) wh_mute st_L_mute rfl (Nat.le_of_ble_eq_true rfl) bk bn dL_law_1000 rfl rfl (h_L_mute h.x fun Q1 QX1 hq hx => ?_)
  have jo := j_mute hj hz hz8 (scF G (i + 1)) (scF G (i + 2))
  refine s_X8_mute (S := gS σ 0) (h.1.toS 0) hj.hs.hv (fun e M' hM' => ?_) (fun E e M' hM' => ?_)
  · have h2 := h.cls hM'
    obtain ⟨g, hg⟩ := h2.c0
    obtain ⟨r1, r2, r3⟩ := jo.ok e
    exact hq _ M' ⟨g, hg, rest 0 _ _ _ (by decide) h2.out (fun _ => oM_cell) ⟨r1.up (by omega), r2, fun _ => r3⟩⟩
  · have h2 := h.cls hM'
    obtain ⟨c, c1, c2, c3, c4, c5⟩ := jo.nok E e
    exact hx E M' c c1 (rest c 0 _ _ c5 h2 (fun e => absurd e c4) ⟨c2.up (by omega), c3, fun e => absurd e c4⟩)
theorem lc_14 {G : En} {tb : List ExceptionTableEntry × String} {Λ : Ob → Nat} {ao ad k0 n0 K N n i : Nat} {Z : List Frame → Array Value → State → State → Prop} {σ : Sg} {μ : Mg} {M : Me} {d : Nat} (h : HX G Λ ao ad σ μ M) (hj : JR n σ μ) (hn : n + 5000 ≤ 2 ^ 24) (hn10 : 10 ≤ n) (hi : i + 4 ≤ scL G) (hl : scL G ≤ 2048) (kk : ∀ σ2 μ2 M2, HX G Λ ao ad σ2 μ2 M2 → JR (n + 5000) σ2 μ2 → AW G (XL tb k0 n0 Z) (d + 15) K N 2111 [some (.ref (scA G)), some (.ref (Λ (0, 0, 0))), some (.ref (Λ (10, 0, 0))), some (.ref ao), some (.ref ad), some (.int (nI i)), none, none, none] [] M2) : AW G (XL tb k0 n0 Z) (d + 15) (K + 8) (N + 2400) 1054 [some (.ref (scA G)), some (.ref (Λ (0, 0, 0))), some (.ref (Λ (10, 0, 0))), some (.ref ao), some (.ref ad), some (.int (nI i)), none, none, none] [] M := by
  obtain ⟨z, hz8, hz⟩ := hj.z
  have ok := hj.oks hn
  have okf := hj.okf hn
  have tail : ∀ (k : Nat) (y v : Int32) (σ2 : Sg) (M1 : Me) (μ2 : Mg) (M2 : Me), k < 4 → HX G Λ ao ad σ2 μ M1 → (k = 0 → oCell G ao y M1) → RM G Λ M1 μ2 M2 → JR (n + 5000) σ2 μ2 ∧ gN μ2 4 = nI k ∧ (k = 0 → y = v) → AW G (XL tb k0 n0 Z) (d + 15) (K + 7) (N + 2394) 1077 [some (.ref (scA G)), some (.ref (Λ (0, 0, 0))), some (.ref (Λ (10, 0, 0))), some (.ref ao), some (.ref ad), some (.int (nI i)), some (.int (nI k)), none, none] [.int v] M2 := by
    intro k y v σ2 M1 μ2 M2 hk h1 ho hM2 hr
    have h2 := h1.mod hM2
    refine r_istore (q := 1079) dL_law_1077 (Nat.le_of_ble_eq_true rfl) rfl rfl ?_
    refine r_aload_n (q := 1080) dL_law_1079 rfl rfl ?_
    refine r_cV (q := 1083) (As := []) wc_L_131 rfl im_X9_thrown se_X9_thrown h2.m rfl rfl (Nat.le_of_ble_eq_true rfl) (Nat.le_of_eq (Nat.zero_add _)) (Nat.le_of_eq (Nat.zero_add _)) dL_law_1080 rfl rfl (s_X9_thrown h2.2.1 ?_)
    refine r_iload (q := 1085) dL_law_1083 rfl rfl ?_
    refine r_icmp_eq (q := 1088) (t := 1090) dL_law_1085 (by decide) rfl (fun _ => ?_) (fun c => absurd hr.2.1 c)
    refine r_iload (q := 1092) dL_law_1090 rfl rfl ?_
    refine r_if_ne (q := 1095) (t := 1107) dL_law_1092 (by decide) rfl (fun c => ?_) (fun c => ?_)
    · refine r_goto (t := 2111) dL_law_1107 (by decide) ?_
      exact AW.forget (lv := [some (.ref (scA G)), some (.ref (Λ (0, 0, 0))), some (.ref (Λ (10, 0, 0))), some (.ref ao), some (.ref ad), some (.int (nI i)), none, none, none]) ⟨rfl, rfl, rfl, rfl, rfl, rfl, trivial⟩ (AW.less (by omega) (by omega) (kk _ _ _ h2 hr.1))
    · have k0 := nI_k0 k hk c
      obtain ⟨g, hg⟩ := (ho k0).mod hM2
      refine r_aload_n (q := 1096) dL_law_1095 rfl rfl ?_
      refine r_iconst (v := nI 0) (q := 1097) dL_law_1096 (by decide) rfl ?_
      refine r_lald (o := (12, 0, 0)) (q := 1098) hg vp_01 dL_law_1097 rfl ?_
      refine r_iload (q := 1100) dL_law_1098 rfl rfl ?_
      refine r_i2l (q := 1101) dL_law_1100 rfl ?_
      refine r_lcmp (q := 1102) dL_law_1101 rfl ?_
      rw [outv, hr.2.2 k0, lg_self]
      refine r_if_eq (q := 1105) (t := 1107) dL_law_1102 (by decide) rfl (fun _ => ?_) (fun c => absurd rfl c)
      refine r_goto (t := 2111) dL_law_1107 (by decide) ?_
      exact AW.forget (lv := [some (.ref (scA G)), some (.ref (Λ (0, 0, 0))), some (.ref (Λ (10, 0, 0))), some (.ref ao), some (.ref ad), some (.int (nI i)), none, none, none]) ⟨rfl, rfl, rfl, rfl, rfl, rfl, trivial⟩ (AW.less (by omega) (by omega) (kk _ _ _ h2 hr.1))
  have rest : ∀ (k : Nat) (y : Int32) (σ2 : Sg) (M1 : Me), k < 4 → HX G Λ ao ad σ2 μ M1 → (k = 0 → oCell G ao y M1) → (JR (n + 5000) σ2 (mRes μ (oFi (gA μ 0) (scF G (i + 1))) 2 (payF (gA μ 0) (((scF G (i + 1))).toNatClampNeg)) z) ∧ gN (mRes μ (oFi (gA μ 0) (scF G (i + 1))) 2 (payF (gA μ 0) (((scF G (i + 1))).toNatClampNeg)) z) 4 = nI k ∧ (k = 0 → y = mVal (oFi (gA μ 0) (scF G (i + 1))) (nI (lF (gA μ 0) (((scF G (i + 1))).toNatClampNeg) 4 - 2 * lF (gA μ 0) (((scF G (i + 1))).toNatClampNeg) 5)))) → AW G (XL tb k0 n0 Z) (d + 15) (K + 7) (N + 2394) 1065 [some (.ref (scA G)), some (.ref (Λ (0, 0, 0))), some (.ref (Λ (10, 0, 0))), some (.ref ao), some (.ref ad), some (.int (nI i)), none, none, none] [.int (nI k)] M1 := by
    intro k y σ2 M1 hk h1 ho hr
    refine r_istore (q := 1067) dL_law_1065 (Nat.le_of_ble_eq_true rfl) rfl rfl ?_
    refine r_aload_n (q := 1068) dL_law_1067 rfl rfl ?_
    refine r_aload_n (q := 1069) dL_law_1068 rfl rfl ?_
    refine r_iload (q := 1071) dL_law_1069 rfl rfl ?_
    refine r_iconst (v := nI 1) (q := 1072) dL_law_1071 (by decide) rfl ?_
    refine r_iadd (q := 1073) dL_law_1072 rfl ?_
    refine r_sc (q := 1074) (by omega) hl dL_law_1073 rfl ?_
    refine r_cV (q := 1077) (As := [.int _]) wc_L_177 rfl im_X9_fine se_X9_fine h1.m rfl rfl (Nat.le_of_ble_eq_true rfl) (Nat.le_of_eq (Nat.zero_add _)) (Nat.le_of_eq (Nat.zero_add _)) dL_law_1074 rfl rfl (s_X9_fine h1.2.1 hz hz8 (fun j hj7 => ⟨(okf.2.2.2.2.1 j hj7).1, (okf.2.2.2.2.1 j hj7).2.1⟩) okf.2.2.2.2.2.2 fun M2 hM2 => ?_)
    exact tail k y _ σ2 M1 _ M2 hk h1 ho hM2 hr
  refine r_aload_n (q := 1055) dL_law_1054 rfl rfl ?_
  refine r_aload_n (q := 1056) dL_law_1055 rfl rfl ?_
  refine r_iload (q := 1058) dL_law_1056 rfl rfl ?_
  refine r_iconst (v := nI 1) (q := 1059) dL_law_1058 (by decide) rfl ?_
  refine r_iadd (q := 1060) dL_law_1059 rfl ?_
  refine r_sc (q := 1061) (by omega) hl dL_law_1060 rfl ?_
  refine r_aload_n (q := 1062) dL_law_1061 rfl rfl ?_
  have bk := bk1 K
  have bn := bn6 N
  refine r_invSH (X := XL tb k0 n0 Z) (q := 1065) (k' := 1) (n' := 6) (k2 := K + 7) (n2 := N + 2394) (As := [.ref _, .int _, .ref _]) wh_fine st_L_fine rfl (Nat.le_of_ble_eq_true rfl) bk bn dL_law_1062 rfl rfl (h_L_fine h.x fun Q1 QX1 hq hx => ?_)
  have jo := j_fine hj hz hz8 (scF G (i + 1))
  refine s_X8_fine (S := gS σ 0) (h.1.toS 0) hj.hs.hv ok.1 ok.2.2.1 (fun e M' hM' => ?_) (fun E e M' hM' => ?_)
  · have h2 := h.cls hM'
    obtain ⟨g, hg⟩ := h2.c0
    obtain ⟨r1, r2, r3⟩ := jo.ok e
    exact hq _ M' ⟨g, hg, rest 0 _ _ _ (by decide) h2.out (fun _ => oM_cell) ⟨r1.up (by omega), r2, fun _ => r3⟩⟩
  · have h2 := h.cls hM'
    obtain ⟨c, c1, c2, c3, c4, c5⟩ := jo.nok E e
    exact hx E M' c c1 (rest c 0 _ _ c5 h2 (fun e => absurd e c4) ⟨c2.up (by omega), c3, fun e => absurd e c4⟩)
theorem lc_5 {G : En} {tb : List ExceptionTableEntry × String} {Λ : Ob → Nat} {ao ad k0 n0 K N n i : Nat} {Z : List Frame → Array Value → State → State → Prop} {σ : Sg} {μ : Mg} {M : Me} {d : Nat} (h : HX G Λ ao ad σ μ M) (hj : JR n σ μ) (hn : n + 5000 ≤ 2 ^ 24) (hn10 : 10 ≤ n) (hi : i + 4 ≤ scL G) (hl : scL G ≤ 2048) (kk : ∀ σ2 μ2 M2, HX G Λ ao ad σ2 μ2 M2 → JR (n + 5000) σ2 μ2 → AW G (XL tb k0 n0 Z) (d + 15) K N 2111 [some (.ref (scA G)), some (.ref (Λ (0, 0, 0))), some (.ref (Λ (10, 0, 0))), some (.ref ao), some (.ref ad), some (.int (nI i)), none, none, none] [] M2) : AW G (XL tb k0 n0 Z) (d + 15) (K + 8) (N + 2400) 505 [some (.ref (scA G)), some (.ref (Λ (0, 0, 0))), some (.ref (Λ (10, 0, 0))), some (.ref ao), some (.ref ad), some (.int (nI i)), none, none, none] [] M := by
  obtain ⟨z, hz8, hz⟩ := hj.z
  have ok := hj.oks hn
  have okf := hj.okf hn
  have tail : ∀ (k : Nat) (y v : Int32) (σ2 : Sg) (M1 : Me) (μ2 : Mg) (M2 : Me), k < 4 → HX G Λ ao ad σ2 μ M1 → (k = 0 → oCell G ao y M1) → RM G Λ M1 μ2 M2 → JR (n + 5000) σ2 μ2 ∧ gN μ2 4 = nI k ∧ (k = 0 → y = v) → AW G (XL tb k0 n0 Z) (d + 15) (K + 7) (N + 2394) 540 [some (.ref (scA G)), some (.ref (Λ (0, 0, 0))), some (.ref (Λ (10, 0, 0))), some (.ref ao), some (.ref ad), some (.int (nI i)), some (.int (nI k)), none, none] [.int v] M2 := by
    intro k y v σ2 M1 μ2 M2 hk h1 ho hM2 hr
    have h2 := h1.mod hM2
    refine r_istore (q := 542) dL_law_540 (Nat.le_of_ble_eq_true rfl) rfl rfl ?_
    refine r_aload_n (q := 543) dL_law_542 rfl rfl ?_
    refine r_cV (q := 546) (As := []) wc_L_131 rfl im_X9_thrown se_X9_thrown h2.m rfl rfl (Nat.le_of_ble_eq_true rfl) (Nat.le_of_eq (Nat.zero_add _)) (Nat.le_of_eq (Nat.zero_add _)) dL_law_543 rfl rfl (s_X9_thrown h2.2.1 ?_)
    refine r_iload (q := 548) dL_law_546 rfl rfl ?_
    refine r_icmp_eq (q := 551) (t := 553) dL_law_548 (by decide) rfl (fun _ => ?_) (fun c => absurd hr.2.1 c)
    refine r_iload (q := 555) dL_law_553 rfl rfl ?_
    refine r_if_ne (q := 558) (t := 570) dL_law_555 (by decide) rfl (fun c => ?_) (fun c => ?_)
    · refine r_goto (t := 2111) dL_law_570 (by decide) ?_
      exact AW.forget (lv := [some (.ref (scA G)), some (.ref (Λ (0, 0, 0))), some (.ref (Λ (10, 0, 0))), some (.ref ao), some (.ref ad), some (.int (nI i)), none, none, none]) ⟨rfl, rfl, rfl, rfl, rfl, rfl, trivial⟩ (AW.less (by omega) (by omega) (kk _ _ _ h2 hr.1))
    · have k0 := nI_k0 k hk c
      obtain ⟨g, hg⟩ := (ho k0).mod hM2
      refine r_aload_n (q := 559) dL_law_558 rfl rfl ?_
      refine r_iconst (v := nI 0) (q := 560) dL_law_559 (by decide) rfl ?_
      refine r_lald (o := (12, 0, 0)) (q := 561) hg vp_01 dL_law_560 rfl ?_
      refine r_iload (q := 563) dL_law_561 rfl rfl ?_
      refine r_i2l (q := 564) dL_law_563 rfl ?_
      refine r_lcmp (q := 565) dL_law_564 rfl ?_
      rw [outv, hr.2.2 k0, lg_self]
      refine r_if_eq (q := 568) (t := 570) dL_law_565 (by decide) rfl (fun _ => ?_) (fun c => absurd rfl c)
      refine r_goto (t := 2111) dL_law_570 (by decide) ?_
      exact AW.forget (lv := [some (.ref (scA G)), some (.ref (Λ (0, 0, 0))), some (.ref (Λ (10, 0, 0))), some (.ref ao), some (.ref ad), some (.int (nI i)), none, none, none]) ⟨rfl, rfl, rfl, rfl, rfl, rfl, trivial⟩ (AW.less (by omega) (by omega) (kk _ _ _ h2 hr.1))
  have rest : ∀ (k : Nat) (y : Int32) (σ2 : Sg) (M1 : Me), k < 4 → HX G Λ ao ad σ2 μ M1 → (k = 0 → oCell G ao y M1) → (JR (n + 5000) σ2 (sN μ 4 (nI (mqLn (gA μ 0) (scF G (i + 1)) (scF G (i + 2))).1)) ∧ gN (sN μ 4 (nI (mqLn (gA μ 0) (scF G (i + 1)) (scF G (i + 2))).1)) 4 = nI k ∧ (k = 0 → y = (mqLn (gA μ 0) (scF G (i + 1)) (scF G (i + 2))).2)) → AW G (XL tb k0 n0 Z) (d + 15) (K + 7) (N + 2394) 522 [some (.ref (scA G)), some (.ref (Λ (0, 0, 0))), some (.ref (Λ (10, 0, 0))), some (.ref ao), some (.ref ad), some (.int (nI i)), none, none, none] [.int (nI k)] M1 := by
    intro k y σ2 M1 hk h1 ho hr
    refine r_istore (q := 524) dL_law_522 (Nat.le_of_ble_eq_true rfl) rfl rfl ?_
    refine r_aload_n (q := 525) dL_law_524 rfl rfl ?_
    refine r_aload_n (q := 526) dL_law_525 rfl rfl ?_
    refine r_iload (q := 528) dL_law_526 rfl rfl ?_
    refine r_iconst (v := nI 1) (q := 529) dL_law_528 (by decide) rfl ?_
    refine r_iadd (q := 530) dL_law_529 rfl ?_
    refine r_sc (q := 531) (by omega) hl dL_law_530 rfl ?_
    refine r_aload_n (q := 532) dL_law_531 rfl rfl ?_
    refine r_iload (q := 534) dL_law_532 rfl rfl ?_
    refine r_iconst (v := nI 2) (q := 535) dL_law_534 (by decide) rfl ?_
    refine r_iadd (q := 536) dL_law_535 rfl ?_
    refine r_sc (q := 537) (by omega) hl dL_law_536 rfl ?_
    refine r_cV (q := 540) (As := [.int _, .int _]) wc_L_147 rfl im_X9_lineOf se_X9_lineOf h1.m rfl rfl (Nat.le_of_ble_eq_true rfl) (Nat.le_of_eq (Nat.zero_add _)) (Nat.le_of_eq (Nat.zero_add _)) dL_law_537 rfl rfl (s_X9_lineOf h1.2.1 fun M2 hM2 => ?_)
    exact tail k y _ σ2 M1 _ M2 hk h1 ho hM2 hr
  refine r_aload_n (q := 506) dL_law_505 rfl rfl ?_
  refine r_aload_n (q := 507) dL_law_506 rfl rfl ?_
  refine r_iload (q := 509) dL_law_507 rfl rfl ?_
  refine r_iconst (v := nI 1) (q := 510) dL_law_509 (by decide) rfl ?_
  refine r_iadd (q := 511) dL_law_510 rfl ?_
  refine r_sc (q := 512) (by omega) hl dL_law_511 rfl ?_
  refine r_aload_n (q := 513) dL_law_512 rfl rfl ?_
  refine r_iload (q := 515) dL_law_513 rfl rfl ?_
  refine r_iconst (v := nI 2) (q := 516) dL_law_515 (by decide) rfl ?_
  refine r_iadd (q := 517) dL_law_516 rfl ?_
  refine r_sc (q := 518) (by omega) hl dL_law_517 rfl ?_
  refine r_aload_n (q := 519) dL_law_518 rfl rfl ?_
  have bk := bk1 K
  have bn := bn6 N
  refine r_invSH (X := XL tb k0 n0 Z) (q := 522) (k' := 1) (n' := 6) (k2 := K + 7) (n2 := N + 2394) (As := [.ref _, .int _, .int _, .ref _]) wh_lineOf st_L_lineOf rfl (Nat.le_of_ble_eq_true rfl) bk bn dL_law_519 rfl rfl (h_L_lineOf h.x fun Q1 QX1 hq hx => ?_)
  have es := same_line hj.en (scF G (i + 1)) (scF G (i + 2))
  refine s_X8_lineOf (S := gS σ 0) (h.1.toS 0) (fun e => ?_) (fun E e => ?_)
  · obtain ⟨g, hg⟩ := h.c0
    exact hq _ M ⟨g, hg, rest 0 _ σ _ (by decide) h.out (fun _ => oM_cell) ⟨hj.q4.up (by omega), by rw [gN_sNs, es, e], fun _ => by rw [es]⟩⟩
  · exact hx E M _ e (rest _ 0 σ M (Nat.lt_of_le_of_lt (exL_lt e).2 (by decide)) h (fun e0 => absurd e0 (exL_lt e).1) ⟨hj.q4.up (by omega), by rw [gN_sNs, es], fun e0 => absurd e0 (exL_lt e).1⟩)
theorem lc_6 {G : En} {tb : List ExceptionTableEntry × String} {Λ : Ob → Nat} {ao ad k0 n0 K N n i : Nat} {Z : List Frame → Array Value → State → State → Prop} {σ : Sg} {μ : Mg} {M : Me} {d : Nat} (h : HX G Λ ao ad σ μ M) (hj : JR n σ μ) (hn : n + 5000 ≤ 2 ^ 24) (hn10 : 10 ≤ n) (hi : i + 4 ≤ scL G) (hl : scL G ≤ 2048) (kk : ∀ σ2 μ2 M2, HX G Λ ao ad σ2 μ2 M2 → JR (n + 5000) σ2 μ2 → AW G (XL tb k0 n0 Z) (d + 15) K N 2111 [some (.ref (scA G)), some (.ref (Λ (0, 0, 0))), some (.ref (Λ (10, 0, 0))), some (.ref ao), some (.ref ad), some (.int (nI i)), none, none, none] [] M2) : AW G (XL tb k0 n0 Z) (d + 15) (K + 8) (N + 2400) 573 [some (.ref (scA G)), some (.ref (Λ (0, 0, 0))), some (.ref (Λ (10, 0, 0))), some (.ref ao), some (.ref ad), some (.int (nI i)), none, none, none] [] M := by
  obtain ⟨z, hz8, hz⟩ := hj.z
  have ok := hj.oks hn
  have okf := hj.okf hn
  have tail : ∀ (k : Nat) (y v : Int32) (σ2 : Sg) (M1 : Me) (μ2 : Mg) (M2 : Me), k < 4 → HX G Λ ao ad σ2 μ M1 → (k = 0 → oCell G ao y M1) → RM G Λ M1 μ2 M2 → JR (n + 5000) σ2 μ2 ∧ gN μ2 4 = nI k ∧ (k = 0 → y = v) → AW G (XL tb k0 n0 Z) (d + 15) (K + 7) (N + 2394) 608 [some (.ref (scA G)), some (.ref (Λ (0, 0, 0))), some (.ref (Λ (10, 0, 0))), some (.ref ao), some (.ref ad), some (.int (nI i)), some (.int (nI k)), none, none] [.int v] M2 := by
    intro k y v σ2 M1 μ2 M2 hk h1 ho hM2 hr
    have h2 := h1.mod hM2
    refine r_istore (q := 610) dL_law_608 (Nat.le_of_ble_eq_true rfl) rfl rfl ?_
    refine r_aload_n (q := 611) dL_law_610 rfl rfl ?_
    refine r_cV (q := 614) (As := []) wc_L_131 rfl im_X9_thrown se_X9_thrown h2.m rfl rfl (Nat.le_of_ble_eq_true rfl) (Nat.le_of_eq (Nat.zero_add _)) (Nat.le_of_eq (Nat.zero_add _)) dL_law_611 rfl rfl (s_X9_thrown h2.2.1 ?_)
    refine r_iload (q := 616) dL_law_614 rfl rfl ?_
    refine r_icmp_eq (q := 619) (t := 621) dL_law_616 (by decide) rfl (fun _ => ?_) (fun c => absurd hr.2.1 c)
    refine r_iload (q := 623) dL_law_621 rfl rfl ?_
    refine r_if_ne (q := 626) (t := 638) dL_law_623 (by decide) rfl (fun c => ?_) (fun c => ?_)
    · refine r_goto (t := 2111) dL_law_638 (by decide) ?_
      exact AW.forget (lv := [some (.ref (scA G)), some (.ref (Λ (0, 0, 0))), some (.ref (Λ (10, 0, 0))), some (.ref ao), some (.ref ad), some (.int (nI i)), none, none, none]) ⟨rfl, rfl, rfl, rfl, rfl, rfl, trivial⟩ (AW.less (by omega) (by omega) (kk _ _ _ h2 hr.1))
    · have k0 := nI_k0 k hk c
      obtain ⟨g, hg⟩ := (ho k0).mod hM2
      refine r_aload_n (q := 627) dL_law_626 rfl rfl ?_
      refine r_iconst (v := nI 0) (q := 628) dL_law_627 (by decide) rfl ?_
      refine r_lald (o := (12, 0, 0)) (q := 629) hg vp_01 dL_law_628 rfl ?_
      refine r_iload (q := 631) dL_law_629 rfl rfl ?_
      refine r_i2l (q := 632) dL_law_631 rfl ?_
      refine r_lcmp (q := 633) dL_law_632 rfl ?_
      rw [outv, hr.2.2 k0, lg_self]
      refine r_if_eq (q := 636) (t := 638) dL_law_633 (by decide) rfl (fun _ => ?_) (fun c => absurd rfl c)
      refine r_goto (t := 2111) dL_law_638 (by decide) ?_
      exact AW.forget (lv := [some (.ref (scA G)), some (.ref (Λ (0, 0, 0))), some (.ref (Λ (10, 0, 0))), some (.ref ao), some (.ref ad), some (.int (nI i)), none, none, none]) ⟨rfl, rfl, rfl, rfl, rfl, rfl, trivial⟩ (AW.less (by omega) (by omega) (kk _ _ _ h2 hr.1))
  have rest : ∀ (k : Nat) (y : Int32) (σ2 : Sg) (M1 : Me), k < 4 → HX G Λ ao ad σ2 μ M1 → (k = 0 → oCell G ao y M1) → (JR (n + 5000) σ2 (sN μ 4 (nI (mqPl (gA μ 0) (scF G (i + 1)) (scF G (i + 2))).1)) ∧ gN (sN μ 4 (nI (mqPl (gA μ 0) (scF G (i + 1)) (scF G (i + 2))).1)) 4 = nI k ∧ (k = 0 → y = (mqPl (gA μ 0) (scF G (i + 1)) (scF G (i + 2))).2)) → AW G (XL tb k0 n0 Z) (d + 15) (K + 7) (N + 2394) 590 [some (.ref (scA G)), some (.ref (Λ (0, 0, 0))), some (.ref (Λ (10, 0, 0))), some (.ref ao), some (.ref ad), some (.int (nI i)), none, none, none] [.int (nI k)] M1 := by
    intro k y σ2 M1 hk h1 ho hr
    refine r_istore (q := 592) dL_law_590 (Nat.le_of_ble_eq_true rfl) rfl rfl ?_
    refine r_aload_n (q := 593) dL_law_592 rfl rfl ?_
    refine r_aload_n (q := 594) dL_law_593 rfl rfl ?_
    refine r_iload (q := 596) dL_law_594 rfl rfl ?_
    refine r_iconst (v := nI 1) (q := 597) dL_law_596 (by decide) rfl ?_
    refine r_iadd (q := 598) dL_law_597 rfl ?_
    refine r_sc (q := 599) (by omega) hl dL_law_598 rfl ?_
    refine r_aload_n (q := 600) dL_law_599 rfl rfl ?_
    refine r_iload (q := 602) dL_law_600 rfl rfl ?_
    refine r_iconst (v := nI 2) (q := 603) dL_law_602 (by decide) rfl ?_
    refine r_iadd (q := 604) dL_law_603 rfl ?_
    refine r_sc (q := 605) (by omega) hl dL_law_604 rfl ?_
    refine r_cV (q := 608) (As := [.int _, .int _]) wc_L_150 rfl im_X9_platformOf se_X9_platformOf h1.m rfl rfl (Nat.le_of_ble_eq_true rfl) (Nat.le_of_eq (Nat.zero_add _)) (Nat.le_of_eq (Nat.zero_add _)) dL_law_605 rfl rfl (s_X9_platformOf h1.2.1 okf.2.1.2.2.1 fun M2 hM2 => ?_)
    exact tail k y _ σ2 M1 _ M2 hk h1 ho hM2 hr
  refine r_aload_n (q := 574) dL_law_573 rfl rfl ?_
  refine r_aload_n (q := 575) dL_law_574 rfl rfl ?_
  refine r_iload (q := 577) dL_law_575 rfl rfl ?_
  refine r_iconst (v := nI 1) (q := 578) dL_law_577 (by decide) rfl ?_
  refine r_iadd (q := 579) dL_law_578 rfl ?_
  refine r_sc (q := 580) (by omega) hl dL_law_579 rfl ?_
  refine r_aload_n (q := 581) dL_law_580 rfl rfl ?_
  refine r_iload (q := 583) dL_law_581 rfl rfl ?_
  refine r_iconst (v := nI 2) (q := 584) dL_law_583 (by decide) rfl ?_
  refine r_iadd (q := 585) dL_law_584 rfl ?_
  refine r_sc (q := 586) (by omega) hl dL_law_585 rfl ?_
  refine r_aload_n (q := 587) dL_law_586 rfl rfl ?_
  have bk := bk1 K
  have bn := bn6 N
  refine r_invSH (X := XL tb k0 n0 Z) (q := 590) (k' := 1) (n' := 6) (k2 := K + 7) (n2 := N + 2394) (As := [.ref _, .int _, .int _, .ref _]) wh_platformOf st_L_platformOf rfl (Nat.le_of_ble_eq_true rfl) bk bn dL_law_587 rfl rfl (h_L_platformOf h.x fun Q1 QX1 hq hx => ?_)
  have es := same_plat hj.en (scF G (i + 1)) (scF G (i + 2))
  refine s_X8_platformOf (S := gS σ 0) (h.1.toS 0) (fun e => ?_) (fun E e => ?_)
  · obtain ⟨g, hg⟩ := h.c0
    exact hq _ M ⟨g, hg, rest 0 _ σ _ (by decide) h.out (fun _ => oM_cell) ⟨hj.q4.up (by omega), by rw [gN_sNs, es, e], fun _ => by rw [es]⟩⟩
  · exact hx E M _ e (rest _ 0 σ M (Nat.lt_of_le_of_lt (exL_lt e).2 (by decide)) h (fun e0 => absurd e0 (exL_lt e).1) ⟨hj.q4.up (by omega), by rw [gN_sNs, es], fun e0 => absurd e0 (exL_lt e).1⟩)
theorem lc_7 {G : En} {tb : List ExceptionTableEntry × String} {Λ : Ob → Nat} {ao ad k0 n0 K N n i : Nat} {Z : List Frame → Array Value → State → State → Prop} {σ : Sg} {μ : Mg} {M : Me} {d : Nat} (h : HX G Λ ao ad σ μ M) (hj : JR n σ μ) (hn : n + 5000 ≤ 2 ^ 24) (hn10 : 10 ≤ n) (hi : i + 4 ≤ scL G) (hl : scL G ≤ 2048) (kk : ∀ σ2 μ2 M2, HX G Λ ao ad σ2 μ2 M2 → JR (n + 5000) σ2 μ2 → AW G (XL tb k0 n0 Z) (d + 15) K N 2111 [some (.ref (scA G)), some (.ref (Λ (0, 0, 0))), some (.ref (Λ (10, 0, 0))), some (.ref ao), some (.ref ad), some (.int (nI i)), none, none, none] [] M2) : AW G (XL tb k0 n0 Z) (d + 15) (K + 8) (N + 2400) 641 [some (.ref (scA G)), some (.ref (Λ (0, 0, 0))), some (.ref (Λ (10, 0, 0))), some (.ref ao), some (.ref ad), some (.int (nI i)), none, none, none] [] M := by
  obtain ⟨z, hz8, hz⟩ := hj.z
  have ok := hj.oks hn
  have okf := hj.okf hn
  have tail : ∀ (k : Nat) (y v : Int32) (σ2 : Sg) (M1 : Me) (μ2 : Mg) (M2 : Me), k < 4 → HX G Λ ao ad σ2 μ M1 → (k = 0 → oCell G ao y M1) → RM G Λ M1 μ2 M2 → JR (n + 5000) σ2 μ2 ∧ gN μ2 4 = nI k ∧ (k = 0 → y = v) → AW G (XL tb k0 n0 Z) (d + 15) (K + 7) (N + 2394) 676 [some (.ref (scA G)), some (.ref (Λ (0, 0, 0))), some (.ref (Λ (10, 0, 0))), some (.ref ao), some (.ref ad), some (.int (nI i)), some (.int (nI k)), none, none] [.int v] M2 := by
    intro k y v σ2 M1 μ2 M2 hk h1 ho hM2 hr
    have h2 := h1.mod hM2
    refine r_istore (q := 678) dL_law_676 (Nat.le_of_ble_eq_true rfl) rfl rfl ?_
    refine r_aload_n (q := 679) dL_law_678 rfl rfl ?_
    refine r_cV (q := 682) (As := []) wc_L_131 rfl im_X9_thrown se_X9_thrown h2.m rfl rfl (Nat.le_of_ble_eq_true rfl) (Nat.le_of_eq (Nat.zero_add _)) (Nat.le_of_eq (Nat.zero_add _)) dL_law_679 rfl rfl (s_X9_thrown h2.2.1 ?_)
    refine r_iload (q := 684) dL_law_682 rfl rfl ?_
    refine r_icmp_eq (q := 687) (t := 689) dL_law_684 (by decide) rfl (fun _ => ?_) (fun c => absurd hr.2.1 c)
    refine r_iload (q := 691) dL_law_689 rfl rfl ?_
    refine r_if_ne (q := 694) (t := 706) dL_law_691 (by decide) rfl (fun c => ?_) (fun c => ?_)
    · refine r_goto (t := 2111) dL_law_706 (by decide) ?_
      exact AW.forget (lv := [some (.ref (scA G)), some (.ref (Λ (0, 0, 0))), some (.ref (Λ (10, 0, 0))), some (.ref ao), some (.ref ad), some (.int (nI i)), none, none, none]) ⟨rfl, rfl, rfl, rfl, rfl, rfl, trivial⟩ (AW.less (by omega) (by omega) (kk _ _ _ h2 hr.1))
    · have k0 := nI_k0 k hk c
      obtain ⟨g, hg⟩ := (ho k0).mod hM2
      refine r_aload_n (q := 695) dL_law_694 rfl rfl ?_
      refine r_iconst (v := nI 0) (q := 696) dL_law_695 (by decide) rfl ?_
      refine r_lald (o := (12, 0, 0)) (q := 697) hg vp_01 dL_law_696 rfl ?_
      refine r_iload (q := 699) dL_law_697 rfl rfl ?_
      refine r_i2l (q := 700) dL_law_699 rfl ?_
      refine r_lcmp (q := 701) dL_law_700 rfl ?_
      rw [outv, hr.2.2 k0, lg_self]
      refine r_if_eq (q := 704) (t := 706) dL_law_701 (by decide) rfl (fun _ => ?_) (fun c => absurd rfl c)
      refine r_goto (t := 2111) dL_law_706 (by decide) ?_
      exact AW.forget (lv := [some (.ref (scA G)), some (.ref (Λ (0, 0, 0))), some (.ref (Λ (10, 0, 0))), some (.ref ao), some (.ref ad), some (.int (nI i)), none, none, none]) ⟨rfl, rfl, rfl, rfl, rfl, rfl, trivial⟩ (AW.less (by omega) (by omega) (kk _ _ _ h2 hr.1))
  have rest : ∀ (k : Nat) (y : Int32) (σ2 : Sg) (M1 : Me), k < 4 → HX G Λ ao ad σ2 μ M1 → (k = 0 → oCell G ao y M1) → (JR (n + 5000) σ2 (sN μ 4 (nI (mqCl (gA μ 0) (scF G (i + 1)) (scF G (i + 2))).1)) ∧ gN (sN μ 4 (nI (mqCl (gA μ 0) (scF G (i + 1)) (scF G (i + 2))).1)) 4 = nI k ∧ (k = 0 → y = (mqCl (gA μ 0) (scF G (i + 1)) (scF G (i + 2))).2)) → AW G (XL tb k0 n0 Z) (d + 15) (K + 7) (N + 2394) 658 [some (.ref (scA G)), some (.ref (Λ (0, 0, 0))), some (.ref (Λ (10, 0, 0))), some (.ref ao), some (.ref ad), some (.int (nI i)), none, none, none] [.int (nI k)] M1 := by
    intro k y σ2 M1 hk h1 ho hr
    refine r_istore (q := 660) dL_law_658 (Nat.le_of_ble_eq_true rfl) rfl rfl ?_
    refine r_aload_n (q := 661) dL_law_660 rfl rfl ?_
    refine r_aload_n (q := 662) dL_law_661 rfl rfl ?_
    refine r_iload (q := 664) dL_law_662 rfl rfl ?_
    refine r_iconst (v := nI 1) (q := 665) dL_law_664 (by decide) rfl ?_
    refine r_iadd (q := 666) dL_law_665 rfl ?_
    refine r_sc (q := 667) (by omega) hl dL_law_666 rfl ?_
    refine r_aload_n (q := 668) dL_law_667 rfl rfl ?_
    refine r_iload (q := 670) dL_law_668 rfl rfl ?_
    refine r_iconst (v := nI 2) (q := 671) dL_law_670 (by decide) rfl ?_
    refine r_iadd (q := 672) dL_law_671 rfl ?_
    refine r_sc (q := 673) (by omega) hl dL_law_672 rfl ?_
    refine r_cV (q := 676) (As := [.int _, .int _]) wc_L_153 rfl im_X9_clash se_X9_clash h1.m rfl rfl (Nat.le_of_ble_eq_true rfl) (Nat.le_of_eq (Nat.zero_add _)) (Nat.le_of_eq (Nat.zero_add _)) dL_law_673 rfl rfl (s_X9_clash h1.2.1 okf.1 fun M2 hM2 => ?_)
    exact tail k y _ σ2 M1 _ M2 hk h1 ho hM2 hr
  refine r_aload_n (q := 642) dL_law_641 rfl rfl ?_
  refine r_aload_n (q := 643) dL_law_642 rfl rfl ?_
  refine r_iload (q := 645) dL_law_643 rfl rfl ?_
  refine r_iconst (v := nI 1) (q := 646) dL_law_645 (by decide) rfl ?_
  refine r_iadd (q := 647) dL_law_646 rfl ?_
  refine r_sc (q := 648) (by omega) hl dL_law_647 rfl ?_
  refine r_aload_n (q := 649) dL_law_648 rfl rfl ?_
  refine r_iload (q := 651) dL_law_649 rfl rfl ?_
  refine r_iconst (v := nI 2) (q := 652) dL_law_651 (by decide) rfl ?_
  refine r_iadd (q := 653) dL_law_652 rfl ?_
  refine r_sc (q := 654) (by omega) hl dL_law_653 rfl ?_
  refine r_aload_n (q := 655) dL_law_654 rfl rfl ?_
  have bk := bk1 K
  have bn := bn6 N
  refine r_invSH (X := XL tb k0 n0 Z) (q := 658) (k' := 1) (n' := 6) (k2 := K + 7) (n2 := N + 2394) (As := [.ref _, .int _, .int _, .ref _]) wh_clash st_L_clash rfl (Nat.le_of_ble_eq_true rfl) bk bn dL_law_655 rfl rfl (h_L_clash h.x fun Q1 QX1 hq hx => ?_)
  have es := same_clash hj.en hj.iv.sh (scF G (i + 1)) (scF G (i + 2))
  refine s_X8_clash (S := gS σ 0) (h.1.toS 0) ok.2.1 (fun e => ?_) (fun E e => ?_)
  · obtain ⟨g, hg⟩ := h.c0
    exact hq _ M ⟨g, hg, rest 0 _ σ _ (by decide) h.out (fun _ => oM_cell) ⟨hj.q4.up (by omega), by rw [gN_sNs, es, e], fun _ => by rw [es]⟩⟩
  · exact hx E M _ e (rest _ 0 σ M (Nat.lt_of_le_of_lt (exL_lt e).2 (by decide)) h (fun e0 => absurd e0 (exL_lt e).1) ⟨hj.q4.up (by omega), by rw [gN_sNs, es], fun e0 => absurd e0 (exL_lt e).1⟩)
theorem lc_9 {G : En} {tb : List ExceptionTableEntry × String} {Λ : Ob → Nat} {ao ad k0 n0 K N n i : Nat} {Z : List Frame → Array Value → State → State → Prop} {σ : Sg} {μ : Mg} {M : Me} {d : Nat} (h : HX G Λ ao ad σ μ M) (hj : JR n σ μ) (hn : n + 5000 ≤ 2 ^ 24) (hn10 : 10 ≤ n) (hi : i + 4 ≤ scL G) (hl : scL G ≤ 2048) (kk : ∀ σ2 μ2 M2, HX G Λ ao ad σ2 μ2 M2 → JR (n + 5000) σ2 μ2 → AW G (XL tb k0 n0 Z) (d + 15) K N 2111 [some (.ref (scA G)), some (.ref (Λ (0, 0, 0))), some (.ref (Λ (10, 0, 0))), some (.ref ao), some (.ref ad), some (.int (nI i)), none, none, none] [] M2) : AW G (XL tb k0 n0 Z) (d + 15) (K + 8) (N + 2400) 722 [some (.ref (scA G)), some (.ref (Λ (0, 0, 0))), some (.ref (Λ (10, 0, 0))), some (.ref ao), some (.ref ad), some (.int (nI i)), none, none, none] [] M := by
  obtain ⟨z, hz8, hz⟩ := hj.z
  have ok := hj.oks hn
  have okf := hj.okf hn
  have tail : ∀ (k : Nat) (y v : Int32) (σ2 : Sg) (M1 : Me) (μ2 : Mg) (M2 : Me), k < 4 → HX G Λ ao ad σ2 μ M1 → (k = 0 → oCell G ao y M1) → RM G Λ M1 μ2 M2 → JR (n + 5000) σ2 μ2 ∧ gN μ2 4 = nI k ∧ (k = 0 → y = v) → AW G (XL tb k0 n0 Z) (d + 15) (K + 7) (N + 2394) 773 [some (.ref (scA G)), some (.ref (Λ (0, 0, 0))), some (.ref (Λ (10, 0, 0))), some (.ref ao), some (.ref ad), some (.int (nI i)), some (.int (nI k)), none, none] [.int v] M2 := by
    intro k y v σ2 M1 μ2 M2 hk h1 ho hM2 hr
    have h2 := h1.mod hM2
    refine r_istore (q := 775) dL_law_773 (Nat.le_of_ble_eq_true rfl) rfl rfl ?_
    refine r_aload_n (q := 776) dL_law_775 rfl rfl ?_
    refine r_cV (q := 779) (As := []) wc_L_131 rfl im_X9_thrown se_X9_thrown h2.m rfl rfl (Nat.le_of_ble_eq_true rfl) (Nat.le_of_eq (Nat.zero_add _)) (Nat.le_of_eq (Nat.zero_add _)) dL_law_776 rfl rfl (s_X9_thrown h2.2.1 ?_)
    refine r_iload (q := 781) dL_law_779 rfl rfl ?_
    refine r_icmp_eq (q := 784) (t := 786) dL_law_781 (by decide) rfl (fun _ => ?_) (fun c => absurd hr.2.1 c)
    refine r_iload (q := 788) dL_law_786 rfl rfl ?_
    refine r_if_ne (q := 791) (t := 803) dL_law_788 (by decide) rfl (fun c => ?_) (fun c => ?_)
    · refine r_goto (t := 2111) dL_law_803 (by decide) ?_
      exact AW.forget (lv := [some (.ref (scA G)), some (.ref (Λ (0, 0, 0))), some (.ref (Λ (10, 0, 0))), some (.ref ao), some (.ref ad), some (.int (nI i)), none, none, none]) ⟨rfl, rfl, rfl, rfl, rfl, rfl, trivial⟩ (AW.less (by omega) (by omega) (kk _ _ _ h2 hr.1))
    · have k0 := nI_k0 k hk c
      obtain ⟨g, hg⟩ := (ho k0).mod hM2
      refine r_aload_n (q := 792) dL_law_791 rfl rfl ?_
      refine r_iconst (v := nI 0) (q := 793) dL_law_792 (by decide) rfl ?_
      refine r_lald (o := (12, 0, 0)) (q := 794) hg vp_01 dL_law_793 rfl ?_
      refine r_iload (q := 796) dL_law_794 rfl rfl ?_
      refine r_i2l (q := 797) dL_law_796 rfl ?_
      refine r_lcmp (q := 798) dL_law_797 rfl ?_
      rw [outv, hr.2.2 k0, lg_self]
      refine r_if_eq (q := 801) (t := 803) dL_law_798 (by decide) rfl (fun _ => ?_) (fun c => absurd rfl c)
      refine r_goto (t := 2111) dL_law_803 (by decide) ?_
      exact AW.forget (lv := [some (.ref (scA G)), some (.ref (Λ (0, 0, 0))), some (.ref (Λ (10, 0, 0))), some (.ref ao), some (.ref ad), some (.int (nI i)), none, none, none]) ⟨rfl, rfl, rfl, rfl, rfl, rfl, trivial⟩ (AW.less (by omega) (by omega) (kk _ _ _ h2 hr.1))
  have rest : ∀ (k : Nat) (y : Int32) (σ2 : Sg) (M1 : Me), k < 4 → HX G Λ ao ad σ2 μ M1 → (k = 0 → oCell G ao y M1) → (JR (n + 5000) σ2 (sN μ 4 (nI (mqFr (gA μ 0) (scF G (i + 1))).1)) ∧ gN (sN μ 4 (nI (mqFr (gA μ 0) (scF G (i + 1))).1)) 4 = nI k ∧ (k = 0 → y = (mqFr (gA μ 0) (scF G (i + 1))).2)) → AW G (XL tb k0 n0 Z) (d + 15) (K + 7) (N + 2394) 747 [some (.ref (scA G)), some (.ref (Λ (0, 0, 0))), some (.ref (Λ (10, 0, 0))), some (.ref ao), some (.ref ad), some (.int (nI i)), none, none, none] [.int (nI k)] M1 := by
    intro k y σ2 M1 hk h1 ho hr
    refine r_istore (q := 749) dL_law_747 (Nat.le_of_ble_eq_true rfl) rfl rfl ?_
    refine r_aload_n (q := 750) dL_law_749 rfl rfl ?_
    refine r_aload_n (q := 751) dL_law_750 rfl rfl ?_
    refine r_iload (q := 753) dL_law_751 rfl rfl ?_
    refine r_iconst (v := nI 1) (q := 754) dL_law_753 (by decide) rfl ?_
    refine r_iadd (q := 755) dL_law_754 rfl ?_
    refine r_sc (q := 756) (by omega) hl dL_law_755 rfl ?_
    refine r_aload_n (q := 757) dL_law_756 rfl rfl ?_
    refine r_iload (q := 759) dL_law_757 rfl rfl ?_
    refine r_iconst (v := nI 2) (q := 760) dL_law_759 (by decide) rfl ?_
    refine r_iadd (q := 761) dL_law_760 rfl ?_
    refine r_sc (q := 762) (by omega) hl dL_law_761 rfl ?_
    refine r_bz (p1 := 765) (p2 := 766) (p3 := 769) (q := 770) dL_law_762 rfl rfl dL_law_765 dL_law_766 (by decide) dL_law_769 (by decide) rfl ?_
    refine r_cV (q := 773) (As := [.int _, .int _]) wc_L_162 rfl im_X9_free se_X9_free h1.m rfl rfl (Nat.le_of_ble_eq_true rfl) (Nat.le_of_eq (Nat.zero_add _)) (Nat.le_of_eq (Nat.zero_add _)) dL_law_770 rfl rfl (s_X9_free h1.2.1 okf.1 fun M2 hM2 => ?_)
    exact tail k y _ σ2 M1 _ M2 hk h1 ho hM2 hr
  refine r_aload_n (q := 723) dL_law_722 rfl rfl ?_
  refine r_aload_n (q := 724) dL_law_723 rfl rfl ?_
  refine r_iload (q := 726) dL_law_724 rfl rfl ?_
  refine r_iconst (v := nI 1) (q := 727) dL_law_726 (by decide) rfl ?_
  refine r_iadd (q := 728) dL_law_727 rfl ?_
  refine r_sc (q := 729) (by omega) hl dL_law_728 rfl ?_
  refine r_aload_n (q := 730) dL_law_729 rfl rfl ?_
  refine r_iload (q := 732) dL_law_730 rfl rfl ?_
  refine r_iconst (v := nI 2) (q := 733) dL_law_732 (by decide) rfl ?_
  refine r_iadd (q := 734) dL_law_733 rfl ?_
  refine r_sc (q := 735) (by omega) hl dL_law_734 rfl ?_
  refine r_bz (p1 := 738) (p2 := 739) (p3 := 742) (q := 743) dL_law_735 rfl rfl dL_law_738 dL_law_739 (by decide) dL_law_742 (by decide) rfl ?_
  refine r_aload_n (q := 744) dL_law_743 rfl rfl ?_
  have bk := bk1 K
  have bn := bn6 N
  refine r_invSH (X := XL tb k0 n0 Z) (q := 747) (k' := 1) (n' := 6) (k2 := K + 7) (n2 := N + 2394) (As := [.ref _, .int _, .int _, .ref _]) wh_free st_L_free rfl (Nat.le_of_ble_eq_true rfl) bk bn dL_law_744 rfl rfl (h_L_free h.x fun Q1 QX1 hq hx => ?_)
  have es := same_free hj.en hj.iv.sh (scF G (i + 1)) (decide (¬ scF G (i + 2) = 0))
  refine s_X8_free (S := gS σ 0) (h.1.toS 0) ok.2.1 (fun e => ?_) (fun E e => ?_)
  · obtain ⟨g, hg⟩ := h.c0
    exact hq _ M ⟨g, hg, rest 0 _ σ _ (by decide) h.out (fun _ => oM_cell) ⟨hj.q4.up (by omega), by rw [gN_sNs, es, e], fun _ => by rw [es]⟩⟩
  · exact hx E M _ e (rest _ 0 σ M (Nat.lt_of_le_of_lt (exL_lt e).2 (by decide)) h (fun e0 => absurd e0 (exL_lt e).1) ⟨hj.q4.up (by omega), by rw [gN_sNs, es], fun e0 => absurd e0 (exL_lt e).1⟩)
theorem lc_17 {G : En} {tb : List ExceptionTableEntry × String} {Λ : Ob → Nat} {ao ad k0 n0 K N n i : Nat} {Z : List Frame → Array Value → State → State → Prop} {σ : Sg} {μ : Mg} {M : Me} {d : Nat} (h : HX G Λ ao ad σ μ M) (hj : JR n σ μ) (hn : n + 5000 ≤ 2 ^ 24) (hn10 : 10 ≤ n) (hi : i + 4 ≤ scL G) (hl : scL G ≤ 2048) (kk : ∀ σ2 μ2 M2, HX G Λ ao ad σ2 μ2 M2 → JR (n + 5000) σ2 μ2 → AW G (XL tb k0 n0 Z) (d + 15) K N 2111 [some (.ref (scA G)), some (.ref (Λ (0, 0, 0))), some (.ref (Λ (10, 0, 0))), some (.ref ao), some (.ref ad), some (.int (nI i)), none, none, none] [] M2) : AW G (XL tb k0 n0 Z) (d + 15) (K + 8) (N + 2400) 1136 [some (.ref (scA G)), some (.ref (Λ (0, 0, 0))), some (.ref (Λ (10, 0, 0))), some (.ref ao), some (.ref ad), some (.int (nI i)), none, none, none] [] M := by
  obtain ⟨z, hz8, hz⟩ := hj.z
  have ok := hj.oks hn
  have okf := hj.okf hn
  have tail : ∀ (k : Nat) (y v : Int32) (σ2 : Sg) (M1 : Me) (μ2 : Mg) (M2 : Me), k < 4 → HX G Λ ao ad σ2 μ M1 → (k = 0 → oCell G ao y M1) → RM G Λ M1 μ2 M2 → JR (n + 5000) σ2 μ2 ∧ gN μ2 4 = nI k ∧ (k = 0 → y = v) → AW G (XL tb k0 n0 Z) (d + 15) (K + 7) (N + 2394) 1171 [some (.ref (scA G)), some (.ref (Λ (0, 0, 0))), some (.ref (Λ (10, 0, 0))), some (.ref ao), some (.ref ad), some (.int (nI i)), some (.int (nI k)), none, none] [.int v] M2 := by
    intro k y v σ2 M1 μ2 M2 hk h1 ho hM2 hr
    have h2 := h1.mod hM2
    refine r_istore (q := 1173) dL_law_1171 (Nat.le_of_ble_eq_true rfl) rfl rfl ?_
    refine r_aload_n (q := 1174) dL_law_1173 rfl rfl ?_
    refine r_cV (q := 1177) (As := []) wc_L_131 rfl im_X9_thrown se_X9_thrown h2.m rfl rfl (Nat.le_of_ble_eq_true rfl) (Nat.le_of_eq (Nat.zero_add _)) (Nat.le_of_eq (Nat.zero_add _)) dL_law_1174 rfl rfl (s_X9_thrown h2.2.1 ?_)
    refine r_iload (q := 1179) dL_law_1177 rfl rfl ?_
    refine r_icmp_eq (q := 1182) (t := 1184) dL_law_1179 (by decide) rfl (fun _ => ?_) (fun c => absurd hr.2.1 c)
    refine r_iload (q := 1186) dL_law_1184 rfl rfl ?_
    refine r_if_ne (q := 1189) (t := 1201) dL_law_1186 (by decide) rfl (fun c => ?_) (fun c => ?_)
    · refine r_goto (t := 2111) dL_law_1201 (by decide) ?_
      exact AW.forget (lv := [some (.ref (scA G)), some (.ref (Λ (0, 0, 0))), some (.ref (Λ (10, 0, 0))), some (.ref ao), some (.ref ad), some (.int (nI i)), none, none, none]) ⟨rfl, rfl, rfl, rfl, rfl, rfl, trivial⟩ (AW.less (by omega) (by omega) (kk _ _ _ h2 hr.1))
    · have k0 := nI_k0 k hk c
      obtain ⟨g, hg⟩ := (ho k0).mod hM2
      refine r_aload_n (q := 1190) dL_law_1189 rfl rfl ?_
      refine r_iconst (v := nI 0) (q := 1191) dL_law_1190 (by decide) rfl ?_
      refine r_lald (o := (12, 0, 0)) (q := 1192) hg vp_01 dL_law_1191 rfl ?_
      refine r_iload (q := 1194) dL_law_1192 rfl rfl ?_
      refine r_i2l (q := 1195) dL_law_1194 rfl ?_
      refine r_lcmp (q := 1196) dL_law_1195 rfl ?_
      rw [outv, hr.2.2 k0, lg_self]
      refine r_if_eq (q := 1199) (t := 1201) dL_law_1196 (by decide) rfl (fun _ => ?_) (fun c => absurd rfl c)
      refine r_goto (t := 2111) dL_law_1201 (by decide) ?_
      exact AW.forget (lv := [some (.ref (scA G)), some (.ref (Λ (0, 0, 0))), some (.ref (Λ (10, 0, 0))), some (.ref ao), some (.ref ad), some (.int (nI i)), none, none, none]) ⟨rfl, rfl, rfl, rfl, rfl, rfl, trivial⟩ (AW.less (by omega) (by omega) (kk _ _ _ h2 hr.1))
  have rest : ∀ (k : Nat) (y : Int32) (σ2 : Sg) (M1 : Me), k < 4 → HX G Λ ao ad σ2 μ M1 → (k = 0 → oCell G ao y M1) → (JR (n + 5000) σ2 (sN μ 4 (nI (mqHd (gA μ 0) (scF G (i + 1)) (scF G (i + 2))).1)) ∧ gN (sN μ 4 (nI (mqHd (gA μ 0) (scF G (i + 1)) (scF G (i + 2))).1)) 4 = nI k ∧ (k = 0 → y = (mqHd (gA μ 0) (scF G (i + 1)) (scF G (i + 2))).2)) → AW G (XL tb k0 n0 Z) (d + 15) (K + 7) (N + 2394) 1153 [some (.ref (scA G)), some (.ref (Λ (0, 0, 0))), some (.ref (Λ (10, 0, 0))), some (.ref ao), some (.ref ad), some (.int (nI i)), none, none, none] [.int (nI k)] M1 := by
    intro k y σ2 M1 hk h1 ho hr
    refine r_istore (q := 1155) dL_law_1153 (Nat.le_of_ble_eq_true rfl) rfl rfl ?_
    refine r_aload_n (q := 1156) dL_law_1155 rfl rfl ?_
    refine r_aload_n (q := 1157) dL_law_1156 rfl rfl ?_
    refine r_iload (q := 1159) dL_law_1157 rfl rfl ?_
    refine r_iconst (v := nI 1) (q := 1160) dL_law_1159 (by decide) rfl ?_
    refine r_iadd (q := 1161) dL_law_1160 rfl ?_
    refine r_sc (q := 1162) (by omega) hl dL_law_1161 rfl ?_
    refine r_aload_n (q := 1163) dL_law_1162 rfl rfl ?_
    refine r_iload (q := 1165) dL_law_1163 rfl rfl ?_
    refine r_iconst (v := nI 2) (q := 1166) dL_law_1165 (by decide) rfl ?_
    refine r_iadd (q := 1167) dL_law_1166 rfl ?_
    refine r_sc (q := 1168) (by omega) hl dL_law_1167 rfl ?_
    refine r_cV (q := 1171) (As := [.int _, .int _]) wc_L_188 rfl im_X9_heard se_X9_heard h1.m rfl rfl (Nat.le_of_ble_eq_true rfl) (Nat.le_of_eq (Nat.zero_add _)) (Nat.le_of_eq (Nat.zero_add _)) dL_law_1168 rfl rfl (s_X9_heard h1.2.1 okf.2.1.2.1 fun M2 hM2 => ?_)
    exact tail k y _ σ2 M1 _ M2 hk h1 ho hM2 hr
  refine r_aload_n (q := 1137) dL_law_1136 rfl rfl ?_
  refine r_aload_n (q := 1138) dL_law_1137 rfl rfl ?_
  refine r_iload (q := 1140) dL_law_1138 rfl rfl ?_
  refine r_iconst (v := nI 1) (q := 1141) dL_law_1140 (by decide) rfl ?_
  refine r_iadd (q := 1142) dL_law_1141 rfl ?_
  refine r_sc (q := 1143) (by omega) hl dL_law_1142 rfl ?_
  refine r_aload_n (q := 1144) dL_law_1143 rfl rfl ?_
  refine r_iload (q := 1146) dL_law_1144 rfl rfl ?_
  refine r_iconst (v := nI 2) (q := 1147) dL_law_1146 (by decide) rfl ?_
  refine r_iadd (q := 1148) dL_law_1147 rfl ?_
  refine r_sc (q := 1149) (by omega) hl dL_law_1148 rfl ?_
  refine r_aload_n (q := 1150) dL_law_1149 rfl rfl ?_
  have bk := bk1 K
  have bn := bn6 N
  refine r_invSH (X := XL tb k0 n0 Z) (q := 1153) (k' := 1) (n' := 6) (k2 := K + 7) (n2 := N + 2394) (As := [.ref _, .int _, .int _, .ref _]) wh_heard st_L_heard rfl (Nat.le_of_ble_eq_true rfl) bk bn dL_law_1150 rfl rfl (h_L_heard h.x fun Q1 QX1 hq hx => ?_)
  have es := same_heard hj.en (Nat.lt_trans okf.2.1.2.1 (by decide)) (scF G (i + 1)) (scF G (i + 2))
  refine s_X8_heard (S := gS σ 0) (h.1.toS 0) (fun e => ?_) (fun E e => ?_)
  · obtain ⟨g, hg⟩ := h.c0
    exact hq _ M ⟨g, hg, rest 0 _ σ _ (by decide) h.out (fun _ => oM_cell) ⟨hj.q4.up (by omega), by rw [gN_sNs, es, e], fun _ => by rw [es]⟩⟩
  · exact hx E M _ e (rest _ 0 σ M (Nat.lt_of_le_of_lt (exL_lt e).2 (by decide)) h (fun e0 => absurd e0 (exL_lt e).1) ⟨hj.q4.up (by omega), by rw [gN_sNs, es], fun e0 => absurd e0 (exL_lt e).1⟩)
theorem lc_20 {G : En} {tb : List ExceptionTableEntry × String} {Λ : Ob → Nat} {ao ad k0 n0 K N n i : Nat} {Z : List Frame → Array Value → State → State → Prop} {σ : Sg} {μ : Mg} {M : Me} {d : Nat} (h : HX G Λ ao ad σ μ M) (hj : JR n σ μ) (hn : n + 5000 ≤ 2 ^ 24) (hn10 : 10 ≤ n) (hi : i + 4 ≤ scL G) (hl : scL G ≤ 2048) (kk : ∀ σ2 μ2 M2, HX G Λ ao ad σ2 μ2 M2 → JR (n + 5000) σ2 μ2 → AW G (XL tb k0 n0 Z) (d + 15) K N 2111 [some (.ref (scA G)), some (.ref (Λ (0, 0, 0))), some (.ref (Λ (10, 0, 0))), some (.ref ao), some (.ref ad), some (.int (nI i)), none, none, none] [] M2) : AW G (XL tb k0 n0 Z) (d + 15) (K + 8) (N + 2400) 1301 [some (.ref (scA G)), some (.ref (Λ (0, 0, 0))), some (.ref (Λ (10, 0, 0))), some (.ref ao), some (.ref ad), some (.int (nI i)), none, none, none] [] M := by
  obtain ⟨z, hz8, hz⟩ := hj.z
  have ok := hj.oks hn
  have okf := hj.okf hn
  have hb35 : ∀ l, l < 7 → lF (gA μ 0) l 3 ≤ 20 ∧ lF (gA μ 0) l 5 ≤ 900 := fun l hl7 => by
    rw [hj.en.ln l hl7 3 (by decide) (by decide), hj.en.ln l hl7 5 (by decide) (by decide)]
    have e1 := getD_le hj.iv.sh.st l
    have e2 := getD_le hj.iv.sh.mu l
    exact ⟨e1, Nat.le_trans e2 (by decide)⟩
  have tail : ∀ (k : Nat) (y v : Int32) (σ2 : Sg) (M1 : Me) (μ2 : Mg) (M2 : Me), k < 4 → HX G Λ ao ad σ2 μ M1 → (k = 0 → oCell G ao y M1) → RM G Λ M1 μ2 M2 → JR (n + 5000) σ2 μ2 ∧ gN μ2 4 = nI k ∧ (k = 0 → y = v) → AW G (XL tb k0 n0 Z) (d + 15) (K + 7) (N + 2394) 1324 [some (.ref (scA G)), some (.ref (Λ (0, 0, 0))), some (.ref (Λ (10, 0, 0))), some (.ref ao), some (.ref ad), some (.int (nI i)), some (.int (nI k)), none, none] [.int v] M2 := by
    intro k y v σ2 M1 μ2 M2 hk h1 ho hM2 hr
    have h2 := h1.mod hM2
    refine r_istore (q := 1326) dL_law_1324 (Nat.le_of_ble_eq_true rfl) rfl rfl ?_
    refine r_aload_n (q := 1327) dL_law_1326 rfl rfl ?_
    refine r_cV (q := 1330) (As := []) wc_L_131 rfl im_X9_thrown se_X9_thrown h2.m rfl rfl (Nat.le_of_ble_eq_true rfl) (Nat.le_of_eq (Nat.zero_add _)) (Nat.le_of_eq (Nat.zero_add _)) dL_law_1327 rfl rfl (s_X9_thrown h2.2.1 ?_)
    refine r_iload (q := 1332) dL_law_1330 rfl rfl ?_
    refine r_icmp_eq (q := 1335) (t := 1337) dL_law_1332 (by decide) rfl (fun _ => ?_) (fun c => absurd hr.2.1 c)
    refine r_iload (q := 1339) dL_law_1337 rfl rfl ?_
    refine r_if_ne (q := 1342) (t := 1354) dL_law_1339 (by decide) rfl (fun c => ?_) (fun c => ?_)
    · refine r_goto (t := 2111) dL_law_1354 (by decide) ?_
      exact AW.forget (lv := [some (.ref (scA G)), some (.ref (Λ (0, 0, 0))), some (.ref (Λ (10, 0, 0))), some (.ref ao), some (.ref ad), some (.int (nI i)), none, none, none]) ⟨rfl, rfl, rfl, rfl, rfl, rfl, trivial⟩ (AW.less (by omega) (by omega) (kk _ _ _ h2 hr.1))
    · have k0 := nI_k0 k hk c
      obtain ⟨g, hg⟩ := (ho k0).mod hM2
      refine r_aload_n (q := 1343) dL_law_1342 rfl rfl ?_
      refine r_iconst (v := nI 0) (q := 1344) dL_law_1343 (by decide) rfl ?_
      refine r_lald (o := (12, 0, 0)) (q := 1345) hg vp_01 dL_law_1344 rfl ?_
      refine r_iload (q := 1347) dL_law_1345 rfl rfl ?_
      refine r_i2l (q := 1348) dL_law_1347 rfl ?_
      refine r_lcmp (q := 1349) dL_law_1348 rfl ?_
      rw [outv, hr.2.2 k0, lg_self]
      refine r_if_eq (q := 1352) (t := 1354) dL_law_1349 (by decide) rfl (fun _ => ?_) (fun c => absurd rfl c)
      refine r_goto (t := 2111) dL_law_1354 (by decide) ?_
      exact AW.forget (lv := [some (.ref (scA G)), some (.ref (Λ (0, 0, 0))), some (.ref (Λ (10, 0, 0))), some (.ref ao), some (.ref ad), some (.int (nI i)), none, none, none]) ⟨rfl, rfl, rfl, rfl, rfl, rfl, trivial⟩ (AW.less (by omega) (by omega) (kk _ _ _ h2 hr.1))
  have rest : ∀ (k : Nat) (y : Int32) (σ2 : Sg) (M1 : Me), k < 4 → HX G Λ ao ad σ2 μ M1 → (k = 0 → oCell G ao y M1) → (JR (n + 5000) σ2 (sN μ 4 (nI (mqSo (gA μ 0) (scF G (i + 1))).1)) ∧ gN (sN μ 4 (nI (mqSo (gA μ 0) (scF G (i + 1))).1)) 4 = nI k ∧ (k = 0 → y = (mqSo (gA μ 0) (scF G (i + 1))).2)) → AW G (XL tb k0 n0 Z) (d + 15) (K + 7) (N + 2394) 1312 [some (.ref (scA G)), some (.ref (Λ (0, 0, 0))), some (.ref (Λ (10, 0, 0))), some (.ref ao), some (.ref ad), some (.int (nI i)), none, none, none] [.int (nI k)] M1 := by
    intro k y σ2 M1 hk h1 ho hr
    refine r_istore (q := 1314) dL_law_1312 (Nat.le_of_ble_eq_true rfl) rfl rfl ?_
    refine r_aload_n (q := 1315) dL_law_1314 rfl rfl ?_
    refine r_aload_n (q := 1316) dL_law_1315 rfl rfl ?_
    refine r_iload (q := 1318) dL_law_1316 rfl rfl ?_
    refine r_iconst (v := nI 1) (q := 1319) dL_law_1318 (by decide) rfl ?_
    refine r_iadd (q := 1320) dL_law_1319 rfl ?_
    refine r_sc (q := 1321) (by omega) hl dL_law_1320 rfl ?_
    refine r_cV (q := 1324) (As := [.int _]) wc_L_198 rfl im_X9_soonest se_X9_soonest h1.m rfl rfl (Nat.le_of_ble_eq_true rfl) (Nat.le_of_eq (Nat.zero_add _)) (Nat.le_of_eq (Nat.zero_add _)) dL_law_1321 rfl rfl (s_X9_soonest h1.2.1 okf.1 hb35 fun M2 hM2 => ?_)
    exact tail k y _ σ2 M1 _ M2 hk h1 ho hM2 hr
  refine r_aload_n (q := 1302) dL_law_1301 rfl rfl ?_
  refine r_aload_n (q := 1303) dL_law_1302 rfl rfl ?_
  refine r_iload (q := 1305) dL_law_1303 rfl rfl ?_
  refine r_iconst (v := nI 1) (q := 1306) dL_law_1305 (by decide) rfl ?_
  refine r_iadd (q := 1307) dL_law_1306 rfl ?_
  refine r_sc (q := 1308) (by omega) hl dL_law_1307 rfl ?_
  refine r_aload_n (q := 1309) dL_law_1308 rfl rfl ?_
  have bk := bk1 K
  have bn := bn6 N
  refine r_invSH (X := XL tb k0 n0 Z) (q := 1312) (k' := 1) (n' := 6) (k2 := K + 7) (n2 := N + 2394) (As := [.ref _, .int _, .ref _]) wh_soonest st_L_soonest rfl (Nat.le_of_ble_eq_true rfl) bk bn dL_law_1309 rfl rfl (h_L_soonest h.x fun Q1 QX1 hq hx => ?_)
  have es := same_soon hj.en hj.iv.sh (scF G (i + 1))
  refine s_X8_soonest (S := gS σ 0) (h.1.toS 0) ok.1 ok.2.1 (fun e => ?_) (fun E e => ?_)
  · obtain ⟨g, hg⟩ := h.c0
    exact hq _ M ⟨g, hg, rest 0 _ σ _ (by decide) h.out (fun _ => oM_cell) ⟨hj.q4.up (by omega), by rw [gN_sNs, es, e], fun _ => by rw [es]⟩⟩
  · exact hx E M _ e (rest _ 0 σ M (Nat.lt_of_le_of_lt (exL_lt e).2 (by decide)) h (fun e0 => absurd e0 (exL_lt e).1) ⟨hj.q4.up (by omega), by rw [gN_sNs, es], fun e0 => absurd e0 (exL_lt e).1⟩)
theorem lc_21 {G : En} {tb : List ExceptionTableEntry × String} {Λ : Ob → Nat} {ao ad k0 n0 K N n i : Nat} {Z : List Frame → Array Value → State → State → Prop} {σ : Sg} {μ : Mg} {M : Me} {d : Nat} (h : HX G Λ ao ad σ μ M) (hj : JR n σ μ) (hn : n + 5000 ≤ 2 ^ 24) (hn10 : 10 ≤ n) (hi : i + 4 ≤ scL G) (hl : scL G ≤ 2048) (kk : ∀ σ2 μ2 M2, HX G Λ ao ad σ2 μ2 M2 → JR (n + 5000) σ2 μ2 → AW G (XL tb k0 n0 Z) (d + 15) K N 2111 [some (.ref (scA G)), some (.ref (Λ (0, 0, 0))), some (.ref (Λ (10, 0, 0))), some (.ref ao), some (.ref ad), some (.int (nI i)), none, none, none] [] M2) : AW G (XL tb k0 n0 Z) (d + 15) (K + 8) (N + 2400) 1357 [some (.ref (scA G)), some (.ref (Λ (0, 0, 0))), some (.ref (Λ (10, 0, 0))), some (.ref ao), some (.ref ad), some (.int (nI i)), none, none, none] [] M := by
  obtain ⟨z, hz8, hz⟩ := hj.z
  have ok := hj.oks hn
  have okf := hj.okf hn
  have tail : ∀ (k : Nat) (y v : Int32) (σ2 : Sg) (M1 : Me) (μ2 : Mg) (M2 : Me), k < 4 → HX G Λ ao ad σ2 μ M1 → (k = 0 → oCell G ao y M1) → RM G Λ M1 μ2 M2 → JR (n + 5000) σ2 μ2 ∧ gN μ2 4 = nI k ∧ (k = 0 → y = v) → AW G (XL tb k0 n0 Z) (d + 15) (K + 7) (N + 2394) 1392 [some (.ref (scA G)), some (.ref (Λ (0, 0, 0))), some (.ref (Λ (10, 0, 0))), some (.ref ao), some (.ref ad), some (.int (nI i)), some (.int (nI k)), none, none] [.int v] M2 := by
    intro k y v σ2 M1 μ2 M2 hk h1 ho hM2 hr
    have h2 := h1.mod hM2
    refine r_istore (q := 1394) dL_law_1392 (Nat.le_of_ble_eq_true rfl) rfl rfl ?_
    refine r_aload_n (q := 1395) dL_law_1394 rfl rfl ?_
    refine r_cV (q := 1398) (As := []) wc_L_131 rfl im_X9_thrown se_X9_thrown h2.m rfl rfl (Nat.le_of_ble_eq_true rfl) (Nat.le_of_eq (Nat.zero_add _)) (Nat.le_of_eq (Nat.zero_add _)) dL_law_1395 rfl rfl (s_X9_thrown h2.2.1 ?_)
    refine r_iload (q := 1400) dL_law_1398 rfl rfl ?_
    refine r_icmp_eq (q := 1403) (t := 1405) dL_law_1400 (by decide) rfl (fun _ => ?_) (fun c => absurd hr.2.1 c)
    refine r_iload (q := 1407) dL_law_1405 rfl rfl ?_
    refine r_if_ne (q := 1410) (t := 1422) dL_law_1407 (by decide) rfl (fun c => ?_) (fun c => ?_)
    · refine r_goto (t := 2111) dL_law_1422 (by decide) ?_
      exact AW.forget (lv := [some (.ref (scA G)), some (.ref (Λ (0, 0, 0))), some (.ref (Λ (10, 0, 0))), some (.ref ao), some (.ref ad), some (.int (nI i)), none, none, none]) ⟨rfl, rfl, rfl, rfl, rfl, rfl, trivial⟩ (AW.less (by omega) (by omega) (kk _ _ _ h2 hr.1))
    · have k0 := nI_k0 k hk c
      obtain ⟨g, hg⟩ := (ho k0).mod hM2
      refine r_aload_n (q := 1411) dL_law_1410 rfl rfl ?_
      refine r_iconst (v := nI 0) (q := 1412) dL_law_1411 (by decide) rfl ?_
      refine r_lald (o := (12, 0, 0)) (q := 1413) hg vp_01 dL_law_1412 rfl ?_
      refine r_iload (q := 1415) dL_law_1413 rfl rfl ?_
      refine r_i2l (q := 1416) dL_law_1415 rfl ?_
      refine r_lcmp (q := 1417) dL_law_1416 rfl ?_
      rw [outv, hr.2.2 k0, lg_self]
      refine r_if_eq (q := 1420) (t := 1422) dL_law_1417 (by decide) rfl (fun _ => ?_) (fun c => absurd rfl c)
      refine r_goto (t := 2111) dL_law_1422 (by decide) ?_
      exact AW.forget (lv := [some (.ref (scA G)), some (.ref (Λ (0, 0, 0))), some (.ref (Λ (10, 0, 0))), some (.ref ao), some (.ref ad), some (.int (nI i)), none, none, none]) ⟨rfl, rfl, rfl, rfl, rfl, rfl, trivial⟩ (AW.less (by omega) (by omega) (kk _ _ _ h2 hr.1))
  have rest : ∀ (k : Nat) (y : Int32) (σ2 : Sg) (M1 : Me), k < 4 → HX G Λ ao ad σ2 μ M1 → (k = 0 → oCell G ao y M1) → (JR (n + 5000) σ2 (sN μ 4 (nI (mqRk (gA μ 0) (scF G (i + 1)) (scF G (i + 2))).1)) ∧ gN (sN μ 4 (nI (mqRk (gA μ 0) (scF G (i + 1)) (scF G (i + 2))).1)) 4 = nI k ∧ (k = 0 → y = (mqRk (gA μ 0) (scF G (i + 1)) (scF G (i + 2))).2)) → AW G (XL tb k0 n0 Z) (d + 15) (K + 7) (N + 2394) 1374 [some (.ref (scA G)), some (.ref (Λ (0, 0, 0))), some (.ref (Λ (10, 0, 0))), some (.ref ao), some (.ref ad), some (.int (nI i)), none, none, none] [.int (nI k)] M1 := by
    intro k y σ2 M1 hk h1 ho hr
    refine r_istore (q := 1376) dL_law_1374 (Nat.le_of_ble_eq_true rfl) rfl rfl ?_
    refine r_aload_n (q := 1377) dL_law_1376 rfl rfl ?_
    refine r_aload_n (q := 1378) dL_law_1377 rfl rfl ?_
    refine r_iload (q := 1380) dL_law_1378 rfl rfl ?_
    refine r_iconst (v := nI 1) (q := 1381) dL_law_1380 (by decide) rfl ?_
    refine r_iadd (q := 1382) dL_law_1381 rfl ?_
    refine r_sc (q := 1383) (by omega) hl dL_law_1382 rfl ?_
    refine r_aload_n (q := 1384) dL_law_1383 rfl rfl ?_
    refine r_iload (q := 1386) dL_law_1384 rfl rfl ?_
    refine r_iconst (v := nI 2) (q := 1387) dL_law_1386 (by decide) rfl ?_
    refine r_iadd (q := 1388) dL_law_1387 rfl ?_
    refine r_sc (q := 1389) (by omega) hl dL_law_1388 rfl ?_
    refine r_cV (q := 1392) (As := [.int _, .int _]) wc_L_201 rfl im_X9_ranked se_X9_ranked h1.m rfl rfl (Nat.le_of_ble_eq_true rfl) (Nat.le_of_eq (Nat.zero_add _)) (Nat.le_of_eq (Nat.zero_add _)) dL_law_1389 rfl rfl (s_X9_ranked h1.2.1 fun M2 hM2 => ?_)
    exact tail k y _ σ2 M1 _ M2 hk h1 ho hM2 hr
  refine r_aload_n (q := 1358) dL_law_1357 rfl rfl ?_
  refine r_aload_n (q := 1359) dL_law_1358 rfl rfl ?_
  refine r_iload (q := 1361) dL_law_1359 rfl rfl ?_
  refine r_iconst (v := nI 1) (q := 1362) dL_law_1361 (by decide) rfl ?_
  refine r_iadd (q := 1363) dL_law_1362 rfl ?_
  refine r_sc (q := 1364) (by omega) hl dL_law_1363 rfl ?_
  refine r_aload_n (q := 1365) dL_law_1364 rfl rfl ?_
  refine r_iload (q := 1367) dL_law_1365 rfl rfl ?_
  refine r_iconst (v := nI 2) (q := 1368) dL_law_1367 (by decide) rfl ?_
  refine r_iadd (q := 1369) dL_law_1368 rfl ?_
  refine r_sc (q := 1370) (by omega) hl dL_law_1369 rfl ?_
  refine r_aload_n (q := 1371) dL_law_1370 rfl rfl ?_
  have bk := bk1 K
  have bn := bn6 N
  refine r_invSH (X := XL tb k0 n0 Z) (q := 1374) (k' := 1) (n' := 6) (k2 := K + 7) (n2 := N + 2394) (As := [.ref _, .int _, .int _, .ref _]) wh_ranked st_L_ranked rfl (Nat.le_of_ble_eq_true rfl) bk bn dL_law_1371 rfl rfl (h_L_ranked h.x fun Q1 QX1 hq hx => ?_)
  have es := same_rank hj.en (scF G (i + 1)) (scF G (i + 2))
  refine s_X8_ranked (S := gS σ 0) (h.1.toS 0) ok.1 (fun e => ?_) (fun E e => ?_)
  · obtain ⟨g, hg⟩ := h.c0
    exact hq _ M ⟨g, hg, rest 0 _ σ _ (by decide) h.out (fun _ => oM_cell) ⟨hj.q4.up (by omega), by rw [gN_sNs, es, e], fun _ => by rw [es]⟩⟩
  · exact hx E M _ e (rest _ 0 σ M (Nat.lt_of_le_of_lt (exL_lt e).2 (by decide)) h (fun e0 => absurd e0 (exL_lt e).1) ⟨hj.q4.up (by omega), by rw [gN_sNs, es], fun e0 => absurd e0 (exL_lt e).1⟩)
theorem lc_26 {G : En} {tb : List ExceptionTableEntry × String} {Λ : Ob → Nat} {ao ad k0 n0 K N n i : Nat} {Z : List Frame → Array Value → State → State → Prop} {σ : Sg} {μ : Mg} {M : Me} {d : Nat} (h : HX G Λ ao ad σ μ M) (hj : JR n σ μ) (hn : n + 5000 ≤ 2 ^ 24) (hn10 : 10 ≤ n) (hi : i + 4 ≤ scL G) (hl : scL G ≤ 2048) (kk : ∀ σ2 μ2 M2, HX G Λ ao ad σ2 μ2 M2 → JR (n + 5000) σ2 μ2 → AW G (XL tb k0 n0 Z) (d + 15) K N 2111 [some (.ref (scA G)), some (.ref (Λ (0, 0, 0))), some (.ref (Λ (10, 0, 0))), some (.ref ao), some (.ref ad), some (.int (nI i)), none, none, none] [] M2) : AW G (XL tb k0 n0 Z) (d + 15) (K + 8) (N + 2400) 1563 [some (.ref (scA G)), some (.ref (Λ (0, 0, 0))), some (.ref (Λ (10, 0, 0))), some (.ref ao), some (.ref ad), some (.int (nI i)), none, none, none] [] M := by
  obtain ⟨z, hz8, hz⟩ := hj.z
  have ok := hj.oks hn
  have okf := hj.okf hn
  have tail : ∀ (k : Nat) (y v : Int32) (σ2 : Sg) (M1 : Me) (μ2 : Mg) (M2 : Me), k < 4 → HX G Λ ao ad σ2 μ M1 → (k = 0 → oCell G ao y M1) → RM G Λ M1 μ2 M2 → JR (n + 5000) σ2 μ2 ∧ gN μ2 4 = nI k ∧ (k = 0 → y = v) → AW G (XL tb k0 n0 Z) (d + 15) (K + 7) (N + 2394) 1602 [some (.ref (scA G)), some (.ref (Λ (0, 0, 0))), some (.ref (Λ (10, 0, 0))), some (.ref ao), some (.ref ad), some (.int (nI i)), some (.int (nI k)), none, none] [.int v] M2 := by
    intro k y v σ2 M1 μ2 M2 hk h1 ho hM2 hr
    have h2 := h1.mod hM2
    refine r_istore (q := 1604) dL_law_1602 (Nat.le_of_ble_eq_true rfl) rfl rfl ?_
    refine r_aload_n (q := 1605) dL_law_1604 rfl rfl ?_
    refine r_cV (q := 1608) (As := []) wc_L_131 rfl im_X9_thrown se_X9_thrown h2.m rfl rfl (Nat.le_of_ble_eq_true rfl) (Nat.le_of_eq (Nat.zero_add _)) (Nat.le_of_eq (Nat.zero_add _)) dL_law_1605 rfl rfl (s_X9_thrown h2.2.1 ?_)
    refine r_iload (q := 1610) dL_law_1608 rfl rfl ?_
    refine r_icmp_eq (q := 1613) (t := 1615) dL_law_1610 (by decide) rfl (fun _ => ?_) (fun c => absurd hr.2.1 c)
    refine r_iload (q := 1617) dL_law_1615 rfl rfl ?_
    refine r_if_ne (q := 1620) (t := 1632) dL_law_1617 (by decide) rfl (fun c => ?_) (fun c => ?_)
    · refine r_goto (t := 2111) dL_law_1632 (by decide) ?_
      exact AW.forget (lv := [some (.ref (scA G)), some (.ref (Λ (0, 0, 0))), some (.ref (Λ (10, 0, 0))), some (.ref ao), some (.ref ad), some (.int (nI i)), none, none, none]) ⟨rfl, rfl, rfl, rfl, rfl, rfl, trivial⟩ (AW.less (by omega) (by omega) (kk _ _ _ h2 hr.1))
    · have k0 := nI_k0 k hk c
      obtain ⟨g, hg⟩ := (ho k0).mod hM2
      refine r_aload_n (q := 1621) dL_law_1620 rfl rfl ?_
      refine r_iconst (v := nI 0) (q := 1622) dL_law_1621 (by decide) rfl ?_
      refine r_lald (o := (12, 0, 0)) (q := 1623) hg vp_01 dL_law_1622 rfl ?_
      refine r_iload (q := 1625) dL_law_1623 rfl rfl ?_
      refine r_i2l (q := 1626) dL_law_1625 rfl ?_
      refine r_lcmp (q := 1627) dL_law_1626 rfl ?_
      rw [outv, hr.2.2 k0, lg_self]
      refine r_if_eq (q := 1630) (t := 1632) dL_law_1627 (by decide) rfl (fun _ => ?_) (fun c => absurd rfl c)
      refine r_goto (t := 2111) dL_law_1632 (by decide) ?_
      exact AW.forget (lv := [some (.ref (scA G)), some (.ref (Λ (0, 0, 0))), some (.ref (Λ (10, 0, 0))), some (.ref ao), some (.ref ad), some (.int (nI i)), none, none, none]) ⟨rfl, rfl, rfl, rfl, rfl, rfl, trivial⟩ (AW.less (by omega) (by omega) (kk _ _ _ h2 hr.1))
  have rest : ∀ (k : Nat) (y : Int32) (σ2 : Sg) (M1 : Me), k < 4 → HX G Λ ao ad σ2 μ M1 → (k = 0 → oCell G ao y M1) → (JR (n + 5000) σ2 (sN μ 4 (nI (mqRef μ (decide (¬ scF G (i + 1) = 0))).1)) ∧ gN (sN μ 4 (nI (mqRef μ (decide (¬ scF G (i + 1) = 0))).1)) 4 = nI k ∧ (k = 0 → y = (mqRef μ (decide (¬ scF G (i + 1) = 0))).2)) → AW G (XL tb k0 n0 Z) (d + 15) (K + 7) (N + 2394) 1582 [some (.ref (scA G)), some (.ref (Λ (0, 0, 0))), some (.ref (Λ (10, 0, 0))), some (.ref ao), some (.ref ad), some (.int (nI i)), none, none, none] [.int (nI k)] M1 := by
    intro k y σ2 M1 hk h1 ho hr
    refine r_istore (q := 1584) dL_law_1582 (Nat.le_of_ble_eq_true rfl) rfl rfl ?_
    refine r_aload_n (q := 1585) dL_law_1584 rfl rfl ?_
    refine r_aload_n (q := 1586) dL_law_1585 rfl rfl ?_
    refine r_iload (q := 1588) dL_law_1586 rfl rfl ?_
    refine r_iconst (v := nI 1) (q := 1589) dL_law_1588 (by decide) rfl ?_
    refine r_iadd (q := 1590) dL_law_1589 rfl ?_
    refine r_sc (q := 1591) (by omega) hl dL_law_1590 rfl ?_
    refine r_bz (p1 := 1594) (p2 := 1595) (p3 := 1598) (q := 1599) dL_law_1591 rfl rfl dL_law_1594 dL_law_1595 (by decide) dL_law_1598 (by decide) rfl ?_
    refine r_cV (q := 1602) (As := [.int _]) wc_L_219 rfl im_X9_refusal se_X9_refusal h1.m rfl rfl (Nat.le_of_ble_eq_true rfl) (Nat.le_of_eq (Nat.zero_add _)) (Nat.le_of_eq (Nat.zero_add _)) dL_law_1599 rfl rfl (s_X9_refusal h1.2.1 fun M2 hM2 => ?_)
    exact tail k y _ σ2 M1 _ M2 hk h1 ho hM2 hr
  refine r_aload_n (q := 1564) dL_law_1563 rfl rfl ?_
  refine r_aload_n (q := 1565) dL_law_1564 rfl rfl ?_
  refine r_iload (q := 1567) dL_law_1565 rfl rfl ?_
  refine r_iconst (v := nI 1) (q := 1568) dL_law_1567 (by decide) rfl ?_
  refine r_iadd (q := 1569) dL_law_1568 rfl ?_
  refine r_sc (q := 1570) (by omega) hl dL_law_1569 rfl ?_
  refine r_bz (p1 := 1573) (p2 := 1574) (p3 := 1577) (q := 1578) dL_law_1570 rfl rfl dL_law_1573 dL_law_1574 (by decide) dL_law_1577 (by decide) rfl ?_
  refine r_aload_n (q := 1579) dL_law_1578 rfl rfl ?_
  have bk := bk1 K
  have bn := bn6 N
  refine r_invSH (X := XL tb k0 n0 Z) (q := 1582) (k' := 1) (n' := 6) (k2 := K + 7) (n2 := N + 2394) (As := [.ref _, .int _, .ref _]) wh_refusal st_L_refusal rfl (Nat.le_of_ble_eq_true rfl) bk bn dL_law_1579 rfl rfl (h_L_refusal h.x fun Q1 QX1 hq hx => ?_)
  have es := j_refq hj (decide (¬ scF G (i + 1) = 0))
  refine s_X8_refusal h.1 (fun e => ?_) (fun E e => ?_)
  · obtain ⟨g, hg⟩ := h.c0
    exact hq _ M ⟨g, hg, rest 0 _ σ _ (by decide) h.out (fun _ => oM_cell) ⟨hj.q4.up (by omega), by rw [gN_sNs, es, e], fun _ => by rw [es]⟩⟩
  · exact hx E M _ e (rest _ 0 σ M (Nat.lt_of_le_of_lt (exL_lt e).2 (by decide)) h (fun e0 => absurd e0 (exL_lt e).1) ⟨hj.q4.up (by omega), by rw [gN_sNs, es], fun e0 => absurd e0 (exL_lt e).1⟩)
theorem lc_32 {G : En} {tb : List ExceptionTableEntry × String} {Λ : Ob → Nat} {ao ad k0 n0 K N n i : Nat} {Z : List Frame → Array Value → State → State → Prop} {σ : Sg} {μ : Mg} {M : Me} {d : Nat} (h : HX G Λ ao ad σ μ M) (hj : JR n σ μ) (hn : n + 5000 ≤ 2 ^ 24) (hn10 : 10 ≤ n) (hi : i + 4 ≤ scL G) (hl : scL G ≤ 2048) (kk : ∀ σ2 μ2 M2, HX G Λ ao ad σ2 μ2 M2 → JR (n + 5000) σ2 μ2 → AW G (XL tb k0 n0 Z) (d + 15) K N 2111 [some (.ref (scA G)), some (.ref (Λ (0, 0, 0))), some (.ref (Λ (10, 0, 0))), some (.ref ao), some (.ref ad), some (.int (nI i)), none, none, none] [] M2) : AW G (XL tb k0 n0 Z) (d + 15) (K + 8) (N + 2400) 1922 [some (.ref (scA G)), some (.ref (Λ (0, 0, 0))), some (.ref (Λ (10, 0, 0))), some (.ref ao), some (.ref ad), some (.int (nI i)), none, none, none] [] M := by
  obtain ⟨z, hz8, hz⟩ := hj.z
  have ok := hj.oks hn
  have okf := hj.okf hn
  have tail : ∀ (k : Nat) (y v : Int32) (σ2 : Sg) (M1 : Me) (μ2 : Mg) (M2 : Me), k < 4 → HX G Λ ao ad σ2 μ M1 → (k = 0 → oCell G ao y M1) → RM G Λ M1 μ2 M2 → JR (n + 5000) σ2 μ2 ∧ gN μ2 4 = nI k ∧ (k = 0 → y = v) → AW G (XL tb k0 n0 Z) (d + 15) (K + 7) (N + 2394) 1933 [some (.ref (scA G)), some (.ref (Λ (0, 0, 0))), some (.ref (Λ (10, 0, 0))), some (.ref ao), some (.ref ad), some (.int (nI i)), some (.int (nI k)), none, none] [.int v] M2 := by
    intro k y v σ2 M1 μ2 M2 hk h1 ho hM2 hr
    have h2 := h1.mod hM2
    refine r_istore (q := 1935) dL_law_1933 (Nat.le_of_ble_eq_true rfl) rfl rfl ?_
    refine r_aload_n (q := 1936) dL_law_1935 rfl rfl ?_
    refine r_cV (q := 1939) (As := []) wc_L_131 rfl im_X9_thrown se_X9_thrown h2.m rfl rfl (Nat.le_of_ble_eq_true rfl) (Nat.le_of_eq (Nat.zero_add _)) (Nat.le_of_eq (Nat.zero_add _)) dL_law_1936 rfl rfl (s_X9_thrown h2.2.1 ?_)
    refine r_iload (q := 1941) dL_law_1939 rfl rfl ?_
    refine r_icmp_eq (q := 1944) (t := 1946) dL_law_1941 (by decide) rfl (fun _ => ?_) (fun c => absurd hr.2.1 c)
    refine r_iload (q := 1948) dL_law_1946 rfl rfl ?_
    refine r_if_ne (q := 1951) (t := 1963) dL_law_1948 (by decide) rfl (fun c => ?_) (fun c => ?_)
    · refine r_goto (t := 2111) dL_law_1963 (by decide) ?_
      exact AW.forget (lv := [some (.ref (scA G)), some (.ref (Λ (0, 0, 0))), some (.ref (Λ (10, 0, 0))), some (.ref ao), some (.ref ad), some (.int (nI i)), none, none, none]) ⟨rfl, rfl, rfl, rfl, rfl, rfl, trivial⟩ (AW.less (by omega) (by omega) (kk _ _ _ h2 hr.1))
    · have k0 := nI_k0 k hk c
      obtain ⟨g, hg⟩ := (ho k0).mod hM2
      refine r_aload_n (q := 1952) dL_law_1951 rfl rfl ?_
      refine r_iconst (v := nI 0) (q := 1953) dL_law_1952 (by decide) rfl ?_
      refine r_lald (o := (12, 0, 0)) (q := 1954) hg vp_01 dL_law_1953 rfl ?_
      refine r_iload (q := 1956) dL_law_1954 rfl rfl ?_
      refine r_i2l (q := 1957) dL_law_1956 rfl ?_
      refine r_lcmp (q := 1958) dL_law_1957 rfl ?_
      rw [outv, hr.2.2 k0, lg_self]
      refine r_if_eq (q := 1961) (t := 1963) dL_law_1958 (by decide) rfl (fun _ => ?_) (fun c => absurd rfl c)
      refine r_goto (t := 2111) dL_law_1963 (by decide) ?_
      exact AW.forget (lv := [some (.ref (scA G)), some (.ref (Λ (0, 0, 0))), some (.ref (Λ (10, 0, 0))), some (.ref ao), some (.ref ad), some (.int (nI i)), none, none, none]) ⟨rfl, rfl, rfl, rfl, rfl, rfl, trivial⟩ (AW.less (by omega) (by omega) (kk _ _ _ h2 hr.1))
  have rest : ∀ (k : Nat) (y : Int32) (σ2 : Sg) (M1 : Me), k < 4 → HX G Λ ao ad σ2 μ M1 → (k = 0 → oCell G ao y M1) → (JR (n + 5000) σ2 (sN μ 4 (nI (mqErr μ 10).1)) ∧ gN (sN μ 4 (nI (mqErr μ 10).1)) 4 = nI k ∧ (k = 0 → y = (mqErr μ 10).2)) → AW G (XL tb k0 n0 Z) (d + 15) (K + 7) (N + 2394) 1927 [some (.ref (scA G)), some (.ref (Λ (0, 0, 0))), some (.ref (Λ (10, 0, 0))), some (.ref ao), some (.ref ad), some (.int (nI i)), none, none, none] [.int (nI k)] M1 := by
    intro k y σ2 M1 hk h1 ho hr
    refine r_istore (q := 1929) dL_law_1927 (Nat.le_of_ble_eq_true rfl) rfl rfl ?_
    refine r_aload_n (q := 1930) dL_law_1929 rfl rfl ?_
    refine r_cV (q := 1933) (As := []) wc_L_239 rfl im_X9_errorPosition se_X9_errorPosition h1.m rfl rfl (Nat.le_of_ble_eq_true rfl) (Nat.le_of_eq (Nat.zero_add _)) (Nat.le_of_eq (Nat.zero_add _)) dL_law_1930 rfl rfl (s_X9_errorPosition h1.2.1 fun M2 hM2 => ?_)
    exact tail k y _ σ2 M1 _ M2 hk h1 ho hM2 hr
  refine r_aload_n (q := 1923) dL_law_1922 rfl rfl ?_
  refine r_aload_n (q := 1924) dL_law_1923 rfl rfl ?_
  have bk := bk1 K
  have bn := bn6 N
  refine r_invSH (X := XL tb k0 n0 Z) (q := 1927) (k' := 1) (n' := 6) (k2 := K + 7) (n2 := N + 2394) (As := [.ref _, .ref _]) wh_errorPosition st_L_errorPosition rfl (Nat.le_of_ble_eq_true rfl) bk bn dL_law_1924 rfl rfl (h_L_errorPosition h.x fun Q1 QX1 hq hx => ?_)
  have es := j_errq hj
  refine s_X8_errorPosition h.1 (fun e => ?_) (fun E e => ?_)
  · obtain ⟨g, hg⟩ := h.c0
    exact hq _ M ⟨g, hg, rest 0 _ σ _ (by decide) h.out (fun _ => oM_cell) ⟨hj.q4.up (by omega), by rw [gN_sNs, es, e], fun _ => by rw [es]⟩⟩
  · exact hx E M _ e (rest _ 0 σ M (Nat.lt_of_le_of_lt (exL_lt e).2 (by decide)) h (fun e0 => absurd e0 (exL_lt e).1) ⟨hj.q4.up (by omega), by rw [gN_sNs, es], fun e0 => absurd e0 (exL_lt e).1⟩)
theorem lc_33 {G : En} {tb : List ExceptionTableEntry × String} {Λ : Ob → Nat} {ao ad k0 n0 K N n i : Nat} {Z : List Frame → Array Value → State → State → Prop} {σ : Sg} {μ : Mg} {M : Me} {d : Nat} (h : HX G Λ ao ad σ μ M) (hj : JR n σ μ) (hn : n + 5000 ≤ 2 ^ 24) (hn10 : 10 ≤ n) (hi : i + 4 ≤ scL G) (hl : scL G ≤ 2048) (kk : ∀ σ2 μ2 M2, HX G Λ ao ad σ2 μ2 M2 → JR (n + 5000) σ2 μ2 → AW G (XL tb k0 n0 Z) (d + 15) K N 2111 [some (.ref (scA G)), some (.ref (Λ (0, 0, 0))), some (.ref (Λ (10, 0, 0))), some (.ref ao), some (.ref ad), some (.int (nI i)), none, none, none] [] M2) : AW G (XL tb k0 n0 Z) (d + 15) (K + 8) (N + 2400) 1966 [some (.ref (scA G)), some (.ref (Λ (0, 0, 0))), some (.ref (Λ (10, 0, 0))), some (.ref ao), some (.ref ad), some (.int (nI i)), none, none, none] [] M := by
  obtain ⟨z, hz8, hz⟩ := hj.z
  have ok := hj.oks hn
  have okf := hj.okf hn
  have tail : ∀ (k : Nat) (y v : Int32) (σ2 : Sg) (M1 : Me) (μ2 : Mg) (M2 : Me), k < 4 → HX G Λ ao ad σ2 μ M1 → (k = 0 → oCell G ao y M1) → RM G Λ M1 μ2 M2 → JR (n + 5000) σ2 μ2 ∧ gN μ2 4 = nI k ∧ (k = 0 → y = v) → AW G (XL tb k0 n0 Z) (d + 15) (K + 7) (N + 2394) 1977 [some (.ref (scA G)), some (.ref (Λ (0, 0, 0))), some (.ref (Λ (10, 0, 0))), some (.ref ao), some (.ref ad), some (.int (nI i)), some (.int (nI k)), none, none] [.int v] M2 := by
    intro k y v σ2 M1 μ2 M2 hk h1 ho hM2 hr
    have h2 := h1.mod hM2
    refine r_istore (q := 1979) dL_law_1977 (Nat.le_of_ble_eq_true rfl) rfl rfl ?_
    refine r_aload_n (q := 1980) dL_law_1979 rfl rfl ?_
    refine r_cV (q := 1983) (As := []) wc_L_131 rfl im_X9_thrown se_X9_thrown h2.m rfl rfl (Nat.le_of_ble_eq_true rfl) (Nat.le_of_eq (Nat.zero_add _)) (Nat.le_of_eq (Nat.zero_add _)) dL_law_1980 rfl rfl (s_X9_thrown h2.2.1 ?_)
    refine r_iload (q := 1985) dL_law_1983 rfl rfl ?_
    refine r_icmp_eq (q := 1988) (t := 1990) dL_law_1985 (by decide) rfl (fun _ => ?_) (fun c => absurd hr.2.1 c)
    refine r_iload (q := 1992) dL_law_1990 rfl rfl ?_
    refine r_if_ne (q := 1995) (t := 2007) dL_law_1992 (by decide) rfl (fun c => ?_) (fun c => ?_)
    · refine r_goto (t := 2111) dL_law_2007 (by decide) ?_
      exact AW.forget (lv := [some (.ref (scA G)), some (.ref (Λ (0, 0, 0))), some (.ref (Λ (10, 0, 0))), some (.ref ao), some (.ref ad), some (.int (nI i)), none, none, none]) ⟨rfl, rfl, rfl, rfl, rfl, rfl, trivial⟩ (AW.less (by omega) (by omega) (kk _ _ _ h2 hr.1))
    · have k0 := nI_k0 k hk c
      obtain ⟨g, hg⟩ := (ho k0).mod hM2
      refine r_aload_n (q := 1996) dL_law_1995 rfl rfl ?_
      refine r_iconst (v := nI 0) (q := 1997) dL_law_1996 (by decide) rfl ?_
      refine r_lald (o := (12, 0, 0)) (q := 1998) hg vp_01 dL_law_1997 rfl ?_
      refine r_iload (q := 2000) dL_law_1998 rfl rfl ?_
      refine r_i2l (q := 2001) dL_law_2000 rfl ?_
      refine r_lcmp (q := 2002) dL_law_2001 rfl ?_
      rw [outv, hr.2.2 k0, lg_self]
      refine r_if_eq (q := 2005) (t := 2007) dL_law_2002 (by decide) rfl (fun _ => ?_) (fun c => absurd rfl c)
      refine r_goto (t := 2111) dL_law_2007 (by decide) ?_
      exact AW.forget (lv := [some (.ref (scA G)), some (.ref (Λ (0, 0, 0))), some (.ref (Λ (10, 0, 0))), some (.ref ao), some (.ref ad), some (.int (nI i)), none, none, none]) ⟨rfl, rfl, rfl, rfl, rfl, rfl, trivial⟩ (AW.less (by omega) (by omega) (kk _ _ _ h2 hr.1))
  have rest : ∀ (k : Nat) (y : Int32) (σ2 : Sg) (M1 : Me), k < 4 → HX G Λ ao ad σ2 μ M1 → (k = 0 → oCell G ao y M1) → (JR (n + 5000) σ2 (sN μ 4 (nI (mqErr μ 11).1)) ∧ gN (sN μ 4 (nI (mqErr μ 11).1)) 4 = nI k ∧ (k = 0 → y = (mqErr μ 11).2)) → AW G (XL tb k0 n0 Z) (d + 15) (K + 7) (N + 2394) 1971 [some (.ref (scA G)), some (.ref (Λ (0, 0, 0))), some (.ref (Λ (10, 0, 0))), some (.ref ao), some (.ref ad), some (.int (nI i)), none, none, none] [.int (nI k)] M1 := by
    intro k y σ2 M1 hk h1 ho hr
    refine r_istore (q := 1973) dL_law_1971 (Nat.le_of_ble_eq_true rfl) rfl rfl ?_
    refine r_aload_n (q := 1974) dL_law_1973 rfl rfl ?_
    refine r_cV (q := 1977) (As := []) wc_L_242 rfl im_X9_refusedItem se_X9_refusedItem h1.m rfl rfl (Nat.le_of_ble_eq_true rfl) (Nat.le_of_eq (Nat.zero_add _)) (Nat.le_of_eq (Nat.zero_add _)) dL_law_1974 rfl rfl (s_X9_refusedItem h1.2.1 fun M2 hM2 => ?_)
    exact tail k y _ σ2 M1 _ M2 hk h1 ho hM2 hr
  refine r_aload_n (q := 1967) dL_law_1966 rfl rfl ?_
  refine r_aload_n (q := 1968) dL_law_1967 rfl rfl ?_
  have bk := bk1 K
  have bn := bn6 N
  refine r_invSH (X := XL tb k0 n0 Z) (q := 1971) (k' := 1) (n' := 6) (k2 := K + 7) (n2 := N + 2394) (As := [.ref _, .ref _]) wh_refusedItem st_L_refusedItem rfl (Nat.le_of_ble_eq_true rfl) bk bn dL_law_1968 rfl rfl (h_L_refusedItem h.x fun Q1 QX1 hq hx => ?_)
  have es := j_itq hj
  refine s_X8_refusedItem h.1 (fun e => ?_) (fun E e => ?_)
  · obtain ⟨g, hg⟩ := h.c0
    exact hq _ M ⟨g, hg, rest 0 _ σ _ (by decide) h.out (fun _ => oM_cell) ⟨hj.q4.up (by omega), by rw [gN_sNs, es, e], fun _ => by rw [es]⟩⟩
  · exact hx E M _ e (rest _ 0 σ M (Nat.lt_of_le_of_lt (exL_lt e).2 (by decide)) h (fun e0 => absurd e0 (exL_lt e).1) ⟨hj.q4.up (by omega), by rw [gN_sNs, es], fun e0 => absurd e0 (exL_lt e).1⟩)
end W99b
