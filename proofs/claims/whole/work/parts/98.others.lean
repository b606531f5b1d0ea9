/-! BOTH TOGETHER: the other calls -/
section W98
variable {G : En} {Λ : Ob → Nat} {S S' : St} {F F' : Nat → Nat} {n m z : Nat} {σ σ2 : Sg} {μ μ2 : Mg} {L : List Nat}
theorem en_s0 : EN s0 (clC 7) := by
  have h1 : ∀ l, l < 7 → ∀ w, w < 10 → lF (clC 7) l w = if w = 3 ∨ w = 4 then 10 else 0 := by decide
  have h2 : ∀ l, l < 7 → ∀ w, w < 9 → 2 ≤ w → (s0.1 (w - 1)).getD l 0 = if w = 3 ∨ w = 4 then 10 else 0 := by decide
  have h3 : ∀ l, l < 7 → gWd s0 l = 0 := by decide
  have h4 : ∀ p, p < 4 → ∀ w, w < 3 → pF (clC 7) p w = (s0.1 (8 + w)).getD p 0 := by decide
  refine EN.mk rfl rfl rfl rfl rfl rfl rfl rfl rfl rfl (fun l hl => ?_) (fun l hl => ?_) (fun l hl w h2' h9 => ?_) (fun l hl => ?_) h4 (fun i hi => ?_) (fun i hi => ?_) (fun i hi => ?_)
  · rw [h1 l hl 0 (by decide), h3 l hl]; rfl
  · rw [h1 l hl 1 (by decide), h3 l hl]; rfl
  · rw [h1 l hl w (by omega), h2 l hl w h9 h2']
  · rw [h1 l hl 9 (by decide)]; rfl
  · exact absurd (show i < 0 from hi) (Nat.not_lt_zero i)
  · exact absurd (show i < 0 from hi) (Nat.not_lt_zero i)
  · exact absurd (show i < 0 from hi) (Nat.not_lt_zero i)
theorem HS.zero (h5 : gM σ 5 = nI z) (hz : z < 8) (h6 : gM σ2 6 = nI 0) (h5' : gM σ2 5 = gM σ 5) (k : gN μ2 5 = nI 0) : HS n σ2 μ2 := ⟨z, 0, hz, Nat.zero_le _, h5'.trans h5, h6, k, fun i hi => absurd hi (Nat.not_lt_zero i)⟩
theorem j_clear (h : JR n σ μ) (hn : 10 ≤ n) : JR n (sM (sS σ 0 s0) 6 (nI 0)) (sN (sA (sN μ 4 (nI 0)) 0 (clC 7)) 5 (nI 0)) ∧ mCn (gA μ 0) 0 7 = ((gS σ 0).1 0).countP (0 < ·) := by
  obtain ⟨o, z, a, b, c, d, e, f⟩ := h.hs
  have eA : ∀ i, i ≠ 0 → gA (sN (sA (sN μ 4 (nI 0)) 0 (clC 7)) 5 (nI 0)) i = gA μ i := fun i hi => by rw [gA_sNe, gA_n hi, gA_sNe]
  have eN : ∀ k, k ≠ 4 → k ≠ 5 → gN (sN (sA (sN μ 4 (nI 0)) 0 (clC 7)) 5 (nI 0)) k = gN μ k := fun k h4 h5 => by rw [gN_sNn h5, gN_sA, gN_sNn h4]
  have eM : ∀ j, j ≠ 6 → gM (sM (sS σ 0 s0) 6 (nI 0)) j = gM σ j := fun j hj => by rw [gM_sM, if_neg hj, gM_sS]
  refine ⟨JR.mk ?_ ?_ (HS.zero c a (by rw [gM_sM, if_pos rfl]) (eM 5 (by decide)) gN_sNs) (h.sv.same (eM 0 (by decide)) (gS_sM.trans (gS_ne (by decide))) (eN 12 (by decide) (by decide)) (eA 2 (by decide))) (h.t.same (fun j hj => eM j (by omega)) rfl rfl (gR_sM.trans (gR_n (by decide))) (fun k hk => eN k (by omega) (by omega)) fun i hi => eA i (by omega)), h.en.cn h.iv.sh⟩
  · rw [gS_sM, gS_sS, gA_sNe, gA_s]; exact en_s0
  · rw [gS_sM, gS_sS]; exact iv_s0.up hn
theorem j_hour (h : JR n σ μ) (hz : gN μ 5 = nI z) (hz8 : z ≤ 8) : JR (n + 150) (sS (pN σ (gS σ 0)) 0 (fHour (gS σ 0))) (mOk μ (gbF (gA μ 0) (mWv (gA μ 0) (mBest (gA μ 0)))) z) ∧ mWv (gA μ 0) (mBest (gA μ 0)) = gWay (gS σ 0) :=
  ⟨h.ok hz hz8 (en_hour h.en h.iv.sh h.iv.so h.iv.h12) (iv_hour h.iv) (by omega), same_way h.en h.iv.so⟩
theorem j_undo (h : JR n σ μ) {o : Nat} (ho8 : o < 8) (hz8 : z ≤ 8) (ho : gM σ 5 = nI o) (hz6 : gM σ 6 = nI z) (hz : gN μ 5 = nI z) (h0 : 0 < z) : JR n (hPop σ o z 0) (mUnd μ z) ∧ gN (mUnd μ z) 4 = nI 0 := by
  obtain ⟨o', z', a, b, c, d, e, f⟩ := h.hs
  have ez : z' = z := by
    have := congrArg Int32.toNatClampNeg (d.symm.trans hz6)
    rw [nI_c7 (by omega), nI_c7 (by omega)] at this; exact this
  have eo : o' = o := by
    have := congrArg Int32.toNatClampNeg (c.symm.trans ho)
    rw [nI_c7 (by omega), nI_c7 (by omega)] at this; exact this
  subst ez; subst eo
  have eU : mUnd μ z' = sA (sN (sN μ 4 (nI 0)) 5 (nI (z' - 1))) 0 (unF (gA μ 3) (z' - 1)) := if_neg (by omega)
  rw [eU]
  have eA : ∀ i, i ≠ 0 → gA (sA (sN (sN μ 4 (nI 0)) 5 (nI (z' - 1))) 0 (unF (gA μ 3) (z' - 1))) i = gA μ i := fun i hi => by rw [gA_n hi]; rfl
  have eN : ∀ k, k ≠ 4 → k ≠ 5 → gN (sA (sN (sN μ 4 (nI 0)) 5 (nI (z' - 1))) 0 (unF (gA μ 3) (z' - 1))) k = gN μ k := fun k h4 h5 => by rw [gN_sA, gN_sNn h5, gN_sNn h4]
  have eM : ∀ j, j ≠ 6 → gM (hPop σ o' z' 0) j = gM σ j := fun j hj => by rw [hPop, gM_sM, if_neg hj, gM_sS]
  obtain ⟨x, y⟩ := f (z' - 1) (by omega)
  refine ⟨JR.mk ?_ ?_ ⟨o', z' - 1, a, by omega, (eM 5 (by decide)).trans c, by rw [hPop, gM_sM, if_pos rfl], by rw [gN_sA, gN_sNs], fun i hi => ?_⟩ (h.sv.same (eM 0 (by decide)) (by rw [hPop, gS_sM, gS_ne (by decide)]) (eN 12 (by decide) (by decide)) (eA 2 (by decide))) (h.t.same (fun j hj => eM j (by omega)) rfl rfl (by rw [hPop, gR_sM]; exact gR_n (by decide)) (fun k hk => eN k (by omega) (by omega)) fun i hi => eA i (by omega)), by rw [gN_sA, gN_sNn (by decide), gN_sNs]⟩
  · rw [hPop, gS_sM, gS_sS, gA_s]; exact x
  · rw [hPop, gS_sM, gS_sS]; exact y
  · rw [hPop, gS_sM, gS_ne (by omega), eA 3 (by decide)]; exact f i (by omega)
theorem j_undo0 (h : JR n σ μ) (h0 : gM σ 6 = 0) : JR n σ (mUnd μ 0) ∧ gN (mUnd μ 0) 4 = nI 1 ∧ gN μ 5 = nI 0 := by
  obtain ⟨o, z, a, b, c, d, e, f⟩ := h.hs
  have ez : z = 0 := by
    have := congrArg Int32.toNatClampNeg (d.symm.trans h0)
    rw [nI_c7 (by omega)] at this; exact this
  subst ez
  exact ⟨h.q4, gN_sNs, e⟩
theorem j_snap (h : JR n σ μ) : JR n (sM (sS σ 2 (gS σ 0)) 0 (nI 1)) (mSnp μ) ∧ mCn (gA μ 0) 0 7 = ((gS σ 0).1 0).countP (0 < ·) := by
  have eA : ∀ i, i ≠ 2 → gA (mSnp μ) i = gA μ i := fun i hi => by rw [mSnp, gA_sNe, gA_n hi, gA_sNe]
  have eA2 : gA (mSnp μ) 2 = gA μ 0 := by rw [mSnp, gA_sNe, gA_s]
  have eN : ∀ k, k ≠ 4 → k ≠ 12 → gN (mSnp μ) k = gN μ k := fun k h4 h5 => by rw [mSnp, gN_sNn h5, gN_sA, gN_sNn h4]
  have eM : ∀ j, j ≠ 0 → gM (sM (sS σ 2 (gS σ 0)) 0 (nI 1)) j = gM σ j := fun j hj => by rw [gM_sM, if_neg hj, gM_sS]
  refine ⟨JR.mk ?_ ?_ (h.hs.same (eM 5 (by decide)) (eM 6 (by decide)) (fun a h3 _ => by rw [gS_sM, gS_ne (by omega)]) (eN 5 (by decide) (by decide)) (eA 3 (by decide))) (Or.inr ⟨by rw [gM_sM, if_pos rfl], ?_, ?_, ?_⟩) (h.t.same (fun j hj => eM j (by omega)) rfl rfl (gR_sM.trans (gR_n (by decide))) (fun k hk => eN k (by omega) (by omega)) fun i hi => eA i (by omega)), h.en.cn h.iv.sh⟩
  · rw [gS_sM, gS_ne (by decide), eA 0 (by decide)]; exact h.en
  · rw [gS_sM, gS_ne (by decide)]; exact h.iv
  · rw [mSnp, gN_sNs]; rfl
  · rw [gS_sM, gS_sS, eA2]; exact h.en
  · rw [gS_sM, gS_sS]; exact h.iv
theorem j_rest (h : JR n σ μ) (h0 : ¬ gM σ 0 = 0) : gN μ 12 = bI true ∧ JR n (sM (sS σ 0 (gS σ 2)) 6 (nI 0)) (mRst μ) ∧ mCn (gA μ 2) 0 7 = ((gS σ 2).1 0).countP (0 < ·) ∧ gN (mRst μ) 4 = nI 0 := by
  rcases h.sv with ⟨a, -⟩ | ⟨a, b, c, d⟩
  · exact absurd a h0
  obtain ⟨o, z, a', b', c', d', e', f'⟩ := h.hs
  have eA : ∀ i, i ≠ 0 → gA (mRst μ) i = gA μ i := fun i hi => by rw [mRst, gA_sNe, gA_n hi, gA_sNe]
  have eA0 : gA (mRst μ) 0 = gA μ 2 := by rw [mRst, gA_sNe, gA_s]
  have eN : ∀ k, k ≠ 4 → k ≠ 5 → gN (mRst μ) k = gN μ k := fun k h4 h5 => by rw [mRst, gN_sNn h5, gN_sA, gN_sNn h4]
  have eM : ∀ j, j ≠ 6 → gM (sM (sS σ 0 (gS σ 2)) 6 (nI 0)) j = gM σ j := fun j hj => by rw [gM_sM, if_neg hj, gM_sS]
  refine ⟨b, JR.mk ?_ ?_ (HS.zero c' a' (by rw [gM_sM, if_pos rfl]) (eM 5 (by decide)) (by rw [mRst, gN_sNs])) (h.sv.same (eM 0 (by decide)) (gS_sM.trans (gS_ne (by decide))) (eN 12 (by decide) (by decide)) (eA 2 (by decide))) (h.t.same (fun j hj => eM j (by omega)) rfl rfl (gR_sM.trans (gR_n (by decide))) (fun k hk => eN k (by omega) (by omega)) fun i hi => eA i (by omega)), c.cn d.sh, by rw [mRst, gN_sNn (by decide), gN_sA, gN_sNs]⟩
  · rw [gS_sM, gS_sS, eA0]; exact c
  · rw [gS_sM, gS_sS]; exact d
theorem j_rest0 (h : JR n σ μ) (h0 : gM σ 0 = 0) : gN μ 12 = bI false := by
  rcases h.sv with ⟨-, b⟩ | ⟨a, -⟩
  · exact b
  · rw [a] at h0; exact absurd h0 (by decide)
/-- a text written -/
theorem j_tx (h : JR n σ μ) {t : List Nat} {c : Nat} {T : Nat → Nat} (hc : cOk c) (hT : LTo t T) (hl : t.length ≤ 1000) (hx : ∀ x ∈ t, x < 128) : JR n (sT σ t c) (tM μ T t) := by
  have eA : ∀ i, i ≠ 6 → gA (tM μ T t) i = gA μ i := fun i hi => by rw [tM, gA_sNe, gA_n hi]
  have eN : ∀ k, k ≠ 17 → gN (tM μ T t) k = gN μ k := fun k hk => by rw [tM, gN_sNn hk, gN_sA]
  refine JR.mk (by rw [eA 0 (by decide)]; exact h.en) h.iv (h.hs.same rfl rfl (fun _ _ _ => rfl) (eN 5 (by decide)) (eA 3 (by decide))) (h.sv.same rfl rfl (eN 12 (by decide)) (eA 2 (by decide))) ?_
  refine JT.mk ?_ ?_ ?_ ?_ ?_ ?_ hl hx hc ?_ ?_ h.t.fc h.t.fd h.t.pz (by rw [eA 9 (by decide)]; exact h.t.n9)
  · rw [eN 10 (by decide)]; exact h.t.er
  · rw [eN 11 (by decide)]; exact h.t.it
  · rw [eN 8 (by decide)]; exact h.t.rf
  · rw [eN 9 (by decide)]; exact h.t.dt
  · rw [tM, gN_sNs]; rfl
  · rw [tM, gA_sNe, gA_s]; exact hT
  · rw [eN 21 (by decide)]; exact h.t.fl
  · rw [eA 7 (by decide)]; exact h.t.ft
theorem str_let (L : List Nat) : mStT (gLet L) = gStr L := by
  induction L with
  | nil => rfl
  | cons s L ih =>
    rw [gLet, List.flatMap_cons, gStr, List.flatMap_cons]
    show ((ltr s (dD s / 64)) ++ gLet L).map ltC = _
    rw [List.map_append]
    show _ ++ mStT (gLet L) = _
    rw [ih]
    congr 1
    rw [ltr, wl, List.map_map]
    refine List.map_congr_left fun p _ => ?_
    show ltC (dD s % 64 / 2 ^ p % 2) = _
    rw [ltC]
theorem str_lt {L : List Nat} : ∀ x ∈ gStr L, x < 128 := fun x hx => by
  rw [gStr, List.mem_flatMap] at hx
  obtain ⟨s, -, hs⟩ := hx
  rw [wl, List.mem_map] at hs
  obtain ⟨p, -, rfl⟩ := hs
  split <;> decide
/-- what is typed in -/
theorem aAll_m {w : Nat} : ∀ (r : Nat) (L : List Nat) (m mm : Nat), apC w r m = some mm → L.length ≤ 60 → (∀ x ∈ L, 32 ≤ x ∧ x < 127) → (aAll w r L).length ≤ 60 ∧ ∀ x ∈ aAll w r L, 32 ≤ x ∧ x < 127
  | 0, L, m, mm, _, hl, hL => ⟨hl, hL⟩
  | r + 1, L, m, mm, h, hl, hL => by
    obtain ⟨h1, h2⟩ := apC_s h
    rw [aAll]
    by_cases g : w / 2 ^ (8 * r) % 256 = 0
    · rw [if_pos g]; exact aAll_m r L _ mm h2 hl hL
    · rw [if_neg g]
      have hc : 32 ≤ w / 2 ^ (8 * r) % 256 ∧ w / 2 ^ (8 * r) % 256 < 127 := by
        rw [byR, cdOk] at h1
        simp only [Bool.or_eq_true, Bool.and_eq_true, decide_eq_true_eq] at h1
        omega
      refine aAll_m r _ _ mm h2 ?_ fun x hx => ?_
      · rw [rAdd]
        split
        · rw [List.length_append]; show L.length + 1 ≤ 60; omega
        · exact hl
      · rcases mem_rAdd hx with e | e
        · exact hL x e
        · rw [e]; exact hc
theorem j_app (h : JR n σ μ) {x : Int32} (h0 : (qApp σ x).1 = 0) {T : Nat → Nat} (hT : LTo (aAll (wdN x) 4 (gR σ 11 0)) T) : JR n (sS σ 11 (uR (gS σ 11) 0 (aAll (wdN x) 4 (gR σ 11 0)))) (sN (sA (sN μ 4 (nI 0)) 7 T) 21 (nI (aAll (wdN x) 4 (gR σ 11 0)).length)) := by
  have hap : ∃ m, apC (wdN x) 4 0 = some m := by
    rw [qApp] at h0
    cases e : apC (wdN x) 4 0 with
    | none => rw [e] at h0; exact absurd (show (1 : Nat) = 0 from h0) (by decide)
    | some m => exact ⟨m, rfl⟩
  obtain ⟨m, hap⟩ := hap
  obtain ⟨q1, q2⟩ := aAll_m 4 (gR σ 11 0) 0 m hap h.t.fc h.t.fd
  generalize aAll (wdN x) 4 (gR σ 11 0) = A at hT q1 q2 ⊢
  have eA : ∀ i, i ≠ 7 → gA (sN (sA (sN μ 4 (nI 0)) 7 T) 21 (nI A.length)) i = gA μ i := fun i hi => by rw [gA_sNe, gA_n hi, gA_sNe]
  have eN : ∀ k, k ≠ 4 → k ≠ 21 → gN (sN (sA (sN μ 4 (nI 0)) 7 T) 21 (nI A.length)) k = gN μ k := fun k h4 h5 => by rw [gN_sNn h5, gN_sA, gN_sNn h4]
  have eS : ∀ a, a ≠ 11 → gS (sS σ 11 (uR (gS σ 11) 0 A)) a = gS σ a := fun a ha => gS_ne ha
  have eR : gR (sS σ 11 (uR (gS σ 11) 0 A)) 11 0 = A := by rw [gR_s, uR_b]
  obtain ⟨p, hp⟩ := h.t.pz
  refine JR.mk (by rw [eS 0 (by decide), eA 0 (by decide)]; exact h.en) (by rw [eS 0 (by decide)]; exact h.iv) (h.hs.same rfl rfl (fun a _ h11 => eS a (by omega)) (eN 5 (by decide) (by decide)) (eA 3 (by decide))) (h.sv.same rfl (eS 2 (by decide)) (eN 12 (by decide) (by decide)) (eA 2 (by decide))) ?_
  refine JT.mk ?_ ?_ ?_ ?_ ?_ ?_ h.t.tn h.t.tx h.t.ck ?_ ?_ ?_ ?_ ⟨p, hp⟩ (by rw [eA 9 (by decide)]; exact h.t.n9)
  · rw [eN 10 (by decide) (by decide)]; exact h.t.er
  · rw [eN 11 (by decide) (by decide)]; exact h.t.it
  · rw [eN 8 (by decide) (by decide)]; exact h.t.rf
  · rw [eN 9 (by decide) (by decide)]; exact h.t.dt
  · rw [eN 17 (by decide) (by decide)]; exact h.t.tl
  · rw [eA 6 (by decide)]; exact h.t.tt
  · rw [gN_sNs, eR]
  · rw [gA_sNe, gA_s, eR]; exact hT
  · rw [eR]; exact q1
  · rw [eR]; exact q2
end W98
