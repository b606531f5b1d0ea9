/-! THE LAW: the two cases with floating point -/
section W99e
theorem n64_of {r : UInt64} (h4 : FP.Core.dIsNaN r = false) : vf_n64 r := by
  refine UInt64.le_iff_toNat_le.mpr ?_
  rw [FP.Core.mask_toNat]
  refine Nat.le_of_not_lt fun h5 => ?_
  have h6 : FP.Core.val64 r = .nan := (FP.Core.decode_nan (f := FP.Core.b64) r.toNat).mpr (by rw [FP.Core.mag_toNat64, FP.Core.infBits_b64]; exact h5)
  rw [(FP.Core.dIsNaN_iff r).mpr h6] at h4
  cases h4
theorem q32 {x y : Int32} (hy : ¬ y = 0) : FP.Core.fIsNaN (FP.fdiv (FP.i2f x) (FP.i2f y)) = false := by
  have hx : FP.Core.fIsNaN (FP.Core.i2f x) = false := by
    cases e : FP.Core.fIsNaN (FP.Core.i2f x) with
    | false => rfl
    | true =>
      obtain ⟨s, c, q, h1⟩ := FP.Core.i2f_fin x
      rw [FP.Core.fIsNaN_iff, h1] at e
      cases e
  exact FP.Core.fdiv_out hx (FP.Core.i2f_fin y) fun z => FP.Core.i2f_ne_zero hy ((FP.Core.zero_bits232 _).mp z)
theorem f2d_ok {a : UInt32} (h : FP.Core.fIsNaN a = false) : FP.Core.dIsNaN (FP.f2d a) = false := by
  have e : FP.f2d a = FP.Core.f2d a := if_neg (by rw [h]; exact Bool.false_ne_true)
  rw [e]; exact (FP.Core.f2d_nan a).trans h
theorem d0_self {r : UInt64} (h : FP.Core.dIsNaN r = false) : Op.cmpValue (FP.dcmp r r) .l = 0 := by
  show Op.cmpValue (FP.Core.dcmp r r) .l = 0
  rw [FP.Core.dcmp_self (fun e => by rw [(FP.Core.dIsNaN_iff r).mpr e] at h; cases h)]
  rfl
def dCell (G : En) (ad : Nat) (y : UInt64) (M : Me) : Prop := ∃ g, M (12, 1, 0) = some (ad, .inl (G.2.2.1 2, 1, .inr (.inr (.inr (.inl (vf_upd g (nI 0).toNatClampNeg y))))))
theorem dCell.mod {G : En} {Λ : Ob → Nat} {ad : Nat} {y : UInt64} {M M2 : Me} {μ2 : Mg} (h : dCell G ad y M) (hM : RM G Λ M μ2 M2) : dCell G ad y M2 := by
  obtain ⟨g, hg⟩ := h
  exact ⟨g, (hM.2.2 _ (by decide) (by decide)).trans hg⟩
theorem oD_cell {G : En} {ad : Nat} {g : Nat → UInt64} {y : UInt64} {M : Me} : dCell G ad y (oD G ad g y M) := ⟨g, if_pos rfl⟩
theorem outd {g : Nat → UInt64} {y : UInt64} : vf_upd g (nI 0).toNatClampNeg y (nI 0).toNatClampNeg = y := if_pos rfl
theorem HX.d0 {G : En} {Λ : Ob → Nat} {ao ad : Nat} {σ : Sg} {μ : Mg} {M : Me} (h : HX G Λ ao ad σ μ M) : ∃ g, M (12, 1, 0) = some (ad, .inl (G.2.2.1 2, 1, .inr (.inr (.inr (.inl g))))) := h.2.2.2.1
theorem lc_28 {G : En} {tb : List ExceptionTableEntry × String} {Λ : Ob → Nat} {ao ad k0 n0 K N n i : Nat} {Z : List Frame → Array Value → State → State → Prop} {σ : Sg} {μ : Mg} {M : Me} {d : Nat} (h : HX G Λ ao ad σ μ M) (hj : JR n σ μ) (hn : n + 5000 ≤ 2 ^ 24) (hn10 : 10 ≤ n) (hi : i + 4 ≤ scL G) (hl : scL G ≤ 2048) (kk : ∀ σ2 μ2 M2, HX G Λ ao ad σ2 μ2 M2 → JR (n + 5000) σ2 μ2 → AW G (XL tb k0 n0 Z) (d + 15) K N 2111 [some (.ref (scA G)), some (.ref (Λ (0, 0, 0))), some (.ref (Λ (10, 0, 0))), some (.ref ao), some (.ref ad), some (.int (nI i)), none, none, none] [] M2) : AW G (XL tb k0 n0 Z) (d + 15) (K + 8) (N + 2400) 1691 [some (.ref (scA G)), some (.ref (Λ (0, 0, 0))), some (.ref (Λ (10, 0, 0))), some (.ref ao), some (.ref ad), some (.int (nI i)), none, none, none] [] M := by
  have ec : mCn (gA μ 0) 0 7 = (gR σ 0 0).countP (0 < ·) := hj.en.cn hj.iv.sh
  have es : mSm (gA μ 0) 0 7 = gLens (gR σ 0 0) 7 := hj.en.lens
  have tail : ∀ (k : Nat) (y v : UInt64) (σ2 : Sg) (M1 : Me) (μ2 : Mg) (M2 : Me), k < 4 → HX G Λ ao ad σ2 μ M1 → (k = 0 → dCell G ad (y) M1) → RM G Λ M1 μ2 M2 → JR (n + 5000) σ2 μ2 ∧ gN μ2 4 = nI k ∧ (k = 0 → y = v) → AW G (XL tb k0 n0 Z) (d + 15) (K + 7) (N + 2394) 1703 [some (.ref (scA G)), some (.ref (Λ (0, 0, 0))), some (.ref (Λ (10, 0, 0))), some (.ref ao), some (.ref ad), some (.int (nI i)), some (.int (nI k)), none, none] [.double v] M2 := by
    intro k y v σ2 M1 μ2 M2 hk h1 ho hM2 hr
    have h2 := h1.mod hM2
    refine r_dstore (q := 1705) dL_law_1703 (Nat.le_of_ble_eq_true rfl) rfl rfl ?_
    refine r_aload_n (q := 1706) dL_law_1705 rfl rfl ?_
    refine r_cV (q := 1709) (As := []) wc_L_131 rfl im_X9_thrown se_X9_thrown h2.m rfl rfl (Nat.le_of_ble_eq_true rfl) (Nat.le_of_eq (Nat.zero_add _)) (Nat.le_of_eq (Nat.zero_add _)) dL_law_1706 rfl rfl (s_X9_thrown h2.2.1 ?_)
    refine r_iload (q := 1711) dL_law_1709 rfl rfl ?_
    refine r_icmp_eq (q := 1714) (t := 1716) dL_law_1711 (by decide) rfl (fun _ => ?_) (fun c => absurd hr.2.1 c)
    refine r_iload (q := 1718) dL_law_1716 rfl rfl ?_
    have fin : ∀ lv9, Fg [some (.ref (scA G)), some (.ref (Λ (0, 0, 0))), some (.ref (Λ (10, 0, 0))), some (.ref ao), some (.ref ad), some (.int (nI i)), none, none, none] lv9 → AW G (XL tb k0 n0 Z) (d + 15) (K + 7) (N + 2394) 1753 lv9 [] M2 := fun lv9 hf9 => by
      refine r_goto (t := 2111) dL_law_1753 (by decide) ?_
      exact AW.forget (lv := [some (.ref (scA G)), some (.ref (Λ (0, 0, 0))), some (.ref (Λ (10, 0, 0))), some (.ref ao), some (.ref ad), some (.int (nI i)), none, none, none]) hf9 (AW.less (by omega) (by omega) (kk _ _ _ h2 hr.1))
    refine r_if_ne (q := 1721) (t := 1753) dL_law_1718 (by decide) rfl (fun c => ?_) (fun c => ?_)
    · exact fin _ ⟨rfl, rfl, rfl, rfl, rfl, rfl, trivial⟩
    · have k0 := nI_k0 k hk c
      obtain ⟨g, hg⟩ := (ho k0).mod hM2
      obtain rfl := hr.2.2 k0
      refine r_aload (q := 1723) dL_law_1721 rfl rfl ?_
      refine r_iconst (v := nI 0) (q := 1724) dL_law_1723 (by decide) rfl ?_
      refine r_dald (o := (12, 1, 0)) (q := 1725) hg vp_01 dL_law_1724 rfl ?_
      refine r_dload (q := 1727) dL_law_1725 rfl rfl ?_
      refine r_dcmp (q := 1728) dL_law_1727 rfl ?_
      rw [outd]
      refine r_if_eq (q := 1731) (t := 1753) dL_law_1728 (by decide) rfl (fun _ => ?_) (fun c1 => ?_)
      · exact fin _ ⟨rfl, rfl, rfl, rfl, rfl, rfl, trivial⟩
      · skip
        refine r_aload (q := 1733) dL_law_1731 rfl rfl ?_
        refine r_iconst (v := nI 0) (q := 1734) dL_law_1733 (by decide) rfl ?_
        refine r_dald (o := (12, 1, 0)) (q := 1735) hg vp_01 dL_law_1734 rfl ?_
        refine r_aload (q := 1737) dL_law_1735 rfl rfl ?_
        refine r_iconst (v := nI 0) (q := 1738) dL_law_1737 (by decide) rfl ?_
        refine r_dald (o := (12, 1, 0)) (q := 1739) hg vp_01 dL_law_1738 rfl ?_
        refine r_dcmp (q := 1740) dL_law_1739 rfl ?_
        rw [outd]
        refine r_if_eq (q := 1743) (t := 1751) dL_law_1740 (by decide) rfl (fun c2 => absurd c2 c1) (fun _ => ?_)
        refine r_dload (q := 1745) dL_law_1743 rfl rfl ?_
        refine r_dload (q := 1747) dL_law_1745 rfl rfl ?_
        refine r_dcmp (q := 1748) dL_law_1747 rfl ?_
        refine r_if_ne (q := 1751) (t := 1753) dL_law_1748 (by decide) rfl (fun _ => ?_) (fun c3 => absurd c3 c1)
        exact fin _ ⟨rfl, rfl, rfl, rfl, rfl, rfl, trivial⟩
  have rest : ∀ (k : Nat) (y : UInt64) (σ2 : Sg) (M1 : Me), k < 4 → HX G Λ ao ad σ2 μ M1 → (k = 0 → dCell G ad (y) M1) → (∀ v, (¬ mCn (gA μ 0) 0 7 = 0 → v = FP.ddiv (FP.i2d (nI (mSm (gA μ 0) 0 7))) (FP.i2d (nI (mCn (gA μ 0) 0 7)))) → JR (n + 5000) σ2 (sN μ 4 (nI (if mCn (gA μ 0) 0 7 = 0 then 1 else 0))) ∧ gN (sN μ 4 (nI (if mCn (gA μ 0) 0 7 = 0 then 1 else 0))) 4 = nI k ∧ (k = 0 → y = v)) → AW G (XL tb k0 n0 Z) (d + 15) (K + 7) (N + 2394) 1697 [some (.ref (scA G)), some (.ref (Λ (0, 0, 0))), some (.ref (Λ (10, 0, 0))), some (.ref ao), some (.ref ad), some (.int (nI i)), none, none, none] [.int (nI k)] M1 := by
    intro k y σ2 M1 hk h1 ho hr
    refine r_istore (q := 1699) dL_law_1697 (Nat.le_of_ble_eq_true rfl) rfl rfl ?_
    refine r_aload_n (q := 1700) dL_law_1699 rfl rfl ?_
    refine r_cV (q := 1703) (As := []) wc_L_226 rfl im_X9_meanLength se_X9_meanLength h1.m rfl rfl (Nat.le_of_ble_eq_true rfl) (Nat.le_of_eq (Nat.zero_add _)) (Nat.le_of_eq (Nat.zero_add _)) dL_law_1700 rfl rfl (s_X9_meanLength h1.2.1 fun M2 v hM2 hv => ?_)
    exact tail k y v σ2 M1 _ M2 hk h1 ho hM2 (hr v hv)
  refine r_aload_n (q := 1692) dL_law_1691 rfl rfl ?_
  refine r_aload (q := 1694) dL_law_1692 rfl rfl ?_
  have bk := bk1 K
  have bn := bn6 N
  refine r_invSH (X := XL tb k0 n0 Z) (q := 1697) (k' := 1) (n' := 6) (k2 := K + 7) (n2 := N + 2394) (As := [.ref _, .ref _]) wh_meanLength st_L_meanLength rfl (Nat.le_of_ble_eq_true rfl) bk bn dL_law_1694 rfl rfl (h_L_meanLength h.x fun Q1 QX1 hq hx => ?_)
  refine s_X8_meanLength h.1 (fun h0 => ?_) (fun h0 => ?_)
  · obtain ⟨g, hg⟩ := h.d0
    exact hq _ M ⟨g, hg, rest 0 _ σ _ (by decide) h.outD (fun _ => oD_cell) fun v hv => ⟨hj.q4.up (by omega), by rw [gN_sNs, if_neg (by rw [ec]; exact h0)], fun _ => by rw [hv (by rw [ec]; exact h0), ec, es]⟩⟩
  · exact hx _ M 1 rfl (rest 1 0 σ M (by decide) h (fun e0 => absurd e0 (by decide)) fun v hv => ⟨hj.q4.up (by omega), by rw [gN_sNs, if_pos (by rw [ec]; exact h0)], fun e0 => absurd e0 (by decide)⟩)
theorem lc_29 {G : En} {tb : List ExceptionTableEntry × String} {Λ : Ob → Nat} {ao ad k0 n0 K N n i : Nat} {Z : List Frame → Array Value → State → State → Prop} {σ : Sg} {μ : Mg} {M : Me} {d : Nat} (h : HX G Λ ao ad σ μ M) (hj : JR n σ μ) (hn : n + 5000 ≤ 2 ^ 24) (hn10 : 10 ≤ n) (hi : i + 4 ≤ scL G) (hl : scL G ≤ 2048) (kk : ∀ σ2 μ2 M2, HX G Λ ao ad σ2 μ2 M2 → JR (n + 5000) σ2 μ2 → AW G (XL tb k0 n0 Z) (d + 15) K N 2111 [some (.ref (scA G)), some (.ref (Λ (0, 0, 0))), some (.ref (Λ (10, 0, 0))), some (.ref ao), some (.ref ad), some (.int (nI i)), none, none, none] [] M2) : AW G (XL tb k0 n0 Z) (d + 15) (K + 8) (N + 2400) 1756 [some (.ref (scA G)), some (.ref (Λ (0, 0, 0))), some (.ref (Λ (10, 0, 0))), some (.ref ao), some (.ref ad), some (.int (nI i)), none, none, none] [] M := by
  have e4 : gA μ 0 4 = gI σ 0 1 := hj.en.c4
  have e5 : gA μ 0 5 = (gR σ 0 6).sum := hj.en.c5
  have h31 : gA μ 0 4 < 2 ^ 31 := by
    rw [e4]
    have := hj.iv.sh.nu 1 (by decide)
    exact Nat.lt_of_le_of_lt this (by omega)
  have tail : ∀ (k : Nat) (y v : UInt32) (σ2 : Sg) (M1 : Me) (μ2 : Mg) (M2 : Me), k < 4 → HX G Λ ao ad σ2 μ M1 → (k = 0 → dCell G ad (FP.f2d y) M1) → RM G Λ M1 μ2 M2 → JR (n + 5000) σ2 μ2 ∧ gN μ2 4 = nI k ∧ (k = 0 → y = v ∧ FP.Core.dIsNaN (FP.f2d v) = false) → AW G (XL tb k0 n0 Z) (d + 15) (K + 7) (N + 2394) 1768 [some (.ref (scA G)), some (.ref (Λ (0, 0, 0))), some (.ref (Λ (10, 0, 0))), some (.ref ao), some (.ref ad), some (.int (nI i)), some (.int (nI k)), none, none] [.float v] M2 := by
    intro k y v σ2 M1 μ2 M2 hk h1 ho hM2 hr
    have h2 := h1.mod hM2
    refine r_fstore (q := 1770) dL_law_1768 (Nat.le_of_ble_eq_true rfl) rfl rfl ?_
    refine r_aload_n (q := 1771) dL_law_1770 rfl rfl ?_
    refine r_cV (q := 1774) (As := []) wc_L_131 rfl im_X9_thrown se_X9_thrown h2.m rfl rfl (Nat.le_of_ble_eq_true rfl) (Nat.le_of_eq (Nat.zero_add _)) (Nat.le_of_eq (Nat.zero_add _)) dL_law_1771 rfl rfl (s_X9_thrown h2.2.1 ?_)
    refine r_iload (q := 1776) dL_law_1774 rfl rfl ?_
    refine r_icmp_eq (q := 1779) (t := 1781) dL_law_1776 (by decide) rfl (fun _ => ?_) (fun c => absurd hr.2.1 c)
    refine r_iload (q := 1783) dL_law_1781 rfl rfl ?_
    have fin : ∀ lv9, Fg [some (.ref (scA G)), some (.ref (Λ (0, 0, 0))), some (.ref (Λ (10, 0, 0))), some (.ref ao), some (.ref ad), some (.int (nI i)), none, none, none] lv9 → AW G (XL tb k0 n0 Z) (d + 15) (K + 7) (N + 2394) 1819 lv9 [] M2 := fun lv9 hf9 => by
      refine r_goto (t := 2111) dL_law_1819 (by decide) ?_
      exact AW.forget (lv := [some (.ref (scA G)), some (.ref (Λ (0, 0, 0))), some (.ref (Λ (10, 0, 0))), some (.ref ao), some (.ref ad), some (.int (nI i)), none, none, none]) hf9 (AW.less (by omega) (by omega) (kk _ _ _ h2 hr.1))
    refine r_if_ne (q := 1786) (t := 1819) dL_law_1783 (by decide) rfl (fun c => ?_) (fun c => ?_)
    · exact fin _ ⟨rfl, rfl, rfl, rfl, rfl, rfl, trivial⟩
    · have k0 := nI_k0 k hk c
      obtain ⟨g, hg⟩ := (ho k0).mod hM2
      obtain ⟨rfl, hN⟩ := hr.2.2 k0
      refine r_aload (q := 1788) dL_law_1786 rfl rfl ?_
      refine r_iconst (v := nI 0) (q := 1789) dL_law_1788 (by decide) rfl ?_
      refine r_dald (o := (12, 1, 0)) (q := 1790) hg vp_01 dL_law_1789 rfl ?_
      refine r_fload (q := 1792) dL_law_1790 rfl rfl ?_
      refine r_f2d (q := 1793) dL_law_1792 (n64_of hN) rfl ?_
      refine r_dcmp (q := 1794) dL_law_1793 rfl ?_
      rw [outd]
      rw [d0_self hN]
      refine r_if_eq (q := 1797) (t := 1819) dL_law_1794 (by decide) rfl (fun _ => ?_) (fun c => absurd rfl c)
      exact fin _ ⟨rfl, rfl, rfl, rfl, rfl, rfl, trivial⟩
  have rest : ∀ (k : Nat) (y : UInt32) (σ2 : Sg) (M1 : Me), k < 4 → HX G Λ ao ad σ2 μ M1 → (k = 0 → dCell G ad (FP.f2d y) M1) → (∀ v, (¬ gA μ 0 4 = 0 → v = FP.fdiv (FP.i2f (nI (gA μ 0 5))) (FP.i2f (nI (gA μ 0 4)))) → JR (n + 5000) σ2 (sN μ 4 (nI (if gA μ 0 4 = 0 then 1 else 0))) ∧ gN (sN μ 4 (nI (if gA μ 0 4 = 0 then 1 else 0))) 4 = nI k ∧ (k = 0 → y = v ∧ FP.Core.dIsNaN (FP.f2d v) = false)) → AW G (XL tb k0 n0 Z) (d + 15) (K + 7) (N + 2394) 1762 [some (.ref (scA G)), some (.ref (Λ (0, 0, 0))), some (.ref (Λ (10, 0, 0))), some (.ref ao), some (.ref ad), some (.int (nI i)), none, none, none] [.int (nI k)] M1 := by
    intro k y σ2 M1 hk h1 ho hr
    refine r_istore (q := 1764) dL_law_1762 (Nat.le_of_ble_eq_true rfl) rfl rfl ?_
    refine r_aload_n (q := 1765) dL_law_1764 rfl rfl ?_
    refine r_cV (q := 1768) (As := []) wc_L_229 rfl im_X9_lieShare se_X9_lieShare h1.m rfl rfl (Nat.le_of_ble_eq_true rfl) (Nat.le_of_eq (Nat.zero_add _)) (Nat.le_of_eq (Nat.zero_add _)) dL_law_1765 rfl rfl (s_X9_lieShare h1.2.1 h31 fun M2 v hM2 hv => ?_)
    exact tail k y v σ2 M1 _ M2 hk h1 ho hM2 (hr v hv)
  refine r_aload_n (q := 1757) dL_law_1756 rfl rfl ?_
  refine r_aload (q := 1759) dL_law_1757 rfl rfl ?_
  have bk := bk1 K
  have bn := bn6 N
  refine r_invSH (X := XL tb k0 n0 Z) (q := 1762) (k' := 1) (n' := 6) (k2 := K + 7) (n2 := N + 2394) (As := [.ref _, .ref _]) wh_lieShare st_L_lieShare rfl (Nat.le_of_ble_eq_true rfl) bk bn dL_law_1759 rfl rfl (h_L_lieShare h.x fun Q1 QX1 hq hx => ?_)
  refine s_X8_lieShare h.1 (by rw [← e4]; exact h31) (fun h0 => ?_) (fun h0 => ?_)
  · obtain ⟨g, hg⟩ := h.d0
    have hN := f2d_ok (q32 (x := nI (gR σ 0 6).sum) (y := nI (gI σ 0 1)) (fun e => h0 ((nI_eq (b := 0) (by rw [← e4]; exact h31) (by decide)).mp e)))
    refine hq _ M ⟨n64_of hN, g, hg, rest 0 _ σ _ (by decide) h.outD (fun _ => oD_cell) fun v hv => ?_⟩
    have ev := hv (by rw [e4]; exact h0)
    rw [e4, e5] at ev
    exact ⟨hj.q4.up (by omega), by rw [gN_sNs, if_neg (by rw [e4]; exact h0)], fun _ => ⟨ev.symm, by rw [ev]; exact hN⟩⟩
  · exact hx _ M 1 rfl (rest 1 0 σ M (by decide) h (fun e0 => absurd e0 (by decide)) fun v hv => ⟨hj.q4.up (by omega), by rw [gN_sNs, if_pos (by rw [e4]; exact h0)], fun e0 => absurd e0 (by decide)⟩)
end W99e
