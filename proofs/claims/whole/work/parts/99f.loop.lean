/-! THE LAW: its loop -/
section W99f
variable {G : En} {tb : List ExceptionTableEntry × String} {Λ : Ob → Nat} {ao ad k0 n0 K N : Nat} {Z : List Frame → Array Value → State → State → Prop} {d : Nat}
def lvl (G : En) (Λ : Ob → Nat) (ao ad i : Nat) : List (Option Value) := [some (.ref (scA G)), some (.ref (Λ (0, 0, 0))), some (.ref (Λ (10, 0, 0))), some (.ref ao), some (.ref ad), some (.int (nI i)), none, none, none]
theorem nb_ {n i : Nat} (h : n ≤ 10 + 1250 * i) : n + 5000 ≤ 10 + 1250 * (i + 4) := by
  rw [Nat.mul_add, ← Nat.add_assoc]
  exact Nat.add_le_add h (Nat.le_refl 5000)
theorem and63 (x : Int32) : ∃ c : Nat, c < 64 ∧ x &&& nI 63 = nI c := by
  refine ⟨x.toUInt32.toNat % 64, Nat.mod_lt _ (by decide), ?_⟩
  have h := n_and (w := x.toUInt32.toNat) x.toUInt32.toNat_lt 63 6 (by decide)
  have e : nI x.toUInt32.toNat = x := nI_wd x
  rw [e] at h
  exact h
theorem law_loop (hl : scL G ≤ 2048) (kend : ∀ σ μ M i, HX G Λ ao ad σ μ M → AW G (XL tb k0 n0 Z) (d + 15) K N 2117 (lvl G Λ ao ad i) [] M) : ∀ (m i n : Nat) (σ : Sg) (μ : Mg) (M : Me), m = scL G - i → i ≤ scL G → HX G Λ ao ad σ μ M → JR n σ μ → 10 ≤ n → n ≤ 10 + 1250 * i → AW G (XL tb k0 n0 Z) (d + 15) (K + 2 * (scL G - i)) (N + 600 * (scL G - i)) 28 (lvl G Λ ao ad i) [] M := by
  intro m
  induction m using Nat.strongRecOn with
  | _ m ih =>
  intro i n σ μ M hm hi h hj hn10 hni
  subst hm
  refine r_iload (q := 30) dL_law_28 rfl rfl ?_
  refine r_aload_n (q := 31) dL_law_30 rfl rfl ?_
  refine r_tlen (sc_T (G := G)) (v := nI (scL G)) rfl dL_law_31 rfl ?_
  refine r_iconst (v := nI 4) (q := 33) dL_law_32 (by decide) rfl ?_
  refine r_isub (q := 34) dL_law_33 rfl ?_
  have e4 : nI (scL G) - nI 4 < nI i ↔ scL G < i + 4 := by
    rw [Int32.lt_iff_toInt_lt, pk_sub_toInt (by omega) (by decide), nI_toInt (by omega)]
    omega
  refine r_icmp_gt (q := 37) (t := 2117) dL_law_34 (by decide) rfl (fun c => ?_) (fun c => ?_)
  · exact AW.less (by omega) (by omega) (kend σ μ M i h)
  have hi4 : i + 4 ≤ scL G := Decidable.byContradiction fun g => c (e4.mpr (by omega))
  have hn : n + 5000 ≤ 2 ^ 24 := by omega
  refine AW.less (k' := (K + 2 * (scL G - (i + 4))) + 8) (n' := (N + 600 * (scL G - (i + 4))) + 2400) (by omega) (by omega) ?_
  have kk : ∀ σ2 μ2 M2, HX G Λ ao ad σ2 μ2 M2 → JR (n + 5000) σ2 μ2 → AW G (XL tb k0 n0 Z) (d + 15) (K + 2 * (scL G - (i + 4))) (N + 600 * (scL G - (i + 4))) 2111 (lvl G Λ ao ad i) [] M2 := fun σ2 μ2 M2 h2 hj2 => by
    refine r_iinc (v := nI (i + 4)) (q := 2114) dL_law_2111 rfl (n_add i 4) (Nat.le_of_ble_eq_true rfl) rfl rfl ?_
    refine r_goto (t := 28) dL_law_2114 (by decide) ?_
    exact ih (scL G - (i + 4)) (by omega) (i + 4) (n + 5000) σ2 μ2 M2 rfl hi4 h2 hj2 (Nat.le_trans hn10 (Nat.le_add_right _ _)) (nb_ hni)
  refine r_aload_n (q := 38) dL_law_37 rfl rfl ?_
  refine r_iload (q := 40) dL_law_38 rfl rfl ?_
  refine r_sc0 (q := 41) (by omega) hl dL_law_40 rfl ?_
  refine r_bipush (v := nI 63) (q := 43) dL_law_41 (by decide) rfl ?_
  refine r_iand (q := 44) dL_law_43 rfl ?_
  obtain ⟨c, hc64, ec⟩ := and63 (scF G i)
  rw [ec]
  by_cases g : c < 37
  · have sw : ∀ (t : Nat) (off : Int), (#[164, 177, 257, 313, 381, 461, 529, 597, 665, 678, 762, 818, 886, 942, 1010, 1066, 1079, 1092, 1160, 1201, 1257, 1313, 1381, 1394, 1450, 1463, 1519, 1591, 1647, 1712, 1778, 1834, 1878, 1922, 1966, 2010, 2023] : Array Int)[c]? = some off → (44 : Int) + off = (t : Int) → AW G (XL tb k0 n0 Z) (d + 15) ((K + 2 * (scL G - (i + 4))) + 8) ((N + 600 * (scL G - (i + 4))) + 2400) t (lvl G Λ ao ad i) [] M → AW G (XL tb k0 n0 Z) (d + 15) ((K + 2 * (scL G - (i + 4))) + 8) ((N + 600 * (scL G - (i + 4))) + 2400) 44 (lvl G Λ ao ad i) [.int (nI c)] M := fun t off ho ht k1 => by
      have ei := nI_toInt (n := c) (by omega)
      refine r_tableIn dL_law_44 (by rw [ei]; omega) (by rw [ei]; omega) (off := off) ?_ ht k1
      rw [ei]
      rw [show ((c : Int) - 0).toNat = c by omega]
      exact ho
    have hc : c = 0 ∨ c = 1 ∨ c = 2 ∨ c = 3 ∨ c = 4 ∨ c = 5 ∨ c = 6 ∨ c = 7 ∨ c = 8 ∨ c = 9 ∨ c = 10 ∨ c = 11 ∨ c = 12 ∨ c = 13 ∨ c = 14 ∨ c = 15 ∨ c = 16 ∨ c = 17 ∨ c = 18 ∨ c = 19 ∨ c = 20 ∨ c = 21 ∨ c = 22 ∨ c = 23 ∨ c = 24 ∨ c = 25 ∨ c = 26 ∨ c = 27 ∨ c = 28 ∨ c = 29 ∨ c = 30 ∨ c = 31 ∨ c = 32 ∨ c = 33 ∨ c = 34 ∨ c = 35 ∨ c = 36 := by omega
    rcases hc with rfl | rfl | rfl | rfl | rfl | rfl | rfl | rfl | rfl | rfl | rfl | rfl | rfl | rfl | rfl | rfl | rfl | rfl | rfl | rfl | rfl | rfl | rfl | rfl | rfl | rfl | rfl | rfl | rfl | rfl | rfl | rfl | rfl | rfl | rfl | rfl | rfl
    · exact sw 208 164 rfl (by decide) (lc_0 h hj hn hn10 hi4 hl kk)
    · exact sw 221 177 rfl (by decide) (lc_1 h hj hn hn10 hi4 hl kk)
    · exact sw 301 257 rfl (by decide) (lc_2 h hj hn hn10 hi4 hl kk)
    · exact sw 357 313 rfl (by decide) (lc_3 h hj hn hn10 hi4 hl kk)
    · exact sw 425 381 rfl (by decide) (lc_4 h hj hn hn10 hi4 hl kk)
    · exact sw 505 461 rfl (by decide) (lc_5 h hj hn hn10 hi4 hl kk)
    · exact sw 573 529 rfl (by decide) (lc_6 h hj hn hn10 hi4 hl kk)
    · exact sw 641 597 rfl (by decide) (lc_7 h hj hn hn10 hi4 hl kk)
    · exact sw 709 665 rfl (by decide) (lc_8 h hj hn hn10 hi4 hl kk)
    · exact sw 722 678 rfl (by decide) (lc_9 h hj hn hn10 hi4 hl kk)
    · exact sw 806 762 rfl (by decide) (lc_10 h hj hn hn10 hi4 hl kk)
    · exact sw 862 818 rfl (by decide) (lc_11 h hj hn hn10 hi4 hl kk)
    · exact sw 930 886 rfl (by decide) (lc_12 h hj hn hn10 hi4 hl kk)
    · exact sw 986 942 rfl (by decide) (lc_13 h hj hn hn10 hi4 hl kk)
    · exact sw 1054 1010 rfl (by decide) (lc_14 h hj hn hn10 hi4 hl kk)
    · exact sw 1110 1066 rfl (by decide) (lc_15 h hj hn hn10 hi4 hl kk)
    · exact sw 1123 1079 rfl (by decide) (lc_16 h hj hn hn10 hi4 hl kk)
    · exact sw 1136 1092 rfl (by decide) (lc_17 h hj hn hn10 hi4 hl kk)
    · exact sw 1204 1160 rfl (by decide) (lc_18 h hj hn hn10 hi4 hl kk)
    · exact sw 1245 1201 rfl (by decide) (lc_19 h hj hn hn10 hi4 hl kk)
    · exact sw 1301 1257 rfl (by decide) (lc_20 h hj hn hn10 hi4 hl kk)
    · exact sw 1357 1313 rfl (by decide) (lc_21 h hj hn hn10 hi4 hl kk)
    · exact sw 1425 1381 rfl (by decide) (lc_22 h hj hn hn10 hi4 hl kk)
    · exact sw 1438 1394 rfl (by decide) (lc_23 h hj hn hn10 hi4 hl kk)
    · exact sw 1494 1450 rfl (by decide) (lc_24 h hj hn hn10 hi4 hl kk)
    · exact sw 1507 1463 rfl (by decide) (lc_25 h hj hn hn10 hi4 hl kk)
    · exact sw 1563 1519 rfl (by decide) (lc_26 h hj hn hn10 hi4 hl kk)
    · exact sw 1635 1591 rfl (by decide) (lc_27 h hj hn hn10 hi4 hl kk)
    · exact sw 1691 1647 rfl (by decide) (lc_28 h hj hn hn10 hi4 hl kk)
    · exact sw 1756 1712 rfl (by decide) (lc_29 h hj hn hn10 hi4 hl kk)
    · exact sw 1822 1778 rfl (by decide) (lc_30 h hj hn hn10 hi4 hl kk)
    · exact sw 1878 1834 rfl (by decide) (lc_31 h hj hn hn10 hi4 hl kk)
    · exact sw 1922 1878 rfl (by decide) (lc_32 h hj hn hn10 hi4 hl kk)
    · exact sw 1966 1922 rfl (by decide) (lc_33 h hj hn hn10 hi4 hl kk)
    · exact sw 2010 1966 rfl (by decide) (lc_34 h hj hn hn10 hi4 hl kk)
    · exact sw 2054 2010 rfl (by decide) (lc_35 h hj hn hn10 hi4 hl kk)
    · exact sw 2067 2023 rfl (by decide) (lc_36 h hj hn hn10 hi4 hl kk)
  · have ei := nI_toInt (n := c) (by omega)
    refine r_tableOut (t := 2111) dL_law_44 (Or.inr (by rw [ei]; omega)) (by decide) ?_
    exact AW.less (by omega) (by omega) (kk σ μ M h (hj.up (by omega)))
end W99f
