/-! THE MODEL: signs that begin others, free words, readings of hours -/
section W58
variable {G : En} {Λ : Ob → Nat} {ρ : Me} {μ : Mg} {M : Me} {d : Nat} {Q : Option Value → Me → Prop} {QX : String → Me → Prop} {S : St} {F : Nat → Nat} {z : Nat}
def mStr (n b n2 b2 : Nat) : Bool := decide (n ≤ n2) && decide (b = b2 % 2 ^ n)
def mSth (F : Nat → Nat) (i j : Nat) : Bool := decide (0 < lF F i 0) && mStr (lF F i 0) (lF F i 1) (lF F j 0) (lF F j 1)
theorem pw_mask : ∀ m : Nat, m ≤ 6 → (nI (2 ^ m - 1)).toBitVec.toNat = 2 ^ m - 1 := by decide
theorem mStr_t {n b n2 b2 : Nat} (h1 : n ≤ n2) (h2 : b = b2 % 2 ^ n) : mStr n b n2 b2 = true := by rw [mStr, decide_eq_true h1, decide_eq_true h2]; rfl
theorem mStr_f {n b n2 b2 : Nat} (h : ¬ (n ≤ n2 ∧ b = b2 % 2 ^ n)) : mStr n b n2 b2 = false := andd h
theorem s_X9_starts {n b n2 b2 : Nat} (hn : n ≤ 6) (hn2 : n2 ≤ 6) (hb : b < 64) (hb2 : b2 < 64) (hQ : Q (some (.int (bI (mStr n b n2 b2)))) M)  : MS G yX9_starts cX9_starts 4 (some .boolean) d 0 0 [.int (nI n), .int (nI b), .int (nI n2), .int (nI b2)] M Q QX := by
  refine MS.of (by decide) (by simp [Value.category]) (Nat.le_of_ble_eq_true rfl) ?_
  show AW _ (_, _, _, _, _, _, _, _, _) _ _ _ _ [some _, some _, some _, some _] _ _
  refine r_iload_n (q := 1) dX9_starts_0 rfl rfl ?_
  refine r_iload_n (q := 2) dX9_starts_1 rfl rfl ?_
  refine r_icmp_gt (t := 20) (q := 5) dX9_starts_2 rfl rfl (fun c2 => ?_) (fun c2 => ?_)
  · simp (disch := omega) only [nI_leI, nI_ltI, nI_eq, nI_lt0, nI_ge0, nI_gt0, nI_le0, nI_eq0] at c2
    rw [mStr_f (by omega)] at hQ
    refine r_iconst (v := nI 0) (q := 21) dX9_starts_20 (by decide) rfl ?_
    refine r_zret dX9_starts_21 (by first | rfl | exact narrow_bI _) ?_
    exact hQ
  · simp (disch := omega) only [nI_leI, nI_ltI, nI_eq, nI_lt0, nI_ge0, nI_gt0, nI_le0, nI_eq0] at c2
    refine r_iload_n (q := 6) dX9_starts_5 rfl rfl ?_
    refine r_iload_n (q := 7) dX9_starts_6 rfl rfl ?_
    refine r_iconst (v := nI 1) (q := 8) dX9_starts_7 (by decide) rfl ?_
    refine r_iload_n (q := 9) dX9_starts_8 rfl rfl ?_
    refine r_ishl (q := 10) dX9_starts_9 rfl ?_
    refine r_iconst (v := nI 1) (q := 11) dX9_starts_10 (by decide) rfl ?_
    refine r_isub (q := 12) dX9_starts_11 rfl ?_
    rw [shl1 hn]
    refine r_iand (q := 13) dX9_starts_12 rfl ?_
    rw [n_and (w := b2) (by omega) _ n (pw_mask n hn)]
    have hmd : b2 % 2 ^ n ≤ b2 := Nat.mod_le _ _
    refine r_icmp_ne (t := 20) (q := 16) dX9_starts_13 rfl rfl (fun c13 => ?_) (fun c13 => ?_)
    · simp (disch := omega) only [nI_leI, nI_ltI, nI_eq, nI_lt0, nI_ge0, nI_gt0, nI_le0, nI_eq0] at c13
      rw [mStr_f (fun g => c13 g.2)] at hQ
      refine r_iconst (v := nI 0) (q := 21) dX9_starts_20 (by decide) rfl ?_
      refine r_zret dX9_starts_21 (by first | rfl | exact narrow_bI _) ?_
      exact hQ
    · simp (disch := omega) only [nI_leI, nI_ltI, nI_eq, nI_lt0, nI_ge0, nI_gt0, nI_le0, nI_eq0] at c13
      rw [mStr_t (by omega) c13] at hQ
      refine r_iconst (v := nI 1) (q := 17) dX9_starts_16 (by decide) rfl ?_
      refine r_goto (t := 21) dX9_starts_17 rfl ?_
      refine r_zret dX9_starts_21 (by first | rfl | exact narrow_bI _) ?_
      exact hQ
theorem s_X9_startsThat (h : RM G Λ ρ μ M) {i j : Nat} (hi : i < 7) (hj : j < 7) (hbw : BW (gA μ 0)) (hQ : Q (some (.int (bI (mSth (gA μ 0) i j)))) M)  : MS G yX9_startsThat cX9_startsThat 3 (some .boolean) (d + 1) 0 0 [.ref (Λ (10, 0, 0)), .int (nI i), .int (nI j)] M Q QX := by
  refine MS.of (by decide) (by simp [Value.category]) (Nat.le_of_ble_eq_true rfl) ?_
  show AW _ (_, _, _, _, _, _, _, _, _) _ _ _ _ [some _, some _, some _] _ _
  refine r_aload_n (q := 1) dX9_startsThat_0 rfl rfl ?_
  refine r_iload_n (q := 2) dX9_startsThat_1 rfl rfl ?_
  refine r_iconst (v := nI 0) (q := 3) dX9_startsThat_2 (by decide) rfl ?_
  refine r_cV (q := 6) (As := [.int _, .int _]) wc_X9_108 rfl im_X9_lv se_X9_lv h.m rfl rfl (Nat.le_of_ble_eq_true rfl) (Nat.le_of_eq (Nat.zero_add _)) (Nat.le_of_eq (Nat.zero_add _)) dX9_startsThat_3 rfl rfl (x_lv h (by omega) (by decide) ?_)
  intro b3
  refine r_if_le (t := 43) (q := 9) dX9_startsThat_6 rfl rfl (fun c6 => ?_) (fun c6 => ?_)
  · simp (disch := omega) only [nI_leI, nI_ltI, nI_eq, nI_lt0, nI_ge0, nI_gt0, nI_le0, nI_eq0] at c6
    rw [show mSth (gA μ 0) i j = false by rw [mSth, decide_eq_false (by omega)]; rfl] at hQ
    refine r_iconst (v := nI 0) (q := 44) dX9_startsThat_43 (by decide) rfl ?_
    refine r_zret dX9_startsThat_44 (by first | rfl | exact narrow_bI _) ?_
    exact hQ
  · simp (disch := omega) only [nI_leI, nI_ltI, nI_eq, nI_lt0, nI_ge0, nI_gt0, nI_le0, nI_eq0] at c6
    rw [show mSth (gA μ 0) i j = mStr (lF (gA μ 0) i 0) (lF (gA μ 0) i 1) (lF (gA μ 0) j 0) (lF (gA μ 0) j 1) by rw [mSth, decide_eq_true (by omega)]; rfl] at hQ
    refine r_aload_n (q := 10) dX9_startsThat_9 rfl rfl ?_
    refine r_iload_n (q := 11) dX9_startsThat_10 rfl rfl ?_
    refine r_iconst (v := nI 0) (q := 12) dX9_startsThat_11 (by decide) rfl ?_
    refine r_cV (q := 15) (As := [.int _, .int _]) wc_X9_108 rfl im_X9_lv se_X9_lv h.m rfl rfl (Nat.le_of_ble_eq_true rfl) (Nat.le_of_eq (Nat.zero_add _)) (Nat.le_of_eq (Nat.zero_add _)) dX9_startsThat_12 rfl rfl (x_lv h (by omega) (by decide) ?_)
    intro b12
    refine r_aload_n (q := 16) dX9_startsThat_15 rfl rfl ?_
    refine r_iload_n (q := 17) dX9_startsThat_16 rfl rfl ?_
    refine r_iconst (v := nI 1) (q := 18) dX9_startsThat_17 (by decide) rfl ?_
    refine r_cV (q := 21) (As := [.int _, .int _]) wc_X9_108 rfl im_X9_lv se_X9_lv h.m rfl rfl (Nat.le_of_ble_eq_true rfl) (Nat.le_of_eq (Nat.zero_add _)) (Nat.le_of_eq (Nat.zero_add _)) dX9_startsThat_18 rfl rfl (x_lv h (by omega) (by decide) ?_)
    intro b18
    refine r_aload_n (q := 22) dX9_startsThat_21 rfl rfl ?_
    refine r_iload_n (q := 23) dX9_startsThat_22 rfl rfl ?_
    refine r_iconst (v := nI 0) (q := 24) dX9_startsThat_23 (by decide) rfl ?_
    refine r_cV (q := 27) (As := [.int _, .int _]) wc_X9_108 rfl im_X9_lv se_X9_lv h.m rfl rfl (Nat.le_of_ble_eq_true rfl) (Nat.le_of_eq (Nat.zero_add _)) (Nat.le_of_eq (Nat.zero_add _)) dX9_startsThat_24 rfl rfl (x_lv h (by omega) (by decide) ?_)
    intro b24
    refine r_aload_n (q := 28) dX9_startsThat_27 rfl rfl ?_
    refine r_iload_n (q := 29) dX9_startsThat_28 rfl rfl ?_
    refine r_iconst (v := nI 1) (q := 30) dX9_startsThat_29 (by decide) rfl ?_
    refine r_cV (q := 33) (As := [.int _, .int _]) wc_X9_108 rfl im_X9_lv se_X9_lv h.m rfl rfl (Nat.le_of_ble_eq_true rfl) (Nat.le_of_eq (Nat.zero_add _)) (Nat.le_of_eq (Nat.zero_add _)) dX9_startsThat_30 rfl rfl (x_lv h (by omega) (by decide) ?_)
    intro b30
    refine r_cS (q := 36) (As := [.int _, .int _, .int _, .int _]) wc_X9_253 st_X9_starts rfl (Nat.le_of_ble_eq_true rfl) (Nat.le_of_eq (Nat.zero_add _)) (Nat.le_of_eq (Nat.zero_add _)) dX9_startsThat_33 rfl rfl (s_X9_starts (hbw i hi).1 (hbw j hj).1 (hbw i hi).2 (hbw j hj).2 ?_)
    refine r_if_eq (t := 43) (q := 39) dX9_startsThat_36 rfl rfl (fun c36 => ?_) (fun c36 => ?_)
    · rw [bI_eq0.mp c36] at hQ
      refine r_iconst (v := nI 0) (q := 44) dX9_startsThat_43 (by decide) rfl ?_
      refine r_zret dX9_startsThat_44 (by first | rfl | exact narrow_bI _) ?_
      exact hQ
    · rw [bI_ne c36] at hQ
      refine r_iconst (v := nI 1) (q := 40) dX9_startsThat_39 (by decide) rfl ?_
      refine r_goto (t := 44) dX9_startsThat_40 rfl ?_
      refine r_zret dX9_startsThat_44 (by first | rfl | exact narrow_bI _) ?_
      exact hQ
def mqCl (F : Nat → Nat) (i j : Int32) : An := if isL i = false then (1, 0) else if isL j = false then (1, 0) else (0, if i = j then (if 0 < lF F i.toNatClampNeg 0 then nI 3 else nI 0) else if mSth F i.toNatClampNeg j.toNatClampNeg = true then nI 1 else if mSth F j.toNatClampNeg i.toNatClampNeg = true then nI 2 else nI 0)
theorem s_X9_clash (h : RM G Λ ρ μ M) {i j : Int32} (hbw : BW (gA μ 0)) (hQ : ∀ M', RM G Λ ρ (sN μ 4 (nI (mqCl (gA μ 0) i j).1)) M' → Q (some (.int (mqCl (gA μ 0) i j).2)) M')  : MS G yX9_clash cX9_clash 3 (some .int) (d + 2) 0 0 [.ref (Λ (10, 0, 0)), .int i, .int j] M Q QX := by
  refine MS.of (by decide) (by simp [Value.category]) (Nat.le_of_ble_eq_true rfl) ?_
  show AW _ (_, _, _, _, _, _, _, _, _) _ _ _ _ [some _, some _, some _] _ _
  refine r_aload_n (q := 1) dX9_clash_0 rfl rfl ?_
  refine r_iload_n (q := 2) dX9_clash_1 rfl rfl ?_
  refine r_cS (q := 5) (As := [.int _]) wc_X9_133 st_X9_isLine rfl (Nat.le_of_ble_eq_true rfl) (Nat.le_of_eq (Nat.zero_add _)) (Nat.le_of_eq (Nat.zero_add _)) dX9_clash_2 rfl rfl (s_X9_isLine ?_)
  refine r_if_eq (t := 19) (q := 8) dX9_clash_5 rfl rfl (fun c5 => ?_) (fun c5 => ?_)
  · rw [show mqCl (gA μ 0) i j = (1, 0) from if_pos (bI_eq0.mp c5)] at hQ
    refine r_iconst (v := nI 1) (q := 20) dX9_clash_19 (by decide) rfl ?_
    refine r_p9 (q := 23) (kk := 4) (j := 4) h (by decide) rfl fk_X9_22 dX9_clash_20 rfl fun M_20 h_20 => ?_
    try simp only [sN_sN] at h_20
    refine r_aload_n (q := 24) dX9_clash_23 rfl rfl ?_
    refine r_get (q := 27) (kk := 4) h_20.m rfl wi_RX9 (by decide) rfl fk_X9_22 rfl dX9_clash_24 rfl ?_
    rw [gN_sNs]
    refine r_if_le (t := 32) (q := 30) dX9_clash_27 rfl rfl (fun c27 => ?_) (fun c27 => ?_)
    · exact absurd c27 (by decide)
    · refine r_iconst (v := nI 0) (q := 31) dX9_clash_30 (by decide) rfl ?_
      refine r_iret dX9_clash_31 ?_
      exact hQ _ h_20
  · obtain ⟨i9, hi9, rfl⟩ := isL_t (bI_ne c5)
    have ii9 : ¬ isL (nI i9) = false := fun g => c5 (bI_eq0.mpr g)
    refine r_iload_n (q := 9) dX9_clash_8 rfl rfl ?_
    refine r_cS (q := 12) (As := [.int _]) wc_X9_133 st_X9_isLine rfl (Nat.le_of_ble_eq_true rfl) (Nat.le_of_eq (Nat.zero_add _)) (Nat.le_of_eq (Nat.zero_add _)) dX9_clash_9 rfl rfl (s_X9_isLine ?_)
    refine r_if_eq (t := 19) (q := 15) dX9_clash_12 rfl rfl (fun c12 => ?_) (fun c12 => ?_)
    · have e : mqCl (gA μ 0) (nI i9) j = (1, 0) := by rw [mqCl, if_neg ii9, if_pos (bI_eq0.mp c12)]
      rw [e] at hQ
      refine r_iconst (v := nI 1) (q := 20) dX9_clash_19 (by decide) rfl ?_
      refine r_p9 (q := 23) (kk := 4) (j := 4) h (by decide) rfl fk_X9_22 dX9_clash_20 rfl fun M_20 h_20 => ?_
      try simp only [sN_sN] at h_20
      refine r_aload_n (q := 24) dX9_clash_23 rfl rfl ?_
      refine r_get (q := 27) (kk := 4) h_20.m rfl wi_RX9 (by decide) rfl fk_X9_22 rfl dX9_clash_24 rfl ?_
      rw [gN_sNs]
      refine r_if_le (t := 32) (q := 30) dX9_clash_27 rfl rfl (fun c27 => ?_) (fun c27 => ?_)
      · exact absurd c27 (by decide)
      · refine r_iconst (v := nI 0) (q := 31) dX9_clash_30 (by decide) rfl ?_
        refine r_iret dX9_clash_31 ?_
        exact hQ _ h_20
    · obtain ⟨j9, hj9, rfl⟩ := isL_t (bI_ne c12)
      have ij9 : ¬ isL (nI j9) = false := fun g => c12 (bI_eq0.mpr g)
      have e : mqCl (gA μ 0) (nI i9) (nI j9) = (0, if nI i9 = nI j9 then (if 0 < lF (gA μ 0) i9 0 then nI 3 else nI 0) else if mSth (gA μ 0) i9 j9 = true then nI 1 else if mSth (gA μ 0) j9 i9 = true then nI 2 else nI 0) := by rw [mqCl, if_neg ii9, if_neg ij9, nI_c7 (by omega), nI_c7 (by omega)]
      rw [e] at hQ
      refine r_iconst (v := nI 0) (q := 16) dX9_clash_15 (by decide) rfl ?_
      refine r_goto (t := 20) dX9_clash_16 rfl ?_
      refine r_p9 (q := 23) (kk := 4) (j := 4) h (by decide) rfl fk_X9_22 dX9_clash_20 rfl fun M_20 h_20 => ?_
      try simp only [sN_sN] at h_20
      refine r_aload_n (q := 24) dX9_clash_23 rfl rfl ?_
      refine r_get (q := 27) (kk := 4) h_20.m rfl wi_RX9 (by decide) rfl fk_X9_22 rfl dX9_clash_24 rfl ?_
      rw [gN_sNs]
      refine r_if_le (t := 32) (q := 30) dX9_clash_27 rfl rfl (fun c27 => ?_) (fun c27 => ?_)
      · refine r_iload_n (q := 33) dX9_clash_32 rfl rfl ?_
        refine r_iload_n (q := 34) dX9_clash_33 rfl rfl ?_
        refine r_icmp_ne (t := 52) (q := 37) dX9_clash_34 rfl rfl (fun c34 => ?_) (fun c34 => ?_)
        · rw [if_neg c34] at hQ
          refine r_aload_n (q := 53) dX9_clash_52 rfl rfl ?_
          refine r_iload_n (q := 54) dX9_clash_53 rfl rfl ?_
          refine r_iload_n (q := 55) dX9_clash_54 rfl rfl ?_
          refine r_cV (q := 58) (As := [.int _, .int _]) wc_X9_257 rfl im_X9_startsThat se_X9_startsThat h_20.m rfl rfl (Nat.le_of_ble_eq_true rfl) (Nat.le_of_eq (Nat.zero_add _)) (Nat.le_of_eq (Nat.zero_add _)) dX9_clash_55 rfl rfl (s_X9_startsThat h_20 (by omega) (by omega) (by rw [gA_sNe]; exact hbw) ?_)
          rw [gA_sNe]
          refine r_if_eq (t := 65) (q := 61) dX9_clash_58 rfl rfl (fun c58 => ?_) (fun c58 => ?_)
          · rw [if_neg (by rw [bI_eq0.mp c58]; decide)] at hQ
            refine r_aload_n (q := 66) dX9_clash_65 rfl rfl ?_
            refine r_iload_n (q := 67) dX9_clash_66 rfl rfl ?_
            refine r_iload_n (q := 68) dX9_clash_67 rfl rfl ?_
            refine r_cV (q := 71) (As := [.int _, .int _]) wc_X9_257 rfl im_X9_startsThat se_X9_startsThat h_20.m rfl rfl (Nat.le_of_ble_eq_true rfl) (Nat.le_of_eq (Nat.zero_add _)) (Nat.le_of_eq (Nat.zero_add _)) dX9_clash_68 rfl rfl (s_X9_startsThat h_20 (by omega) (by omega) (by rw [gA_sNe]; exact hbw) ?_)
            rw [gA_sNe]
            refine r_if_eq (t := 78) (q := 74) dX9_clash_71 rfl rfl (fun c71 => ?_) (fun c71 => ?_)
            · rw [if_neg (by rw [bI_eq0.mp c71]; decide)] at hQ
              refine r_iconst (v := nI 0) (q := 79) dX9_clash_78 (by decide) rfl ?_
              refine r_iret dX9_clash_79 ?_
              exact hQ _ h_20
            · rw [if_pos (bI_ne c71)] at hQ
              refine r_iconst (v := nI 2) (q := 75) dX9_clash_74 (by decide) rfl ?_
              refine r_goto (t := 79) dX9_clash_75 rfl ?_
              refine r_iret dX9_clash_79 ?_
              exact hQ _ h_20
          · rw [if_pos (bI_ne c58)] at hQ
            refine r_iconst (v := nI 1) (q := 62) dX9_clash_61 (by decide) rfl ?_
            refine r_goto (t := 79) dX9_clash_62 rfl ?_
            refine r_iret dX9_clash_79 ?_
            exact hQ _ h_20
        · rw [if_pos c34] at hQ
          refine r_aload_n (q := 38) dX9_clash_37 rfl rfl ?_
          refine r_iload_n (q := 39) dX9_clash_38 rfl rfl ?_
          refine r_iconst (v := nI 0) (q := 40) dX9_clash_39 (by decide) rfl ?_
          refine r_cV (q := 43) (As := [.int _, .int _]) wc_X9_108 rfl im_X9_lv se_X9_lv h_20.m rfl rfl (Nat.le_of_ble_eq_true rfl) (Nat.le_of_eq (Nat.zero_add _)) (Nat.le_of_eq (Nat.zero_add _)) dX9_clash_40 rfl rfl (x_lv h_20 (by omega) (by decide) ?_)
          intro b40
          rw [gA_sNe] at b40 ⊢
          refine r_if_le (t := 50) (q := 46) dX9_clash_43 rfl rfl (fun c43 => ?_) (fun c43 => ?_)
          · rw [nI_le0 (by omega)] at c43
            rw [if_neg (by omega)] at hQ
            refine r_iconst (v := nI 0) (q := 51) dX9_clash_50 (by decide) rfl ?_
            refine r_iret dX9_clash_51 ?_
            exact hQ _ h_20
          · rw [nI_le0 (by omega)] at c43
            rw [if_pos (by omega)] at hQ
            refine r_iconst (v := nI 3) (q := 47) dX9_clash_46 (by decide) rfl ?_
            refine r_goto (t := 51) dX9_clash_47 rfl ?_
            refine r_iret dX9_clash_51 ?_
            exact hQ _ h_20
      · exact absurd (show nI 0 ≤ 0 by decide) c27
end W58
