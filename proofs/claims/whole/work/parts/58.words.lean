/-! THE MODEL: signs that begin others, free words, readings of hours -/
section W58
variable {G : En} {Λ : Ob → Nat} {ρ : Me} {μ : Mg} {M : Me} {d : Nat} {Q : Option Value → Me → Prop} {QX : String → Me → Prop} {S : St} {F : Nat → Nat} {z : Nat}
def mStr (n b n2 b2 : Nat) : Bool := decide (n ≤ n2) && decide (b = b2 % 2 ^ n)
def mSth (F : Nat → Nat) (i j : Nat) : Bool := decide (0 < lF F i 0) && mStr (lF F i 0) (lF F i 1) (lF F j 0) (lF F j 1)
theorem pw_mask : ∀ m : Nat, m ≤ 6 → (nI (2 ^ m - 1)).toBitVec.toNat = 2 ^ m - 1 := by decide
theorem mStr_t {n b n2 b2 : Nat} (h1 : n ≤ n2) (h2 : b = b2 % 2 ^ n) : mStr n b n2 b2 = true := by rw [mStr, decide_eq_true h1, decide_eq_true h2]; rfl
theorem mStr_f {n b n2 b2 : Nat} (h : ¬ (n ≤ n2 ∧ b = b2 % 2 ^ n)) : mStr n b n2 b2 = false := andd h
theorem s_X9_starts {n b n2 b2 : Nat} (hn : n ≤ 6) (hn2 : n2 ≤ 6) (hb : b < 64) (hb2 : b2 < 64) (hQ : Q (some (.int (bI (mStr n b n2 b2)))) M)  : MS G yX9_starts cX9_starts 4 (some .boolean) d 0 0 [.int (nI n), .int (nI b), .int (nI n2), .int (nI b2)] M Q QX := by
  refine MS.of (by decide) (by simp [Value.category]) (Nat.le_of_ble_eq_true rfl) ?_
  show AW _ (_, _, _, _, _, _, _, _, _) _ _ _ _ [some _, some _, some _, some _] _ _
  refine r_iload_n (q := 1) dX9_starts_0 rfl rfl ?_
  refine r_iload_n (q := 2) dX9_starts_1 rfl rfl ?_
  refine r_icmp_gt (t := 20) (q := 5) dX9_starts_2 rfl rfl (fun c2 => ?_) (fun c2 => ?_)
  · simp (disch := omega) only [nI_leI, nI_ltI, nI_eq, nI_lt0, nI_ge0, nI_gt0, nI_le0, nI_eq0] at c2
    rw [mStr_f (by omega)] at hQ
    refine r_iconst (v := nI 0) (q := 21) dX9_starts_20 (by decide) rfl ?_
    refine r_zret dX9_starts_21 (by first | rfl | exact narrow_bI _) ?_
    exact hQ
  · simp (disch := omega) only [nI_leI, nI_ltI, nI_eq, nI_lt0, nI_ge0, nI_gt0, nI_le0, nI_eq0] at c2
    refine r_iload_n (q := 6) dX9_starts_5 rfl rfl ?_
    refine r_iload_n (q := 7) dX9_starts_6 rfl rfl ?_
    refine r_iconst (v := nI 1) (q := 8) dX9_starts_7 (by decide) rfl ?_
    refine r_iload_n (q := 9) dX9_starts_8 rfl rfl ?_
    refine r_ishl (q := 10) dX9_starts_9 rfl ?_
    refine r_iconst (v := nI 1) (q := 11) dX9_starts_10 (by decide) rfl ?_
    refine r_isub (q := 12) dX9_starts_11 rfl ?_
    rw [shl1 hn]
    refine r_iand (q := 13) dX9_starts_12 rfl ?_
    rw [n_and (w := b2) (by omega) _ n (pw_mask n hn)]
    have hmd : b2 % 2 ^ n ≤ b2 := Nat.mod_le _ _
    refine r_icmp_ne (t := 20) (q := 16) dX9_starts_13 rfl rfl (fun c13 => ?_) (fun c13 => ?_)
    · simp (disch := omega) only [nI_leI, nI_ltI, nI_eq, nI_lt0, nI_ge0, nI_gt0, nI_le0, nI_eq0] at c13
      rw [mStr_f (fun g => c13 g.2)] at hQ
      refine r_iconst (v := nI 0) (q := 21) dX9_starts_20 (by decide) rfl ?_
      refine r_zret dX9_starts_21 (by first | rfl | exact narrow_bI _) ?_
      exact hQ
    · simp (disch := omega) only [nI_leI, nI_ltI, nI_eq, nI_lt0, nI_ge0, nI_gt0, nI_le0, nI_eq0] at c13
      rw [mStr_t (by omega) c13] at hQ
      refine r_iconst (v := nI 1) (q := 17) dX9_starts_16 (by decide) rfl ?_
      refine r_goto (t := 21) dX9_starts_17 rfl ?_
      refine r_zret dX9_starts_21 (by first | rfl | exact narrow_bI _) ?_
      exact hQ
theorem s_X9_startsThat (h : RM G Λ ρ μ M) {i j : Nat} (hi : i < 7) (hj : j < 7) (hbw : BW (gA μ 0)) (hQ : Q (some (.int (bI (mSth (gA μ 0) i j)))) M)  : MS G yX9_startsThat cX9_startsThat 3 (some .boolean) (d + 1) 0 0 [.ref (Λ (10, 0, 0)), .int (nI i), .int (nI j)] M Q QX := by
  refine MS.of (by decide) (by simp [Value.category]) (Nat.le_of_ble_eq_true rfl) ?_
  show AW _ (_, _, _, _, _, _, _, _, _) _ _ _ _ [some _, some _, some _] _ _
  refine r_aload_n (q := 1) dX9_startsThat_0 rfl rfl ?_
  refine r_iload_n (q := 2) dX9_startsThat_1 rfl rfl ?_
  refine r_iconst (v := nI 0) (q := 3) dX9_startsThat_2 (by decide) rfl ?_
  refine r_cV (q := 6) (As := [.int _, .int _]) wc_X9_108 rfl im_X9_lv se_X9_lv h.m rfl rfl (Nat.le_of_ble_eq_true rfl) (Nat.le_of_eq (Nat.zero_add _)) (Nat.le_of_eq (Nat.zero_add _)) dX9_startsThat_3 rfl rfl (x_lv h (by omega) (by decide) ?_)
  intro b3
  refine r_if_le (t := 43) (q := 9) dX9_startsThat_6 rfl rfl (fun c6 => ?_) (fun c6 => ?_)
  · simp (disch := omega) only [nI_leI, nI_ltI, nI_eq, nI_lt0, nI_ge0, nI_gt0, nI_le0, nI_eq0] at c6
    rw [show mSth (gA μ 0) i j = false by rw [mSth, decide_eq_false (by omega)]; rfl] at hQ
    refine r_iconst (v := nI 0) (q := 44) dX9_startsThat_43 (by decide) rfl ?_
    refine r_zret dX9_startsThat_44 (by first | rfl | exact narrow_bI _) ?_
    exact hQ
  · simp (disch := omega) only [nI_leI, nI_ltI, nI_eq, nI_lt0, nI_ge0, nI_gt0, nI_le0, nI_eq0] at c6
    rw [show mSth (gA μ 0) i j = mStr (lF (gA μ 0) i 0) (lF (gA μ 0) i 1) (lF (gA μ 0) j 0) (lF (gA μ 0) j 1) by rw [mSth, decide_eq_true (by omega)]; rfl] at hQ
    refine r_aload_n (q := 10) dX9_startsThat_9 rfl rfl ?_
    refine r_iload_n (q := 11) dX9_startsThat_10 rfl rfl ?_
    refine r_iconst (v := nI 0) (q := 12) dX9_startsThat_11 (by decide) rfl ?_
    refine r_cV (q := 15) (As := [.int _, .int _]) wc_X9_108 rfl im_X9_lv se_X9_lv h.m rfl rfl (Nat.le_of_ble_eq_true rfl) (Nat.le_of_eq (Nat.zero_add _)) (Nat.le_of_eq (Nat.zero_add _)) dX9_startsThat_12 rfl rfl (x_lv h (by omega) (by decide) ?_)
    intro b12
    refine r_aload_n (q := 16) dX9_startsThat_15 rfl rfl ?_
    refine r_iload_n (q := 17) dX9_startsThat_16 rfl rfl ?_
    refine r_iconst (v := nI 1) (q := 18) dX9_startsThat_17 (by decide) rfl ?_
    refine r_cV (q := 21) (As := [.int _, .int _]) wc_X9_108 rfl im_X9_lv se_X9_lv h.m rfl rfl (Nat.le_of_ble_eq_true rfl) (Nat.le_of_eq (Nat.zero_add _)) (Nat.le_of_eq (Nat.zero_add _)) dX9_startsThat_18 rfl rfl (x_lv h (by omega) (by decide) ?_)
    intro b18
    refine r_aload_n (q := 22) dX9_startsThat_21 rfl rfl ?_
    refine r_iload_n (q := 23) dX9_startsThat_22 rfl rfl ?_
    refine r_iconst (v := nI 0) (q := 24) dX9_startsThat_23 (by decide) rfl ?_
    refine r_cV (q := 27) (As := [.int _, .int _]) wc_X9_108 rfl im_X9_lv se_X9_lv h.m rfl rfl (Nat.le_of_ble_eq_true rfl) (Nat.le_of_eq (Nat.zero_add _)) (Nat.le_of_eq (Nat.zero_add _)) dX9_startsThat_24 rfl rfl (x_lv h (by omega) (by decide) ?_)
    intro b24
    refine r_aload_n (q := 28) dX9_startsThat_27 rfl rfl ?_
    refine r_iload_n (q := 29) dX9_startsThat_28 rfl rfl ?_
    refine r_iconst (v := nI 1) (q := 30) dX9_startsThat_29 (by decide) rfl ?_
    refine r_cV (q := 33) (As := [.int _, .int _]) wc_X9_108 rfl im_X9_lv se_X9_lv h.m rfl rfl (Nat.le_of_ble_eq_true rfl) (Nat.le_of_eq (Nat.zero_add _)) (Nat.le_of_eq (Nat.zero_add _)) dX9_startsThat_30 rfl rfl (x_lv h (by omega) (by decide) ?_)
    intro b30
    refine r_cS (q := 36) (As := [.int _, .int _, .int _, .int _]) wc_X9_253 st_X9_starts rfl (Nat.le_of_ble_eq_true rfl) (Nat.le_of_eq (Nat.zero_add _)) (Nat.le_of_eq (Nat.zero_add _)) dX9_startsThat_33 rfl rfl (s_X9_starts (hbw i hi).1 (hbw j hj).1 (hbw i hi).2 (hbw j hj).2 ?_)
    refine r_if_eq (t := 43) (q := 39) dX9_startsThat_36 rfl rfl (fun c36 => ?_) (fun c36 => ?_)
    · rw [bI_eq0.mp c36] at hQ
      refine r_iconst (v := nI 0) (q := 44) dX9_startsThat_43 (by decide) rfl ?_
      refine r_zret dX9_startsThat_44 (by first | rfl | exact narrow_bI _) ?_
      exact hQ
    · rw [bI_ne c36] at hQ
      refine r_iconst (v := nI 1) (q := 40) dX9_startsThat_39 (by decide) rfl ?_
      refine r_goto (t := 44) dX9_startsThat_40 rfl ?_
      refine r_zret dX9_startsThat_44 (by first | rfl | exact narrow_bI _) ?_
      exact hQ
def mqCl (F : Nat → Nat) (i j : Int32) : An := if isL i = false then (1, 0) else if isL j = false then (1, 0) else (0, if i = j then (if 0 < lF F i.toNatClampNeg 0 then nI 3 else nI 0) else if mSth F i.toNatClampNeg j.toNatClampNeg = true then nI 1 else if mSth F j.toNatClampNeg i.toNatClampNeg = true then nI 2 else nI 0)
theorem s_X9_clash (h : RM G Λ ρ μ M) {i j : Int32} (hbw : BW (gA μ 0)) (hQ : ∀ M', RM G Λ ρ (sN μ 4 (nI (mqCl (gA μ 0) i j).1)) M' → Q (some (.int (mqCl (gA μ 0) i j).2)) M')  : MS G yX9_clash cX9_clash 3 (some .int) (d + 2) 0 0 [.ref (Λ (10, 0, 0)), .int i, .int j] M Q QX := by
  refine MS.of (by decide) (by simp [Value.category]) (Nat.le_of_ble_eq_true rfl) ?_
  show AW _ (_, _, _, _, _, _, _, _, _) _ _ _ _ [some _, some _, some _] _ _
  refine r_aload_n (q := 1) dX9_clash_0 rfl rfl ?_
  refine r_iload_n (q := 2) dX9_clash_1 rfl rfl ?_
  refine r_cS (q := 5) (As := [.int _]) wc_X9_133 st_X9_isLine rfl (Nat.le_of_ble_eq_true rfl) (Nat.le_of_eq (Nat.zero_add _)) (Nat.le_of_eq (Nat.zero_add _)) dX9_clash_2 rfl rfl (s_X9_isLine ?_)
  refine r_if_eq (t := 19) (q := 8) dX9_clash_5 rfl rfl (fun c5 => ?_) (fun c5 => ?_)
  · rw [show mqCl (gA μ 0) i j = (1, 0) from if_pos (bI_eq0.mp c5)] at hQ
    refine r_iconst (v := nI 1) (q := 20) dX9_clash_19 (by decide) rfl ?_
    refine r_p9 (q := 23) (kk := 4) (j := 4) h (by decide) rfl fk_X9_22 dX9_clash_20 rfl fun M_20 h_20 => ?_
    try simp only [sN_sN] at h_20
    refine r_aload_n (q := 24) dX9_clash_23 rfl rfl ?_
    refine r_get (q := 27) (kk := 4) h_20.m rfl wi_RX9 (by decide) rfl fk_X9_22 rfl dX9_clash_24 rfl ?_
    rw [gN_sNs]
    refine r_if_le (t := 32) (q := 30) dX9_clash_27 rfl rfl (fun c27 => ?_) (fun c27 => ?_)
    · exact absurd c27 (by decide)
    · refine r_iconst (v := nI 0) (q := 31) dX9_clash_30 (by decide) rfl ?_
      refine r_iret dX9_clash_31 ?_
      exact hQ _ h_20
  · obtain ⟨i9, hi9, rfl⟩ := isL_t (bI_ne c5)
    have ii9 : ¬ isL (nI i9) = false := fun g => c5 (bI_eq0.mpr g)
    refine r_iload_n (q := 9) dX9_clash_8 rfl rfl ?_
    refine r_cS (q := 12) (As := [.int _]) wc_X9_133 st_X9_isLine rfl (Nat.le_of_ble_eq_true rfl) (Nat.le_of_eq (Nat.zero_add _)) (Nat.le_of_eq (Nat.zero_add _)) dX9_clash_9 rfl rfl (s_X9_isLine ?_)
    refine r_if_eq (t := 19) (q := 15) dX9_clash_12 rfl rfl (fun c12 => ?_) (fun c12 => ?_)
    · have e : mqCl (gA μ 0) (nI i9) j = (1, 0) := by rw [mqCl, if_neg ii9, if_pos (bI_eq0.mp c12)]
      rw [e] at hQ
      refine r_iconst (v := nI 1) (q := 20) dX9_clash_19 (by decide) rfl ?_
      refine r_p9 (q := 23) (kk := 4) (j := 4) h (by decide) rfl fk_X9_22 dX9_clash_20 rfl fun M_20 h_20 => ?_
      try simp only [sN_sN] at h_20
      refine r_aload_n (q := 24) dX9_clash_23 rfl rfl ?_
      refine r_get (q := 27) (kk := 4) h_20.m rfl wi_RX9 (by decide) rfl fk_X9_22 rfl dX9_clash_24 rfl ?_
      rw [gN_sNs]
      refine r_if_le (t := 32) (q := 30) dX9_clash_27 rfl rfl (fun c27 => ?_) (fun c27 => ?_)
      · exact absurd c27 (by decide)
      · refine r_iconst (v := nI 0) (q := 31) dX9_clash_30 (by decide) rfl ?_
        refine r_iret dX9_clash_31 ?_
        exact hQ _ h_20
    · obtain ⟨j9, hj9, rfl⟩ := isL_t (bI_ne c12)
      have ij9 : ¬ isL (nI j9) = false := fun g => c12 (bI_eq0.mpr g)
      have e : mqCl (gA μ 0) (nI i9) (nI j9) = (0, if nI i9 = nI j9 then (if 0 < lF (gA μ 0) i9 0 then nI 3 else nI 0) else if mSth (gA μ 0) i9 j9 = true then nI 1 else if mSth (gA μ 0) j9 i9 = true then nI 2 else nI 0) := by rw [mqCl, if_neg ii9, if_neg ij9, nI_c7 (by omega), nI_c7 (by omega)]
      rw [e] at hQ
      refine r_iconst (v := nI 0) (q := 16) dX9_clash_15 (by decide) rfl ?_
      refine r_goto (t := 20) dX9_clash_16 rfl ?_
      refine r_p9 (q := 23) (kk := 4) (j := 4) h (by decide) rfl fk_X9_22 dX9_clash_20 rfl fun M_20 h_20 => ?_
      try simp only [sN_sN] at h_20
      refine r_aload_n (q := 24) dX9_clash_23 rfl rfl ?_
      refine r_get (q := 27) (kk := 4) h_20.m rfl wi_RX9 (by decide) rfl fk_X9_22 rfl dX9_clash_24 rfl ?_
      rw [gN_sNs]
      refine r_if_le (t := 32) (q := 30) dX9_clash_27 rfl rfl (fun c27 => ?_) (fun c27 => ?_)
      · refine r_iload_n (q := 33) dX9_clash_32 rfl rfl ?_
        refine r_iload_n (q := 34) dX9_clash_33 rfl rfl ?_
        refine r_icmp_ne (t := 52) (q := 37) dX9_clash_34 rfl rfl (fun c34 => ?_) (fun c34 => ?_)
        · rw [if_neg c34] at hQ
          refine r_aload_n (q := 53) dX9_clash_52 rfl rfl ?_
          refine r_iload_n (q := 54) dX9_clash_53 rfl rfl ?_
          refine r_iload_n (q := 55) dX9_clash_54 rfl rfl ?_
          refine r_cV (q := 58) (As := [.int _, .int _]) wc_X9_257 rfl im_X9_startsThat se_X9_startsThat h_20.m rfl rfl (Nat.le_of_ble_eq_true rfl) (Nat.le_of_eq (Nat.zero_add _)) (Nat.le_of_eq (Nat.zero_add _)) dX9_clash_55 rfl rfl (s_X9_startsThat h_20 (by omega) (by omega) (by rw [gA_sNe]; exact hbw) ?_)
          rw [gA_sNe]
          refine r_if_eq (t := 65) (q := 61) dX9_clash_58 rfl rfl (fun c58 => ?_) (fun c58 => ?_)
          · rw [if_neg (by rw [bI_eq0.mp c58]; decide)] at hQ
            refine r_aload_n (q := 66) dX9_clash_65 rfl rfl ?_
            refine r_iload_n (q := 67) dX9_clash_66 rfl rfl ?_
            refine r_iload_n (q := 68) dX9_clash_67 rfl rfl ?_
            refine r_cV (q := 71) (As := [.int _, .int _]) wc_X9_257 rfl im_X9_startsThat se_X9_startsThat h_20.m rfl rfl (Nat.le_of_ble_eq_true rfl) (Nat.le_of_eq (Nat.zero_add _)) (Nat.le_of_eq (Nat.zero_add _)) dX9_clash_68 rfl rfl (s_X9_startsThat h_20 (by omega) (by omega) (by rw [gA_sNe]; exact hbw) ?_)
            rw [gA_sNe]
            refine r_if_eq (t := 78) (q := 74) dX9_clash_71 rfl rfl (fun c71 => ?_) (fun c71 => ?_)
            · rw [if_neg (by rw [bI_eq0.mp c71]; decide)] at hQ
              refine r_iconst (v := nI 0) (q := 79) dX9_clash_78 (by decide) rfl ?_
              refine r_iret dX9_clash_79 ?_
              exact hQ _ h_20
            · rw [if_pos (bI_ne c71)] at hQ
              refine r_iconst (v := nI 2) (q := 75) dX9_clash_74 (by decide) rfl ?_
              refine r_goto (t := 79) dX9_clash_75 rfl ?_
              refine r_iret dX9_clash_79 ?_
              exact hQ _ h_20
          · rw [if_pos (bI_ne c58)] at hQ
            refine r_iconst (v := nI 1) (q := 62) dX9_clash_61 (by decide) rfl ?_
            refine r_goto (t := 79) dX9_clash_62 rfl ?_
            refine r_iret dX9_clash_79 ?_
            exact hQ _ h_20
        · rw [if_pos c34] at hQ
          refine r_aload_n (q := 38) dX9_clash_37 rfl rfl ?_
          refine r_iload_n (q := 39) dX9_clash_38 rfl rfl ?_
          refine r_iconst (v := nI 0) (q := 40) dX9_clash_39 (by decide) rfl ?_
          refine r_cV (q := 43) (As := [.int _, .int _]) wc_X9_108 rfl im_X9_lv se_X9_lv h_20.m rfl rfl (Nat.le_of_ble_eq_true rfl) (Nat.le_of_eq (Nat.zero_add _)) (Nat.le_of_eq (Nat.zero_add _)) dX9_clash_40 rfl rfl (x_lv h_20 (by omega) (by decide) ?_)
          intro b40
          rw [gA_sNe] at b40 ⊢
          refine r_if_le (t := 50) (q := 46) dX9_clash_43 rfl rfl (fun c43 => ?_) (fun c43 => ?_)
          · rw [nI_le0 (by omega)] at c43
            rw [if_neg (by omega)] at hQ
            refine r_iconst (v := nI 0) (q := 51) dX9_clash_50 (by decide) rfl ?_
            refine r_iret dX9_clash_51 ?_
            exact hQ _ h_20
          · rw [nI_le0 (by omega)] at c43
            rw [if_pos (by omega)] at hQ
            refine r_iconst (v := nI 3) (q := 47) dX9_clash_46 (by decide) rfl ?_
            refine r_goto (t := 51) dX9_clash_47 rfl ?_
            refine r_iret dX9_clash_51 ?_
            exact hQ _ h_20
      · exact absurd (show nI 0 ≤ 0 by decide) c27
def mClear (F : Nat → Nat) : Bool := (List.range 7).all fun a => (List.range 7).all fun b => decide (a = b) || !mSth F a b
theorem mClear_f {F : Nat → Nat} {a b : Nat} (ha : a < 7) (hb : b < 7) (hn : ¬ a = b) (h : mSth F a b = true) : mClear F = false := by
  cases e : mClear F with
  | false => rfl
  | true =>
    have h1 := List.all_eq_true.mp (List.all_eq_true.mp e a (List.mem_range.mpr ha)) b (List.mem_range.mpr hb)
    rw [h, decide_eq_false hn] at h1
    cases h1
theorem mClear_t {F : Nat → Nat} (h : ∀ a, a < 7 → ∀ b, b < 7 → a = b ∨ mSth F a b = false) : mClear F = true := by
  refine List.all_eq_true.mpr fun a ha => List.all_eq_true.mpr fun b hb => ?_
  rcases h a (List.mem_range.mp ha) b (List.mem_range.mp hb) with e | e
  · rw [decide_eq_true e]; rfl
  · rw [e]; simp
def mFree (F : Nat → Nat) (n b : Nat) : Bool := (List.range 7).all fun l => decide (lF F l 0 = 0) || !(mStr n b (lF F l 0) (lF F l 1) || mStr (lF F l 0) (lF F l 1) n b)
theorem mFree_f {F : Nat → Nat} {n b l : Nat} (hl : l < 7) (h0 : ¬ lF F l 0 = 0) (h : mStr n b (lF F l 0) (lF F l 1) = true ∨ mStr (lF F l 0) (lF F l 1) n b = true) : mFree F n b = false := by
  cases e : mFree F n b with
  | false => rfl
  | true =>
    have h1 := List.all_eq_true.mp e l (List.mem_range.mpr hl)
    rw [decide_eq_false h0] at h1
    rcases h with h | h <;> rw [h] at h1 <;> simp at h1
theorem mFree_t {F : Nat → Nat} {n b : Nat} (h : ∀ l, l < 7 → lF F l 0 = 0 ∨ (mStr n b (lF F l 0) (lF F l 1) = false ∧ mStr (lF F l 0) (lF F l 1) n b = false)) : mFree F n b = true := by
  refine List.all_eq_true.mpr fun l hl => ?_
  rcases h l (List.mem_range.mp hl) with e | ⟨e1, e2⟩
  · rw [decide_eq_true e]; rfl
  · rw [e1, e2]; simp
def mFrN (F : Nat → Nat) (n k : Nat) : Nat := (List.range k).countP (mFree F n)
theorem mFrN_s {F : Nat → Nat} {n k : Nat} : mFrN F n (k + 1) = mFrN F n k + if mFree F n k = true then 1 else 0 := by
  rw [mFrN, List.range_succ, List.countP_append, List.countP_cons, List.countP_nil]; simp [mFrN]
def mqFr (F : Nat → Nat) (n : Int32) : An := if isN n = false then (1, 0) else (0, nI (mFrN F n.toNatClampNeg (2 ^ n.toNatClampNeg)))
theorem s_X9_isClearF (h : RM G Λ ρ (sA μ 0 F) M) (hbw : BW F) (hQ : Q (some (.int (bI (mClear F)))) M) : ∀ u, AW G (wX G yX9_isClear cX9_isClear 3 (some .boolean) 0 0 Q QX) (d + 2) 0 0 7 [some (.ref (Λ (10, 0, 0))), some (.int (nI 0)), u] [] M := by
  have loop : ∀ (m : Nat) a u, m = 7 - a → a ≤ 7 → (∀ a', a' < a → ∀ b', b' < 7 → a' = b' ∨ mSth F a' b' = false) → AW G (wX G yX9_isClear cX9_isClear 3 (some .boolean) 0 0 Q QX) (d + 2) 0 0 7 [some (.ref (Λ (10, 0, 0))), some (.int (nI a)), u] [] M := by
    intro m
    induction m using Nat.strongRecOn with
    | _ m iho =>
    intro a u hm ha hp
    subst hm
    rcases Nat.lt_or_ge a 7 with ha7 | ha7
    rotate_left
    · obtain rfl : a = 7 := by omega
      refine r_iload_n (q := 8) dX9_isClear_7 rfl rfl ?_
      refine r_bipush (v := nI 7) (q := 10) dX9_isClear_8 (by decide) rfl ?_
      refine r_icmp_ge (t := 49) (q := 13) dX9_isClear_10 rfl rfl (fun c10 => ?_) (fun c10 => ?_)
      · rw [mClear_t hp] at hQ
        refine r_iconst (v := nI 1) (q := 50) dX9_isClear_49 (by decide) rfl ?_
        refine r_zret dX9_isClear_50 (by first | rfl | exact narrow_bI _) ?_
        exact hQ
      · exact absurd (show nI 7 ≤ nI 7 by decide) (Int32.not_le.mpr (by first | exact c10 | exact Int32.not_le.mp c10))
    have inner : ∀ (m : Nat) b, m = 7 - b → b ≤ 7 → (∀ b', b' < b → a = b' ∨ mSth F a b' = false) → AW G (wX G yX9_isClear cX9_isClear 3 (some .boolean) 0 0 Q QX) (d + 2) 0 0 15 [some (.ref (Λ (10, 0, 0))), some (.int (nI a)), some (.int (nI b))] [] M := by
      intro m
      induction m using Nat.strongRecOn with
      | _ m ih =>
      intro b hm hb hpb
      subst hm
      refine r_iload_n (q := 16) dX9_isClear_15 rfl rfl ?_
      refine r_bipush (v := nI 7) (q := 18) dX9_isClear_16 (by decide) rfl ?_
      refine r_icmp_ge (t := 43) (q := 21) dX9_isClear_18 rfl rfl (fun c18 => ?_) (fun c18 => ?_)
      · simp (disch := omega) only [nI_leI, nI_ltI, nI_eq, nI_lt0, nI_ge0, nI_gt0, nI_le0, nI_eq0] at c18
        refine r_inc1 (q := 46) dX9_isClear_43 rfl (Nat.le_of_ble_eq_true rfl) rfl rfl ?_
        show AW _ (_, _, _, _, _, _, _, _, _) _ _ _ _ [some _, some _, some _] _ _
        refine r_goto (t := 7) dX9_isClear_46 rfl ?_
        exact iho (7 - (a + 1)) (by omega) (a + 1) _ rfl (by omega) fun a' ha' b' hb' => if e : a' = a then e ▸ hpb b' (by omega) else hp a' (by omega) b' hb'
      · simp (disch := omega) only [nI_leI, nI_ltI, nI_eq, nI_lt0, nI_ge0, nI_gt0, nI_le0, nI_eq0] at c18
        refine r_iload_n (q := 22) dX9_isClear_21 rfl rfl ?_
        refine r_iload_n (q := 23) dX9_isClear_22 rfl rfl ?_
        refine r_icmp_eq (t := 37) (q := 26) dX9_isClear_23 rfl rfl (fun c23 => ?_) (fun c23 => ?_)
        · simp (disch := omega) only [nI_leI, nI_ltI, nI_eq, nI_lt0, nI_ge0, nI_gt0, nI_le0, nI_eq0] at c23
          refine r_inc1 (q := 40) dX9_isClear_37 rfl (Nat.le_of_ble_eq_true rfl) rfl rfl ?_
          show AW _ (_, _, _, _, _, _, _, _, _) _ _ _ _ [some _, some _, some _] _ _
          refine r_goto (t := 15) dX9_isClear_40 rfl ?_
          refine ih (7 - (b + 1)) (by omega) (b + 1) rfl (by omega) ?_
          first
            | exact nx
            | exact fun b' hb' => if e : b' = b then Or.inl (c23.trans e.symm) else hpb b' (by omega)
        · simp (disch := omega) only [nI_leI, nI_ltI, nI_eq, nI_lt0, nI_ge0, nI_gt0, nI_le0, nI_eq0] at c23
          refine r_aload_n (q := 27) dX9_isClear_26 rfl rfl ?_
          refine r_iload_n (q := 28) dX9_isClear_27 rfl rfl ?_
          refine r_iload_n (q := 29) dX9_isClear_28 rfl rfl ?_
          refine r_cV (q := 32) (As := [.int _, .int _]) wc_X9_257 rfl im_X9_startsThat se_X9_startsThat h.m rfl rfl (Nat.le_of_ble_eq_true rfl) (Nat.le_of_eq (Nat.zero_add _)) (Nat.le_of_eq (Nat.zero_add _)) dX9_isClear_29 rfl rfl (s_X9_startsThat h (by omega) (by omega) (by rw [gA_s]; exact hbw) ?_)
          rw [gA_s]
          refine r_if_eq (t := 37) (q := 35) dX9_isClear_32 rfl rfl (fun c32 => ?_) (fun c32 => ?_)
          · have nx : ∀ b', b' < b + 1 → a = b' ∨ mSth F a b' = false := fun b' hb' => if e : b' = b then Or.inr (e ▸ bI_eq0.mp c32) else hpb b' (by omega)
            refine r_inc1 (q := 40) dX9_isClear_37 rfl (Nat.le_of_ble_eq_true rfl) rfl rfl ?_
            show AW _ (_, _, _, _, _, _, _, _, _) _ _ _ _ [some _, some _, some _] _ _
            refine r_goto (t := 15) dX9_isClear_40 rfl ?_
            refine ih (7 - (b + 1)) (by omega) (b + 1) rfl (by omega) ?_
            first
              | exact nx
              | exact fun b' hb' => if e : b' = b then Or.inl (c23.trans e.symm) else hpb b' (by omega)
          · rw [mClear_f (by omega) (by omega) c23 (bI_ne c32)] at hQ
            refine r_iconst (v := nI 0) (q := 36) dX9_isClear_35 (by decide) rfl ?_
            refine r_zret dX9_isClear_36 (by first | rfl | exact narrow_bI _) ?_
            exact hQ
    refine r_iload_n (q := 8) dX9_isClear_7 rfl rfl ?_
    refine r_bipush (v := nI 7) (q := 10) dX9_isClear_8 (by decide) rfl ?_
    refine r_icmp_ge (t := 49) (q := 13) dX9_isClear_10 rfl rfl (fun c10 => ?_) (fun c10 => ?_)
    · exact absurd c10 (by rw [nI_leI (by decide) (by omega)]; omega)
    · refine r_iconst (v := nI 0) (q := 14) dX9_isClear_13 (by decide) rfl ?_
      refine r_istore_n (q := 15) dX9_isClear_14 (Nat.le_of_ble_eq_true rfl) rfl rfl ?_
      show AW _ (_, _, _, _, _, _, _, _, _) _ _ _ _ [some _, some _, some _] _ _
      exact inner _ 0 rfl (Nat.zero_le _) fun b' hb' => absurd hb' (by omega)
  intro u
  exact loop _ 0 u rfl (Nat.zero_le _) fun a' ha' => absurd ha' (by omega)
theorem s_X9_isClear (h : RM G Λ ρ μ M) (hbw : BW (gA μ 0)) (hQ : ∀ M', RM G Λ ρ (sN μ 4 (nI 0)) M' → Q (some (.int (bI (mClear (gA μ 0))))) M')  : MS G yX9_isClear cX9_isClear 3 (some .boolean) (d + 2) 0 0 [.ref (Λ (10, 0, 0))] M Q QX := by
  refine MS.of (by decide) (by simp [Value.category]) (Nat.le_of_ble_eq_true rfl) ?_
  show AW _ (_, _, _, _, _, _, _, _, _) _ _ _ _ [some _, _, _] _ _
  refine r_aload_n (q := 1) dX9_isClear_0 rfl rfl ?_
  refine r_iconst (v := nI 0) (q := 2) dX9_isClear_1 (by decide) rfl ?_
  refine r_p9 (q := 5) (kk := 4) (j := 4) h (by decide) rfl fk_X9_22 dX9_isClear_2 rfl fun M_2 h_2 => ?_
  refine r_iconst (v := nI 0) (q := 6) dX9_isClear_5 (by decide) rfl ?_
  refine r_istore_n (q := 7) dX9_isClear_6 (Nat.le_of_ble_eq_true rfl) rfl rfl ?_
  show AW _ (_, _, _, _, _, _, _, _, _) _ _ _ _ [some _, some _, _] _ _
  exact s_X9_isClearF (F := gA μ 0) (μ := sN μ 4 (nI 0)) (RM.toA h_2 0) hbw (hQ _ h_2) none
theorem s_X9_isFree (h : RM G Λ ρ (sA μ 0 F) M) {n b : Nat} (hn6 : n ≤ 6) (hb64 : b < 64) (hbw : BW F) (hQ : Q (some (.int (bI (mFree F n b)))) M)  : MS G yX9_isFree cX9_isFree 4 (some .boolean) (d + 1) 0 0 [.ref (Λ (10, 0, 0)), .int (nI n), .int (nI b)] M Q QX := by
  have loop : ∀ (m : Nat) l, m = 7 - l → l ≤ 7 → (∀ l', l' < l → lF F l' 0 = 0 ∨ (mStr n b (lF F l' 0) (lF F l' 1) = false ∧ mStr (lF F l' 0) (lF F l' 1) n b = false)) → AW G (wX G yX9_isFree cX9_isFree 4 (some .boolean) 0 0 Q QX) (d + 1) 0 0 2 [some (.ref (Λ (10, 0, 0))), some (.int (nI n)), some (.int (nI b)), some (.int (nI l))] [] M := by
    intro m
    induction m using Nat.strongRecOn with
    | _ m ih =>
    intro l hm hl hp
    subst hm
    refine r_iload_n (q := 3) dX9_isFree_2 rfl rfl ?_
    refine r_bipush (v := nI 7) (q := 5) dX9_isFree_3 (by decide) rfl ?_
    refine r_icmp_ge (t := 68) (q := 8) dX9_isFree_5 rfl rfl (fun c5 => ?_) (fun c5 => ?_)
    · simp (disch := omega) only [nI_leI, nI_ltI, nI_eq, nI_lt0, nI_ge0, nI_gt0, nI_le0, nI_eq0] at c5
      refine r_iconst (v := nI 1) (q := 69) dX9_isFree_68 (by decide) rfl ?_
      refine r_zret dX9_isFree_69 (by first | rfl | exact narrow_bI _) ?_
      rw [mFree_t (fun l' hl' => hp l' (by omega))] at hQ
      exact hQ
    · simp (disch := omega) only [nI_leI, nI_ltI, nI_eq, nI_lt0, nI_ge0, nI_gt0, nI_le0, nI_eq0] at c5
      refine r_aload_n (q := 9) dX9_isFree_8 rfl rfl ?_
      refine r_iload_n (q := 10) dX9_isFree_9 rfl rfl ?_
      refine r_iconst (v := nI 0) (q := 11) dX9_isFree_10 (by decide) rfl ?_
      refine r_cV (q := 14) (As := [.int _, .int _]) wc_X9_108 rfl im_X9_lv se_X9_lv h.m rfl rfl (Nat.le_of_ble_eq_true rfl) (Nat.le_of_eq (Nat.zero_add _)) (Nat.le_of_eq (Nat.zero_add _)) dX9_isFree_11 rfl rfl (x_lv h (by omega) (by decide) ?_)
      intro b11
      try simp only [gA_sNe, gA_s] at b11 ⊢
      refine r_if_ne (t := 20) (q := 17) dX9_isFree_14 rfl rfl (fun c14 => ?_) (fun c14 => ?_)
      · simp (disch := omega) only [nI_leI, nI_ltI, nI_eq, nI_lt0, nI_ge0, nI_gt0, nI_le0, nI_eq0] at c14
        refine r_iload_n (q := 21) dX9_isFree_20 rfl rfl ?_
        refine r_iload_n (q := 22) dX9_isFree_21 rfl rfl ?_
        refine r_aload_n (q := 23) dX9_isFree_22 rfl rfl ?_
        refine r_iload_n (q := 24) dX9_isFree_23 rfl rfl ?_
        refine r_iconst (v := nI 0) (q := 25) dX9_isFree_24 (by decide) rfl ?_
        refine r_cV (q := 28) (As := [.int _, .int _]) wc_X9_108 rfl im_X9_lv se_X9_lv h.m rfl rfl (Nat.le_of_ble_eq_true rfl) (Nat.le_of_eq (Nat.zero_add _)) (Nat.le_of_eq (Nat.zero_add _)) dX9_isFree_25 rfl rfl (x_lv h (by omega) (by decide) ?_)
        intro b25
        try simp only [gA_sNe, gA_s] at b25 ⊢
        refine r_aload_n (q := 29) dX9_isFree_28 rfl rfl ?_
        refine r_iload_n (q := 30) dX9_isFree_29 rfl rfl ?_
        refine r_iconst (v := nI 1) (q := 31) dX9_isFree_30 (by decide) rfl ?_
        refine r_cV (q := 34) (As := [.int _, .int _]) wc_X9_108 rfl im_X9_lv se_X9_lv h.m rfl rfl (Nat.le_of_ble_eq_true rfl) (Nat.le_of_eq (Nat.zero_add _)) (Nat.le_of_eq (Nat.zero_add _)) dX9_isFree_31 rfl rfl (x_lv h (by omega) (by decide) ?_)
        intro b31
        try simp only [gA_sNe, gA_s] at b31 ⊢
        refine r_cS (q := 37) (As := [.int _, .int _, .int _, .int _]) wc_X9_253 st_X9_starts rfl (Nat.le_of_ble_eq_true rfl) (Nat.le_of_eq (Nat.zero_add _)) (Nat.le_of_eq (Nat.zero_add _)) dX9_isFree_34 rfl rfl (s_X9_starts hn6 (hbw l (by omega)).1 hb64 (hbw l (by omega)).2 ?_)
        refine r_if_ne (t := 60) (q := 40) dX9_isFree_37 rfl rfl (fun c37 => ?_) (fun c37 => ?_)
        · rw [mFree_f (by omega) c14 (Or.inl (bI_ne c37))] at hQ
          refine r_iconst (v := nI 0) (q := 61) dX9_isFree_60 (by decide) rfl ?_
          refine r_zret dX9_isFree_61 (by first | rfl | exact narrow_bI _) ?_
          exact hQ
        · refine r_aload_n (q := 41) dX9_isFree_40 rfl rfl ?_
          refine r_iload_n (q := 42) dX9_isFree_41 rfl rfl ?_
          refine r_iconst (v := nI 0) (q := 43) dX9_isFree_42 (by decide) rfl ?_
          refine r_cV (q := 46) (As := [.int _, .int _]) wc_X9_108 rfl im_X9_lv se_X9_lv h.m rfl rfl (Nat.le_of_ble_eq_true rfl) (Nat.le_of_eq (Nat.zero_add _)) (Nat.le_of_eq (Nat.zero_add _)) dX9_isFree_43 rfl rfl (x_lv h (by omega) (by decide) ?_)
          intro b43
          try simp only [gA_sNe, gA_s] at b43 ⊢
          refine r_aload_n (q := 47) dX9_isFree_46 rfl rfl ?_
          refine r_iload_n (q := 48) dX9_isFree_47 rfl rfl ?_
          refine r_iconst (v := nI 1) (q := 49) dX9_isFree_48 (by decide) rfl ?_
          refine r_cV (q := 52) (As := [.int _, .int _]) wc_X9_108 rfl im_X9_lv se_X9_lv h.m rfl rfl (Nat.le_of_ble_eq_true rfl) (Nat.le_of_eq (Nat.zero_add _)) (Nat.le_of_eq (Nat.zero_add _)) dX9_isFree_49 rfl rfl (x_lv h (by omega) (by decide) ?_)
          intro b49
          try simp only [gA_sNe, gA_s] at b49 ⊢
          refine r_iload_n (q := 53) dX9_isFree_52 rfl rfl ?_
          refine r_iload_n (q := 54) dX9_isFree_53 rfl rfl ?_
          refine r_cS (q := 57) (As := [.int _, .int _, .int _, .int _]) wc_X9_253 st_X9_starts rfl (Nat.le_of_ble_eq_true rfl) (Nat.le_of_eq (Nat.zero_add _)) (Nat.le_of_eq (Nat.zero_add _)) dX9_isFree_54 rfl rfl (s_X9_starts (hbw l (by omega)).1 hn6 (hbw l (by omega)).2 hb64 ?_)
          refine r_if_eq (t := 62) (q := 60) dX9_isFree_57 rfl rfl (fun c57 => ?_) (fun c57 => ?_)
          · have nx : ∀ l', l' < l + 1 → lF F l' 0 = 0 ∨ (mStr n b (lF F l' 0) (lF F l' 1) = false ∧ mStr (lF F l' 0) (lF F l' 1) n b = false) := fun l' hl' => if e : l' = l then Or.inr (e ▸ ⟨bI_eq0.mp c37, bI_eq0.mp c57⟩) else hp l' (by omega)
            refine r_inc1 (q := 65) dX9_isFree_62 rfl (Nat.le_of_ble_eq_true rfl) rfl rfl ?_
            show AW _ (_, _, _, _, _, _, _, _, _) _ _ _ _ [some _, some _, some _, some _] _ _
            refine r_goto (t := 2) dX9_isFree_65 rfl ?_
            exact ih (7 - (l + 1)) (by omega) (l + 1) rfl (by omega) nx
          · rw [mFree_f (by omega) c14 (Or.inr (bI_ne c57))] at hQ
            refine r_iconst (v := nI 0) (q := 61) dX9_isFree_60 (by decide) rfl ?_
            refine r_zret dX9_isFree_61 (by first | rfl | exact narrow_bI _) ?_
            exact hQ
      · simp (disch := omega) only [nI_leI, nI_ltI, nI_eq, nI_lt0, nI_ge0, nI_gt0, nI_le0, nI_eq0] at c14
        have nx : ∀ l', l' < l + 1 → lF F l' 0 = 0 ∨ (mStr n b (lF F l' 0) (lF F l' 1) = false ∧ mStr (lF F l' 0) (lF F l' 1) n b = false) := fun l' hl' => if e : l' = l then Or.inl (e ▸ c14) else hp l' (by omega)
        refine r_goto (t := 62) dX9_isFree_17 rfl ?_
        refine r_inc1 (q := 65) dX9_isFree_62 rfl (Nat.le_of_ble_eq_true rfl) rfl rfl ?_
        show AW _ (_, _, _, _, _, _, _, _, _) _ _ _ _ [some _, some _, some _, some _] _ _
        refine r_goto (t := 2) dX9_isFree_65 rfl ?_
        exact ih (7 - (l + 1)) (by omega) (l + 1) rfl (by omega) nx
  refine MS.of (by decide) (by simp [Value.category]) (Nat.le_of_ble_eq_true rfl) ?_
  show AW _ (_, _, _, _, _, _, _, _, _) _ _ _ _ [some _, some _, some _, _] _ _
  refine r_iconst (v := nI 0) (q := 1) dX9_isFree_0 (by decide) rfl ?_
  refine r_istore_n (q := 2) dX9_isFree_1 (Nat.le_of_ble_eq_true rfl) rfl rfl ?_
  show AW _ (_, _, _, _, _, _, _, _, _) _ _ _ _ [some _, some _, some _, some _] _ _
  exact loop _ 0 rfl (Nat.zero_le _) fun l' hl' => absurd hl' (by omega)
theorem s_X9_free (h : RM G Λ ρ μ M) {n : Int32} {b : Bool} (hbw : BW (gA μ 0)) (hQ : ∀ M', RM G Λ ρ (sN μ 4 (nI (mqFr (gA μ 0) n).1)) M' → Q (some (.int (mqFr (gA μ 0) n).2)) M')  : MS G yX9_free cX9_free 5 (some .int) (d + 2) 0 0 [.ref (Λ (10, 0, 0)), .int n, .int (bI b)] M Q QX := by
  have okp : ∀ n M1 (F : Nat → Nat) (μ2 : Mg), n ≤ 6 → BW F → gN μ2 4 = nI 0 → RM G Λ ρ (sA μ2 0 F) M1 → Q (some (.int (nI (mFrN F n (2 ^ n))))) M1 → AW G (wX G yX9_free cX9_free 5 (some .int) 0 0 Q QX) (d + 2) 0 0 24 [some (.ref (Λ (10, 0, 0))), some (.int (nI n)), some (.int (bI b)), some (.int (nI 0)), some (.int (nI 0))] [] M1 := by
    intro n M1 F μ2 hn6 hbw ht0 h1 hQ1
    have ht : gN (sA μ2 0 F) 4 = nI 0 := ht0
    have hpn : 2 ^ n ≤ 64 := Nat.pow_le_pow_right (n := 2) (by decide) hn6
    have loop : ∀ (m : Nat) k, m = 2 ^ n - k → k ≤ 2 ^ n → AW G (wX G yX9_free cX9_free 5 (some .int) 0 0 Q QX) (d + 2) 0 0 24 [some (.ref (Λ (10, 0, 0))), some (.int (nI n)), some (.int (bI b)), some (.int (nI (mFrN F n k))), some (.int (nI k))] [] M1 := by
      intro m
      induction m using Nat.strongRecOn with
      | _ m ih =>
      intro k hm hk
      subst hm
      refine r_aload_n (q := 25) dX9_free_24 rfl rfl ?_
      refine r_get (q := 28) (kk := 4) h1.m rfl wi_RX9 (by decide) rfl fk_X9_22 rfl dX9_free_25 rfl ?_
      rw [ht]
      refine r_if_ne (t := 63) (q := 31) dX9_free_28 rfl rfl (fun c28 => ?_) (fun c28 => ?_)
      · exact absurd rfl c28
      · refine r_iload (q := 33) dX9_free_31 rfl rfl ?_
        refine r_iconst (v := nI 1) (q := 34) dX9_free_33 (by decide) rfl ?_
        refine r_iload_n (q := 35) dX9_free_34 rfl rfl ?_
        refine r_ishl (q := 36) dX9_free_35 rfl ?_
        rw [n_shl (by omega) (by rw [Nat.one_mul]; exact Nat.lt_of_le_of_lt hpn (by decide)), Nat.one_mul]
        refine r_icmp_ge (t := 63) (q := 39) dX9_free_36 rfl rfl (fun c36 => ?_) (fun c36 => ?_)
        · simp (disch := omega) only [nI_leI, nI_ltI, nI_eq, nI_lt0, nI_ge0, nI_gt0, nI_le0, nI_eq0] at c36
          obtain rfl : k = 2 ^ n := by omega
          refine r_iload_n (q := 64) dX9_free_63 rfl rfl ?_
          refine r_iret dX9_free_64 ?_
          exact hQ1
        · simp (disch := omega) only [nI_leI, nI_ltI, nI_eq, nI_lt0, nI_ge0, nI_gt0, nI_le0, nI_eq0] at c36
          refine r_iload_n (q := 40) dX9_free_39 rfl rfl ?_
          refine r_aload_n (q := 41) dX9_free_40 rfl rfl ?_
          refine r_iload_n (q := 42) dX9_free_41 rfl rfl ?_
          refine r_iload (q := 44) dX9_free_42 rfl rfl ?_
          refine r_cV (q := 47) (As := [.int _, .int _]) wc_X9_260 rfl im_X9_isFree se_X9_isFree h1.m rfl rfl (Nat.le_of_ble_eq_true rfl) (Nat.le_of_eq (Nat.zero_add _)) (Nat.le_of_eq (Nat.zero_add _)) dX9_free_44 rfl rfl (s_X9_isFree (F := F) h1 hn6 (by omega) hbw ?_)
          refine r_if_eq (t := 54) (q := 50) dX9_free_47 rfl rfl (fun c47 => ?_) (fun c47 => ?_)
          · have e : mFrN F n (k + 1) = mFrN F n k + 0 := by rw [mFrN_s, if_neg (by rw [bI_eq0.mp c47]; decide)]
            refine r_iconst (v := nI 0) (q := 55) dX9_free_54 (by decide) rfl ?_
            refine r_iadd (q := 56) dX9_free_55 rfl ?_
            refine r_istore_n (q := 57) dX9_free_56 (Nat.le_of_ble_eq_true rfl) rfl rfl ?_
            show AW _ (_, _, _, _, _, _, _, _, _) _ _ _ _ [some _, some _, some _, some _, some _] _ _
            refine r_inc1 (q := 60) dX9_free_57 rfl (Nat.le_of_ble_eq_true rfl) rfl rfl ?_
            show AW _ (_, _, _, _, _, _, _, _, _) _ _ _ _ [some _, some _, some _, some _, some _] _ _
            refine r_goto (t := 24) dX9_free_60 rfl ?_
            rw [n_add, ← e]
            exact ih (2 ^ n - (k + 1)) (by omega) (k + 1) rfl (by omega)
          · have e : mFrN F n (k + 1) = mFrN F n k + 1 := by rw [mFrN_s, if_pos (bI_ne c47)]
            refine r_iconst (v := nI 1) (q := 51) dX9_free_50 (by decide) rfl ?_
            refine r_goto (t := 55) dX9_free_51 rfl ?_
            refine r_iadd (q := 56) dX9_free_55 rfl ?_
            refine r_istore_n (q := 57) dX9_free_56 (Nat.le_of_ble_eq_true rfl) rfl rfl ?_
            show AW _ (_, _, _, _, _, _, _, _, _) _ _ _ _ [some _, some _, some _, some _, some _] _ _
            refine r_inc1 (q := 60) dX9_free_57 rfl (Nat.le_of_ble_eq_true rfl) rfl rfl ?_
            show AW _ (_, _, _, _, _, _, _, _, _) _ _ _ _ [some _, some _, some _, some _, some _] _ _
            refine r_goto (t := 24) dX9_free_60 rfl ?_
            rw [n_add, ← e]
            exact ih (2 ^ n - (k + 1)) (by omega) (k + 1) rfl (by omega)
    exact loop _ 0 rfl (Nat.zero_le _)
  refine MS.of (by decide) (by simp [Value.category]) (Nat.le_of_ble_eq_true rfl) ?_
  show AW _ (_, _, _, _, _, _, _, _, _) _ _ _ _ [some _, some _, some _, _, _] _ _
  refine r_aload_n (q := 1) dX9_free_0 rfl rfl ?_
  refine r_iload_n (q := 2) dX9_free_1 rfl rfl ?_
  refine r_iconst (v := nI 1) (q := 3) dX9_free_2 (by decide) rfl ?_
  refine r_bipush (v := nI 6) (q := 5) dX9_free_3 (by decide) rfl ?_
  refine r_cS (q := 8) (As := [.int _, .int _, .int _]) wc_X9_116 st_X9_in rfl (Nat.le_of_ble_eq_true rfl) (Nat.le_of_eq (Nat.zero_add _)) (Nat.le_of_eq (Nat.zero_add _)) dX9_free_5 rfl rfl (s_X9_in ?_)
  refine r_if_eq (t := 15) (q := 11) dX9_free_8 rfl rfl (fun c8 => ?_) (fun c8 => ?_)
  · rw [show mqFr (gA μ 0) n = (1, 0) from if_pos ((inI_N n).symm.trans (bI_eq0.mp c8))] at hQ
    refine r_iconst (v := nI 1) (q := 16) dX9_free_15 (by decide) rfl ?_
    refine r_p9 (q := 19) (kk := 4) (j := 4) h (by decide) rfl fk_X9_22 dX9_free_16 rfl fun M_16 h_16 => ?_
    try simp only [sN_sN] at h_16
    refine r_iconst (v := nI 0) (q := 20) dX9_free_19 (by decide) rfl ?_
    refine r_istore_n (q := 21) dX9_free_20 (Nat.le_of_ble_eq_true rfl) rfl rfl ?_
    show AW _ (_, _, _, _, _, _, _, _, _) _ _ _ _ [some _, some _, some _, some _, _] _ _
    refine r_iconst (v := nI 0) (q := 22) dX9_free_21 (by decide) rfl ?_
    refine r_istore (q := 24) dX9_free_22 (Nat.le_of_ble_eq_true rfl) rfl rfl ?_
    show AW _ (_, _, _, _, _, _, _, _, _) _ _ _ _ [some _, some _, some _, some _, some _] _ _
    refine r_aload_n (q := 25) dX9_free_24 rfl rfl ?_
    refine r_get (q := 28) (kk := 4) h_16.m rfl wi_RX9 (by decide) rfl fk_X9_22 rfl dX9_free_25 rfl ?_
    rw [gN_sNs]
    refine r_if_ne (t := 63) (q := 31) dX9_free_28 rfl rfl (fun c28 => ?_) (fun c28 => ?_)
    · refine r_iload_n (q := 64) dX9_free_63 rfl rfl ?_
      refine r_iret dX9_free_64 ?_
      exact hQ _ h_16
    · exact absurd c28 (by decide)
  · obtain ⟨m, hm1, hm6, rfl⟩ := isN_t ((inI_N n).symm.trans (bI_ne c8))
    have im : ¬ isN (nI m) = false := fun g => c8 (bI_eq0.mpr ((inI_N _).trans g))
    have e : mqFr (gA μ 0) (nI m) = (0, nI (mFrN (gA μ 0) m (2 ^ m))) := by rw [mqFr, if_neg im, nI_c7 (by omega)]
    rw [e] at hQ
    refine r_iconst (v := nI 0) (q := 12) dX9_free_11 (by decide) rfl ?_
    refine r_goto (t := 16) dX9_free_12 rfl ?_
    refine r_p9 (q := 19) (kk := 4) (j := 4) h (by decide) rfl fk_X9_22 dX9_free_16 rfl fun M_16 h_16 => ?_
    try simp only [sN_sN] at h_16
    refine r_iconst (v := nI 0) (q := 20) dX9_free_19 (by decide) rfl ?_
    refine r_istore_n (q := 21) dX9_free_20 (Nat.le_of_ble_eq_true rfl) rfl rfl ?_
    show AW _ (_, _, _, _, _, _, _, _, _) _ _ _ _ [some _, some _, some _, some _, _] _ _
    refine r_iconst (v := nI 0) (q := 22) dX9_free_21 (by decide) rfl ?_
    refine r_istore (q := 24) dX9_free_22 (Nat.le_of_ble_eq_true rfl) rfl rfl ?_
    show AW _ (_, _, _, _, _, _, _, _, _) _ _ _ _ [some _, some _, some _, some _, some _] _ _
    exact okp m _ (gA μ 0) (sN μ 4 (nI 0)) hm6 hbw gN_sNs (RM.toA h_16 0) (hQ _ h_16)
theorem gWt_step {need f mu hd w mu2 hd2 : Nat} {dn : Bool} (h : dn = true ∨ 0 < mu ∨ hd < need) (h1 : mu2 = mu - 1) (h2 : hd2 = if 0 < mu then hd else min 20 (hd + 2)) : w + gWt need (f + 1) mu hd dn = w + 1 + gWt need f mu2 hd2 false := by
  rw [gWt, if_pos h, h1, h2]; omega
theorem gWt_Q {need f mu hd w mu2 hd2 : Nat} {dn : Bool} {P : Nat → Prop} (hP : P (w + gWt need (f + 1) mu hd dn)) (h : dn = true ∨ 0 < mu ∨ hd < need) (h1 : mu2 = mu - 1) (h2 : hd2 = if 0 < mu then hd else min 20 (hd + 2)) : P (w + 1 + gWt need f mu2 hd2 false) := by rw [← gWt_step h h1 h2]; exact hP
def mqSo (F : Nat → Nat) (l : Int32) : An := if isL l = false then (1, 0) else if lF F l.toNatClampNeg 0 = 0 then (2, 0) else (0, nI (gWt (mSt F l.toNatClampNeg) 1000 (lF F l.toNatClampNeg 5) (lF F l.toNatClampNeg 3) (decide (0 < lF F l.toNatClampNeg 9))))
theorem dn1 {w : Nat} {p : Prop} [Decidable p] : decide (w + 1 = 0 ∧ p) = false := decide_eq_false (by omega)
theorem s_X9_soonest (h : RM G Λ ρ μ M) {l : Int32} (hbw : BW (gA μ 0)) (hb : ∀ l, l < 7 → lF (gA μ 0) l 3 ≤ 20 ∧ lF (gA μ 0) l 5 ≤ 900) (hQ : ∀ M', RM G Λ ρ (sN μ 4 (nI (mqSo (gA μ 0) l).1)) M' → Q (some (.int (mqSo (gA μ 0) l).2)) M')  : MS G yX9_soonest cX9_soonest 5 (some .int) (d + 2) 0 0 [.ref (Λ (10, 0, 0)), .int l] M Q QX := by
  have okp : ∀ l M1 (F : Nat → Nat) (μ2 : Mg), l < 7 → WN F l → lF F l 3 ≤ 20 → lF F l 5 ≤ 900 → RM G Λ ρ (sA μ2 0 F) M1 → Q (some (.int (nI (gWt (mSt F l) 1000 (lF F l 5) (lF F l 3) (decide (0 < lF F l 9)))))) M1 → AW G (wX G yX9_soonest cX9_soonest 5 (some .int) 0 0 Q QX) (d + 2) 0 0 55 [some (.ref (Λ (10, 0, 0))), some (.int (nI l)), some (.int (nI (lF F l 5))), some (.int (nI (lF F l 3))), some (.int (nI 0))] [] M1 := by
    intro l M1 F μ2 hl hwn hs20 hm9 h1 hQ1
    have loop : ∀ (m : Nat) (w f mu hd : Nat), m = mu + (20 - hd) + (if w = 0 then 1 else 0) → mu + (20 - hd) + (if w = 0 then 1 else 0) < f → hd ≤ 20 → w + f ≤ 1002 → mu < 2 ^ 28 → Q (some (.int (nI (w + gWt (mSt F l) f mu hd (decide (w = 0 ∧ 0 < lF F l 9)))))) M1 → AW G (wX G yX9_soonest cX9_soonest 5 (some .int) 0 0 Q QX) (d + 2) 0 0 55 [some (.ref (Λ (10, 0, 0))), some (.int (nI l)), some (.int (nI mu)), some (.int (nI hd)), some (.int (nI w))] [] M1 := by
      intro m
      induction m using Nat.strongRecOn with
      | _ m ih =>
      intro w f mu hd hm hf hh hw hmu hQ1
      subst hm
      have hms := mSt_le hwn
      obtain ⟨f, rfl⟩ : ∃ f0, f = f0 + 1 := ⟨f - 1, by omega⟩
      refine r_iload_n (q := 56) dX9_soonest_55 rfl rfl ?_
      refine r_if_gt (t := 83) (q := 59) dX9_soonest_56 rfl rfl (fun c56 => ?_) (fun c56 => ?_)
      · simp (disch := omega) only [nI_leI, nI_ltI, nI_eq, nI_lt0, nI_ge0, nI_gt0, nI_le0, nI_eq0] at c56
        refine r_iload_n (q := 84) dX9_soonest_83 rfl rfl ?_
        refine r_iload_n (q := 85) dX9_soonest_84 rfl rfl ?_
        refine r_if_le (t := 92) (q := 88) dX9_soonest_85 rfl rfl (fun c85 => ?_) (fun c85 => ?_)
        · simp (disch := omega) only [nI_leI, nI_ltI, nI_eq, nI_lt0, nI_ge0, nI_gt0, nI_le0, nI_eq0] at c85
          refine r_iconst (v := nI 2) (q := 93) dX9_soonest_92 (by decide) rfl ?_
          refine r_iadd (q := 94) dX9_soonest_93 rfl ?_
          rw [n_add]
          refine r_istore_n (q := 95) dX9_soonest_94 (Nat.le_of_ble_eq_true rfl) rfl rfl ?_
          show AW _ (_, _, _, _, _, _, _, _, _) _ _ _ _ [some _, some _, some _, some _, some _] _ _
          refine r_iload_n (q := 96) dX9_soonest_95 rfl rfl ?_
          refine r_bipush (v := nI 20) (q := 98) dX9_soonest_96 (by decide) rfl ?_
          refine r_icmp_le (t := 106) (q := 101) dX9_soonest_98 rfl rfl (fun c98 => ?_) (fun c98 => ?_)
          · simp (disch := omega) only [nI_leI, nI_ltI, nI_eq, nI_lt0, nI_ge0, nI_gt0, nI_le0, nI_eq0] at c98
            refine r_iload_n (q := 107) dX9_soonest_106 rfl rfl ?_
            refine r_istore_n (q := 108) dX9_soonest_107 (Nat.le_of_ble_eq_true rfl) rfl rfl ?_
            show AW _ (_, _, _, _, _, _, _, _, _) _ _ _ _ [some _, some _, some _, some _, some _] _ _
            refine r_iload_n (q := 109) dX9_soonest_108 rfl rfl ?_
            refine r_iload_n (q := 110) dX9_soonest_109 rfl rfl ?_
            refine r_if_le (t := 117) (q := 113) dX9_soonest_110 rfl rfl (fun c110 => ?_) (fun c110 => ?_)
            · simp (disch := omega) only [nI_leI, nI_ltI, nI_eq, nI_lt0, nI_ge0, nI_gt0, nI_le0, nI_eq0] at c110
              refine r_iconst (v := nI 0) (q := 118) dX9_soonest_117 (by decide) rfl ?_
              refine r_isub (q := 119) dX9_soonest_118 rfl ?_
              rw [n_sub (by omega)]
              refine r_istore_n (q := 120) dX9_soonest_119 (Nat.le_of_ble_eq_true rfl) rfl rfl ?_
              show AW _ (_, _, _, _, _, _, _, _, _) _ _ _ _ [some _, some _, some _, some _, some _] _ _
              refine r_inc1 (q := 123) dX9_soonest_120 rfl (Nat.le_of_ble_eq_true rfl) rfl rfl ?_
              show AW _ (_, _, _, _, _, _, _, _, _) _ _ _ _ [some _, some _, some _, some _, some _] _ _
              refine r_goto (t := 55) dX9_soonest_123 rfl ?_
              first
                | (exfalso; omega)
                | (refine ih _ (by rw [if_neg (Nat.succ_ne_zero w)]; split <;> omega) (w + 1) f _ _ rfl (by rw [if_neg (Nat.succ_ne_zero w)]; split at hf <;> omega) (by omega) (by omega) (by omega) ?_
                   rw [dn1]
                   exact gWt_Q (P := fun n => Q (some (.int (nI n))) M1) hQ1 (by first | exact Or.inr (Or.inl (by omega)) | exact Or.inr (Or.inr (by omega)) | exact Or.inl (decide_eq_true ⟨by omega, by omega⟩)) (by omega) (by split <;> omega))
            · simp (disch := omega) only [nI_leI, nI_ltI, nI_eq, nI_lt0, nI_ge0, nI_gt0, nI_le0, nI_eq0] at c110
              refine r_iconst (v := nI 1) (q := 114) dX9_soonest_113 (by decide) rfl ?_
              refine r_goto (t := 118) dX9_soonest_114 rfl ?_
              refine r_isub (q := 119) dX9_soonest_118 rfl ?_
              rw [n_sub (by omega)]
              refine r_istore_n (q := 120) dX9_soonest_119 (Nat.le_of_ble_eq_true rfl) rfl rfl ?_
              show AW _ (_, _, _, _, _, _, _, _, _) _ _ _ _ [some _, some _, some _, some _, some _] _ _
              refine r_inc1 (q := 123) dX9_soonest_120 rfl (Nat.le_of_ble_eq_true rfl) rfl rfl ?_
              show AW _ (_, _, _, _, _, _, _, _, _) _ _ _ _ [some _, some _, some _, some _, some _] _ _
              refine r_goto (t := 55) dX9_soonest_123 rfl ?_
              first
                | (exfalso; omega)
                | (refine ih _ (by rw [if_neg (Nat.succ_ne_zero w)]; split <;> omega) (w + 1) f _ _ rfl (by rw [if_neg (Nat.succ_ne_zero w)]; split at hf <;> omega) (by omega) (by omega) (by omega) ?_
                   rw [dn1]
                   exact gWt_Q (P := fun n => Q (some (.int (nI n))) M1) hQ1 (by first | exact Or.inr (Or.inl (by omega)) | exact Or.inr (Or.inr (by omega)) | exact Or.inl (decide_eq_true ⟨by omega, by omega⟩)) (by omega) (by split <;> omega))
          · simp (disch := omega) only [nI_leI, nI_ltI, nI_eq, nI_lt0, nI_ge0, nI_gt0, nI_le0, nI_eq0] at c98
            refine r_bipush (v := nI 20) (q := 103) dX9_soonest_101 (by decide) rfl ?_
            refine r_goto (t := 107) dX9_soonest_103 rfl ?_
            refine r_istore_n (q := 108) dX9_soonest_107 (Nat.le_of_ble_eq_true rfl) rfl rfl ?_
            show AW _ (_, _, _, _, _, _, _, _, _) _ _ _ _ [some _, some _, some _, some _, some _] _ _
            refine r_iload_n (q := 109) dX9_soonest_108 rfl rfl ?_
            refine r_iload_n (q := 110) dX9_soonest_109 rfl rfl ?_
            refine r_if_le (t := 117) (q := 113) dX9_soonest_110 rfl rfl (fun c110 => ?_) (fun c110 => ?_)
            · simp (disch := omega) only [nI_leI, nI_ltI, nI_eq, nI_lt0, nI_ge0, nI_gt0, nI_le0, nI_eq0] at c110
              refine r_iconst (v := nI 0) (q := 118) dX9_soonest_117 (by decide) rfl ?_
              refine r_isub (q := 119) dX9_soonest_118 rfl ?_
              rw [n_sub (by omega)]
              refine r_istore_n (q := 120) dX9_soonest_119 (Nat.le_of_ble_eq_true rfl) rfl rfl ?_
              show AW _ (_, _, _, _, _, _, _, _, _) _ _ _ _ [some _, some _, some _, some _, some _] _ _
              refine r_inc1 (q := 123) dX9_soonest_120 rfl (Nat.le_of_ble_eq_true rfl) rfl rfl ?_
              show AW _ (_, _, _, _, _, _, _, _, _) _ _ _ _ [some _, some _, some _, some _, some _] _ _
              refine r_goto (t := 55) dX9_soonest_123 rfl ?_
              first
                | (exfalso; omega)
                | (refine ih _ (by rw [if_neg (Nat.succ_ne_zero w)]; split <;> omega) (w + 1) f _ _ rfl (by rw [if_neg (Nat.succ_ne_zero w)]; split at hf <;> omega) (by omega) (by omega) (by omega) ?_
                   rw [dn1]
                   exact gWt_Q (P := fun n => Q (some (.int (nI n))) M1) hQ1 (by first | exact Or.inr (Or.inl (by omega)) | exact Or.inr (Or.inr (by omega)) | exact Or.inl (decide_eq_true ⟨by omega, by omega⟩)) (by omega) (by split <;> omega))
            · simp (disch := omega) only [nI_leI, nI_ltI, nI_eq, nI_lt0, nI_ge0, nI_gt0, nI_le0, nI_eq0] at c110
              refine r_iconst (v := nI 1) (q := 114) dX9_soonest_113 (by decide) rfl ?_
              refine r_goto (t := 118) dX9_soonest_114 rfl ?_
              refine r_isub (q := 119) dX9_soonest_118 rfl ?_
              rw [n_sub (by omega)]
              refine r_istore_n (q := 120) dX9_soonest_119 (Nat.le_of_ble_eq_true rfl) rfl rfl ?_
              show AW _ (_, _, _, _, _, _, _, _, _) _ _ _ _ [some _, some _, some _, some _, some _] _ _
              refine r_inc1 (q := 123) dX9_soonest_120 rfl (Nat.le_of_ble_eq_true rfl) rfl rfl ?_
              show AW _ (_, _, _, _, _, _, _, _, _) _ _ _ _ [some _, some _, some _, some _, some _] _ _
              refine r_goto (t := 55) dX9_soonest_123 rfl ?_
              first
                | (exfalso; omega)
                | (refine ih _ (by rw [if_neg (Nat.succ_ne_zero w)]; split <;> omega) (w + 1) f _ _ rfl (by rw [if_neg (Nat.succ_ne_zero w)]; split at hf <;> omega) (by omega) (by omega) (by omega) ?_
                   rw [dn1]
                   exact gWt_Q (P := fun n => Q (some (.int (nI n))) M1) hQ1 (by first | exact Or.inr (Or.inl (by omega)) | exact Or.inr (Or.inr (by omega)) | exact Or.inl (decide_eq_true ⟨by omega, by omega⟩)) (by omega) (by split <;> omega))
        · simp (disch := omega) only [nI_leI, nI_ltI, nI_eq, nI_lt0, nI_ge0, nI_gt0, nI_le0, nI_eq0] at c85
          refine r_iconst (v := nI 0) (q := 89) dX9_soonest_88 (by decide) rfl ?_
          refine r_goto (t := 93) dX9_soonest_89 rfl ?_
          refine r_iadd (q := 94) dX9_soonest_93 rfl ?_
          rw [n_add]
          refine r_istore_n (q := 95) dX9_soonest_94 (Nat.le_of_ble_eq_true rfl) rfl rfl ?_
          show AW _ (_, _, _, _, _, _, _, _, _) _ _ _ _ [some _, some _, some _, some _, some _] _ _
          refine r_iload_n (q := 96) dX9_soonest_95 rfl rfl ?_
          refine r_bipush (v := nI 20) (q := 98) dX9_soonest_96 (by decide) rfl ?_
          refine r_icmp_le (t := 106) (q := 101) dX9_soonest_98 rfl rfl (fun c98 => ?_) (fun c98 => ?_)
          · simp (disch := omega) only [nI_leI, nI_ltI, nI_eq, nI_lt0, nI_ge0, nI_gt0, nI_le0, nI_eq0] at c98
            refine r_iload_n (q := 107) dX9_soonest_106 rfl rfl ?_
            refine r_istore_n (q := 108) dX9_soonest_107 (Nat.le_of_ble_eq_true rfl) rfl rfl ?_
            show AW _ (_, _, _, _, _, _, _, _, _) _ _ _ _ [some _, some _, some _, some _, some _] _ _
            refine r_iload_n (q := 109) dX9_soonest_108 rfl rfl ?_
            refine r_iload_n (q := 110) dX9_soonest_109 rfl rfl ?_
            refine r_if_le (t := 117) (q := 113) dX9_soonest_110 rfl rfl (fun c110 => ?_) (fun c110 => ?_)
            · simp (disch := omega) only [nI_leI, nI_ltI, nI_eq, nI_lt0, nI_ge0, nI_gt0, nI_le0, nI_eq0] at c110
              refine r_iconst (v := nI 0) (q := 118) dX9_soonest_117 (by decide) rfl ?_
              refine r_isub (q := 119) dX9_soonest_118 rfl ?_
              rw [n_sub (by omega)]
              refine r_istore_n (q := 120) dX9_soonest_119 (Nat.le_of_ble_eq_true rfl) rfl rfl ?_
              show AW _ (_, _, _, _, _, _, _, _, _) _ _ _ _ [some _, some _, some _, some _, some _] _ _
              refine r_inc1 (q := 123) dX9_soonest_120 rfl (Nat.le_of_ble_eq_true rfl) rfl rfl ?_
              show AW _ (_, _, _, _, _, _, _, _, _) _ _ _ _ [some _, some _, some _, some _, some _] _ _
              refine r_goto (t := 55) dX9_soonest_123 rfl ?_
              first
                | (exfalso; omega)
                | (refine ih _ (by rw [if_neg (Nat.succ_ne_zero w)]; split <;> omega) (w + 1) f _ _ rfl (by rw [if_neg (Nat.succ_ne_zero w)]; split at hf <;> omega) (by omega) (by omega) (by omega) ?_
                   rw [dn1]
                   exact gWt_Q (P := fun n => Q (some (.int (nI n))) M1) hQ1 (by first | exact Or.inr (Or.inl (by omega)) | exact Or.inr (Or.inr (by omega)) | exact Or.inl (decide_eq_true ⟨by omega, by omega⟩)) (by omega) (by split <;> omega))
            · simp (disch := omega) only [nI_leI, nI_ltI, nI_eq, nI_lt0, nI_ge0, nI_gt0, nI_le0, nI_eq0] at c110
              refine r_iconst (v := nI 1) (q := 114) dX9_soonest_113 (by decide) rfl ?_
              refine r_goto (t := 118) dX9_soonest_114 rfl ?_
              refine r_isub (q := 119) dX9_soonest_118 rfl ?_
              rw [n_sub (by omega)]
              refine r_istore_n (q := 120) dX9_soonest_119 (Nat.le_of_ble_eq_true rfl) rfl rfl ?_
              show AW _ (_, _, _, _, _, _, _, _, _) _ _ _ _ [some _, some _, some _, some _, some _] _ _
              refine r_inc1 (q := 123) dX9_soonest_120 rfl (Nat.le_of_ble_eq_true rfl) rfl rfl ?_
              show AW _ (_, _, _, _, _, _, _, _, _) _ _ _ _ [some _, some _, some _, some _, some _] _ _
              refine r_goto (t := 55) dX9_soonest_123 rfl ?_
              first
                | (exfalso; omega)
                | (refine ih _ (by rw [if_neg (Nat.succ_ne_zero w)]; split <;> omega) (w + 1) f _ _ rfl (by rw [if_neg (Nat.succ_ne_zero w)]; split at hf <;> omega) (by omega) (by omega) (by omega) ?_
                   rw [dn1]
                   exact gWt_Q (P := fun n => Q (some (.int (nI n))) M1) hQ1 (by first | exact Or.inr (Or.inl (by omega)) | exact Or.inr (Or.inr (by omega)) | exact Or.inl (decide_eq_true ⟨by omega, by omega⟩)) (by omega) (by split <;> omega))
          · simp (disch := omega) only [nI_leI, nI_ltI, nI_eq, nI_lt0, nI_ge0, nI_gt0, nI_le0, nI_eq0] at c98
            refine r_bipush (v := nI 20) (q := 103) dX9_soonest_101 (by decide) rfl ?_
            refine r_goto (t := 107) dX9_soonest_103 rfl ?_
            refine r_istore_n (q := 108) dX9_soonest_107 (Nat.le_of_ble_eq_true rfl) rfl rfl ?_
            show AW _ (_, _, _, _, _, _, _, _, _) _ _ _ _ [some _, some _, some _, some _, some _] _ _
            refine r_iload_n (q := 109) dX9_soonest_108 rfl rfl ?_
            refine r_iload_n (q := 110) dX9_soonest_109 rfl rfl ?_
            refine r_if_le (t := 117) (q := 113) dX9_soonest_110 rfl rfl (fun c110 => ?_) (fun c110 => ?_)
            · simp (disch := omega) only [nI_leI, nI_ltI, nI_eq, nI_lt0, nI_ge0, nI_gt0, nI_le0, nI_eq0] at c110
              refine r_iconst (v := nI 0) (q := 118) dX9_soonest_117 (by decide) rfl ?_
              refine r_isub (q := 119) dX9_soonest_118 rfl ?_
              rw [n_sub (by omega)]
              refine r_istore_n (q := 120) dX9_soonest_119 (Nat.le_of_ble_eq_true rfl) rfl rfl ?_
              show AW _ (_, _, _, _, _, _, _, _, _) _ _ _ _ [some _, some _, some _, some _, some _] _ _
              refine r_inc1 (q := 123) dX9_soonest_120 rfl (Nat.le_of_ble_eq_true rfl) rfl rfl ?_
              show AW _ (_, _, _, _, _, _, _, _, _) _ _ _ _ [some _, some _, some _, some _, some _] _ _
              refine r_goto (t := 55) dX9_soonest_123 rfl ?_
              first
                | (exfalso; omega)
                | (refine ih _ (by rw [if_neg (Nat.succ_ne_zero w)]; split <;> omega) (w + 1) f _ _ rfl (by rw [if_neg (Nat.succ_ne_zero w)]; split at hf <;> omega) (by omega) (by omega) (by omega) ?_
                   rw [dn1]
                   exact gWt_Q (P := fun n => Q (some (.int (nI n))) M1) hQ1 (by first | exact Or.inr (Or.inl (by omega)) | exact Or.inr (Or.inr (by omega)) | exact Or.inl (decide_eq_true ⟨by omega, by omega⟩)) (by omega) (by split <;> omega))
            · simp (disch := omega) only [nI_leI, nI_ltI, nI_eq, nI_lt0, nI_ge0, nI_gt0, nI_le0, nI_eq0] at c110
              refine r_iconst (v := nI 1) (q := 114) dX9_soonest_113 (by decide) rfl ?_
              refine r_goto (t := 118) dX9_soonest_114 rfl ?_
              refine r_isub (q := 119) dX9_soonest_118 rfl ?_
              rw [n_sub (by omega)]
              refine r_istore_n (q := 120) dX9_soonest_119 (Nat.le_of_ble_eq_true rfl) rfl rfl ?_
              show AW _ (_, _, _, _, _, _, _, _, _) _ _ _ _ [some _, some _, some _, some _, some _] _ _
              refine r_inc1 (q := 123) dX9_soonest_120 rfl (Nat.le_of_ble_eq_true rfl) rfl rfl ?_
              show AW _ (_, _, _, _, _, _, _, _, _) _ _ _ _ [some _, some _, some _, some _, some _] _ _
              refine r_goto (t := 55) dX9_soonest_123 rfl ?_
              first
                | (exfalso; omega)
                | (refine ih _ (by rw [if_neg (Nat.succ_ne_zero w)]; split <;> omega) (w + 1) f _ _ rfl (by rw [if_neg (Nat.succ_ne_zero w)]; split at hf <;> omega) (by omega) (by omega) (by omega) ?_
                   rw [dn1]
                   exact gWt_Q (P := fun n => Q (some (.int (nI n))) M1) hQ1 (by first | exact Or.inr (Or.inl (by omega)) | exact Or.inr (Or.inr (by omega)) | exact Or.inl (decide_eq_true ⟨by omega, by omega⟩)) (by omega) (by split <;> omega))
      · simp (disch := omega) only [nI_leI, nI_ltI, nI_eq, nI_lt0, nI_ge0, nI_gt0, nI_le0, nI_eq0] at c56
        refine r_iload_n (q := 60) dX9_soonest_59 rfl rfl ?_
        refine r_aload_n (q := 61) dX9_soonest_60 rfl rfl ?_
        refine r_iload_n (q := 62) dX9_soonest_61 rfl rfl ?_
        refine r_cV (q := 65) (As := [.int _]) wc_X9_127 rfl im_X9_itsSteam se_X9_itsSteam h1.m rfl rfl (Nat.le_of_ble_eq_true rfl) (Nat.le_of_eq (Nat.zero_add _)) (Nat.le_of_eq (Nat.zero_add _)) dX9_soonest_62 rfl rfl (s_X9_itsSteam h1 hl (by rw [gA_s]; exact hwn) ?_)
        simp only [gA_s]
        refine r_icmp_lt (t := 83) (q := 68) dX9_soonest_65 rfl rfl (fun c65 => ?_) (fun c65 => ?_)
        · simp (disch := omega) only [nI_leI, nI_ltI, nI_eq, nI_lt0, nI_ge0, nI_gt0, nI_le0, nI_eq0] at c65
          refine r_iload_n (q := 84) dX9_soonest_83 rfl rfl ?_
          refine r_iload_n (q := 85) dX9_soonest_84 rfl rfl ?_
          refine r_if_le (t := 92) (q := 88) dX9_soonest_85 rfl rfl (fun c85 => ?_) (fun c85 => ?_)
          · simp (disch := omega) only [nI_leI, nI_ltI, nI_eq, nI_lt0, nI_ge0, nI_gt0, nI_le0, nI_eq0] at c85
            refine r_iconst (v := nI 2) (q := 93) dX9_soonest_92 (by decide) rfl ?_
            refine r_iadd (q := 94) dX9_soonest_93 rfl ?_
            rw [n_add]
            refine r_istore_n (q := 95) dX9_soonest_94 (Nat.le_of_ble_eq_true rfl) rfl rfl ?_
            show AW _ (_, _, _, _, _, _, _, _, _) _ _ _ _ [some _, some _, some _, some _, some _] _ _
            refine r_iload_n (q := 96) dX9_soonest_95 rfl rfl ?_
            refine r_bipush (v := nI 20) (q := 98) dX9_soonest_96 (by decide) rfl ?_
            refine r_icmp_le (t := 106) (q := 101) dX9_soonest_98 rfl rfl (fun c98 => ?_) (fun c98 => ?_)
            · simp (disch := omega) only [nI_leI, nI_ltI, nI_eq, nI_lt0, nI_ge0, nI_gt0, nI_le0, nI_eq0] at c98
              refine r_iload_n (q := 107) dX9_soonest_106 rfl rfl ?_
              refine r_istore_n (q := 108) dX9_soonest_107 (Nat.le_of_ble_eq_true rfl) rfl rfl ?_
              show AW _ (_, _, _, _, _, _, _, _, _) _ _ _ _ [some _, some _, some _, some _, some _] _ _
              refine r_iload_n (q := 109) dX9_soonest_108 rfl rfl ?_
              refine r_iload_n (q := 110) dX9_soonest_109 rfl rfl ?_
              refine r_if_le (t := 117) (q := 113) dX9_soonest_110 rfl rfl (fun c110 => ?_) (fun c110 => ?_)
              · simp (disch := omega) only [nI_leI, nI_ltI, nI_eq, nI_lt0, nI_ge0, nI_gt0, nI_le0, nI_eq0] at c110
                refine r_iconst (v := nI 0) (q := 118) dX9_soonest_117 (by decide) rfl ?_
                refine r_isub (q := 119) dX9_soonest_118 rfl ?_
                rw [n_sub (by omega)]
                refine r_istore_n (q := 120) dX9_soonest_119 (Nat.le_of_ble_eq_true rfl) rfl rfl ?_
                show AW _ (_, _, _, _, _, _, _, _, _) _ _ _ _ [some _, some _, some _, some _, some _] _ _
                refine r_inc1 (q := 123) dX9_soonest_120 rfl (Nat.le_of_ble_eq_true rfl) rfl rfl ?_
                show AW _ (_, _, _, _, _, _, _, _, _) _ _ _ _ [some _, some _, some _, some _, some _] _ _
                refine r_goto (t := 55) dX9_soonest_123 rfl ?_
                first
                  | (exfalso; omega)
                  | (refine ih _ (by rw [if_neg (Nat.succ_ne_zero w)]; split <;> omega) (w + 1) f _ _ rfl (by rw [if_neg (Nat.succ_ne_zero w)]; split at hf <;> omega) (by omega) (by omega) (by omega) ?_
                     rw [dn1]
                     exact gWt_Q (P := fun n => Q (some (.int (nI n))) M1) hQ1 (by first | exact Or.inr (Or.inl (by omega)) | exact Or.inr (Or.inr (by omega)) | exact Or.inl (decide_eq_true ⟨by omega, by omega⟩)) (by omega) (by split <;> omega))
              · simp (disch := omega) only [nI_leI, nI_ltI, nI_eq, nI_lt0, nI_ge0, nI_gt0, nI_le0, nI_eq0] at c110
                refine r_iconst (v := nI 1) (q := 114) dX9_soonest_113 (by decide) rfl ?_
                refine r_goto (t := 118) dX9_soonest_114 rfl ?_
                refine r_isub (q := 119) dX9_soonest_118 rfl ?_
                rw [n_sub (by omega)]
                refine r_istore_n (q := 120) dX9_soonest_119 (Nat.le_of_ble_eq_true rfl) rfl rfl ?_
                show AW _ (_, _, _, _, _, _, _, _, _) _ _ _ _ [some _, some _, some _, some _, some _] _ _
                refine r_inc1 (q := 123) dX9_soonest_120 rfl (Nat.le_of_ble_eq_true rfl) rfl rfl ?_
                show AW _ (_, _, _, _, _, _, _, _, _) _ _ _ _ [some _, some _, some _, some _, some _] _ _
                refine r_goto (t := 55) dX9_soonest_123 rfl ?_
                first
                  | (exfalso; omega)
                  | (refine ih _ (by rw [if_neg (Nat.succ_ne_zero w)]; split <;> omega) (w + 1) f _ _ rfl (by rw [if_neg (Nat.succ_ne_zero w)]; split at hf <;> omega) (by omega) (by omega) (by omega) ?_
                     rw [dn1]
                     exact gWt_Q (P := fun n => Q (some (.int (nI n))) M1) hQ1 (by first | exact Or.inr (Or.inl (by omega)) | exact Or.inr (Or.inr (by omega)) | exact Or.inl (decide_eq_true ⟨by omega, by omega⟩)) (by omega) (by split <;> omega))
            · simp (disch := omega) only [nI_leI, nI_ltI, nI_eq, nI_lt0, nI_ge0, nI_gt0, nI_le0, nI_eq0] at c98
              refine r_bipush (v := nI 20) (q := 103) dX9_soonest_101 (by decide) rfl ?_
              refine r_goto (t := 107) dX9_soonest_103 rfl ?_
              refine r_istore_n (q := 108) dX9_soonest_107 (Nat.le_of_ble_eq_true rfl) rfl rfl ?_
              show AW _ (_, _, _, _, _, _, _, _, _) _ _ _ _ [some _, some _, some _, some _, some _] _ _
              refine r_iload_n (q := 109) dX9_soonest_108 rfl rfl ?_
              refine r_iload_n (q := 110) dX9_soonest_109 rfl rfl ?_
              refine r_if_le (t := 117) (q := 113) dX9_soonest_110 rfl rfl (fun c110 => ?_) (fun c110 => ?_)
              · simp (disch := omega) only [nI_leI, nI_ltI, nI_eq, nI_lt0, nI_ge0, nI_gt0, nI_le0, nI_eq0] at c110
                refine r_iconst (v := nI 0) (q := 118) dX9_soonest_117 (by decide) rfl ?_
                refine r_isub (q := 119) dX9_soonest_118 rfl ?_
                rw [n_sub (by omega)]
                refine r_istore_n (q := 120) dX9_soonest_119 (Nat.le_of_ble_eq_true rfl) rfl rfl ?_
                show AW _ (_, _, _, _, _, _, _, _, _) _ _ _ _ [some _, some _, some _, some _, some _] _ _
                refine r_inc1 (q := 123) dX9_soonest_120 rfl (Nat.le_of_ble_eq_true rfl) rfl rfl ?_
                show AW _ (_, _, _, _, _, _, _, _, _) _ _ _ _ [some _, some _, some _, some _, some _] _ _
                refine r_goto (t := 55) dX9_soonest_123 rfl ?_
                first
                  | (exfalso; omega)
                  | (refine ih _ (by rw [if_neg (Nat.succ_ne_zero w)]; split <;> omega) (w + 1) f _ _ rfl (by rw [if_neg (Nat.succ_ne_zero w)]; split at hf <;> omega) (by omega) (by omega) (by omega) ?_
                     rw [dn1]
                     exact gWt_Q (P := fun n => Q (some (.int (nI n))) M1) hQ1 (by first | exact Or.inr (Or.inl (by omega)) | exact Or.inr (Or.inr (by omega)) | exact Or.inl (decide_eq_true ⟨by omega, by omega⟩)) (by omega) (by split <;> omega))
              · simp (disch := omega) only [nI_leI, nI_ltI, nI_eq, nI_lt0, nI_ge0, nI_gt0, nI_le0, nI_eq0] at c110
                refine r_iconst (v := nI 1) (q := 114) dX9_soonest_113 (by decide) rfl ?_
                refine r_goto (t := 118) dX9_soonest_114 rfl ?_
                refine r_isub (q := 119) dX9_soonest_118 rfl ?_
                rw [n_sub (by omega)]
                refine r_istore_n (q := 120) dX9_soonest_119 (Nat.le_of_ble_eq_true rfl) rfl rfl ?_
                show AW _ (_, _, _, _, _, _, _, _, _) _ _ _ _ [some _, some _, some _, some _, some _] _ _
                refine r_inc1 (q := 123) dX9_soonest_120 rfl (Nat.le_of_ble_eq_true rfl) rfl rfl ?_
                show AW _ (_, _, _, _, _, _, _, _, _) _ _ _ _ [some _, some _, some _, some _, some _] _ _
                refine r_goto (t := 55) dX9_soonest_123 rfl ?_
                first
                  | (exfalso; omega)
                  | (refine ih _ (by rw [if_neg (Nat.succ_ne_zero w)]; split <;> omega) (w + 1) f _ _ rfl (by rw [if_neg (Nat.succ_ne_zero w)]; split at hf <;> omega) (by omega) (by omega) (by omega) ?_
                     rw [dn1]
                     exact gWt_Q (P := fun n => Q (some (.int (nI n))) M1) hQ1 (by first | exact Or.inr (Or.inl (by omega)) | exact Or.inr (Or.inr (by omega)) | exact Or.inl (decide_eq_true ⟨by omega, by omega⟩)) (by omega) (by split <;> omega))
          · simp (disch := omega) only [nI_leI, nI_ltI, nI_eq, nI_lt0, nI_ge0, nI_gt0, nI_le0, nI_eq0] at c85
            refine r_iconst (v := nI 0) (q := 89) dX9_soonest_88 (by decide) rfl ?_
            refine r_goto (t := 93) dX9_soonest_89 rfl ?_
            refine r_iadd (q := 94) dX9_soonest_93 rfl ?_
            rw [n_add]
            refine r_istore_n (q := 95) dX9_soonest_94 (Nat.le_of_ble_eq_true rfl) rfl rfl ?_
            show AW _ (_, _, _, _, _, _, _, _, _) _ _ _ _ [some _, some _, some _, some _, some _] _ _
            refine r_iload_n (q := 96) dX9_soonest_95 rfl rfl ?_
            refine r_bipush (v := nI 20) (q := 98) dX9_soonest_96 (by decide) rfl ?_
            refine r_icmp_le (t := 106) (q := 101) dX9_soonest_98 rfl rfl (fun c98 => ?_) (fun c98 => ?_)
            · simp (disch := omega) only [nI_leI, nI_ltI, nI_eq, nI_lt0, nI_ge0, nI_gt0, nI_le0, nI_eq0] at c98
              refine r_iload_n (q := 107) dX9_soonest_106 rfl rfl ?_
              refine r_istore_n (q := 108) dX9_soonest_107 (Nat.le_of_ble_eq_true rfl) rfl rfl ?_
              show AW _ (_, _, _, _, _, _, _, _, _) _ _ _ _ [some _, some _, some _, some _, some _] _ _
              refine r_iload_n (q := 109) dX9_soonest_108 rfl rfl ?_
              refine r_iload_n (q := 110) dX9_soonest_109 rfl rfl ?_
              refine r_if_le (t := 117) (q := 113) dX9_soonest_110 rfl rfl (fun c110 => ?_) (fun c110 => ?_)
              · simp (disch := omega) only [nI_leI, nI_ltI, nI_eq, nI_lt0, nI_ge0, nI_gt0, nI_le0, nI_eq0] at c110
                refine r_iconst (v := nI 0) (q := 118) dX9_soonest_117 (by decide) rfl ?_
                refine r_isub (q := 119) dX9_soonest_118 rfl ?_
                rw [n_sub (by omega)]
                refine r_istore_n (q := 120) dX9_soonest_119 (Nat.le_of_ble_eq_true rfl) rfl rfl ?_
                show AW _ (_, _, _, _, _, _, _, _, _) _ _ _ _ [some _, some _, some _, some _, some _] _ _
                refine r_inc1 (q := 123) dX9_soonest_120 rfl (Nat.le_of_ble_eq_true rfl) rfl rfl ?_
                show AW _ (_, _, _, _, _, _, _, _, _) _ _ _ _ [some _, some _, some _, some _, some _] _ _
                refine r_goto (t := 55) dX9_soonest_123 rfl ?_
                first
                  | (exfalso; omega)
                  | (refine ih _ (by rw [if_neg (Nat.succ_ne_zero w)]; split <;> omega) (w + 1) f _ _ rfl (by rw [if_neg (Nat.succ_ne_zero w)]; split at hf <;> omega) (by omega) (by omega) (by omega) ?_
                     rw [dn1]
                     exact gWt_Q (P := fun n => Q (some (.int (nI n))) M1) hQ1 (by first | exact Or.inr (Or.inl (by omega)) | exact Or.inr (Or.inr (by omega)) | exact Or.inl (decide_eq_true ⟨by omega, by omega⟩)) (by omega) (by split <;> omega))
              · simp (disch := omega) only [nI_leI, nI_ltI, nI_eq, nI_lt0, nI_ge0, nI_gt0, nI_le0, nI_eq0] at c110
                refine r_iconst (v := nI 1) (q := 114) dX9_soonest_113 (by decide) rfl ?_
                refine r_goto (t := 118) dX9_soonest_114 rfl ?_
                refine r_isub (q := 119) dX9_soonest_118 rfl ?_
                rw [n_sub (by omega)]
                refine r_istore_n (q := 120) dX9_soonest_119 (Nat.le_of_ble_eq_true rfl) rfl rfl ?_
                show AW _ (_, _, _, _, _, _, _, _, _) _ _ _ _ [some _, some _, some _, some _, some _] _ _
                refine r_inc1 (q := 123) dX9_soonest_120 rfl (Nat.le_of_ble_eq_true rfl) rfl rfl ?_
                show AW _ (_, _, _, _, _, _, _, _, _) _ _ _ _ [some _, some _, some _, some _, some _] _ _
                refine r_goto (t := 55) dX9_soonest_123 rfl ?_
                first
                  | (exfalso; omega)
                  | (refine ih _ (by rw [if_neg (Nat.succ_ne_zero w)]; split <;> omega) (w + 1) f _ _ rfl (by rw [if_neg (Nat.succ_ne_zero w)]; split at hf <;> omega) (by omega) (by omega) (by omega) ?_
                     rw [dn1]
                     exact gWt_Q (P := fun n => Q (some (.int (nI n))) M1) hQ1 (by first | exact Or.inr (Or.inl (by omega)) | exact Or.inr (Or.inr (by omega)) | exact Or.inl (decide_eq_true ⟨by omega, by omega⟩)) (by omega) (by split <;> omega))
            · simp (disch := omega) only [nI_leI, nI_ltI, nI_eq, nI_lt0, nI_ge0, nI_gt0, nI_le0, nI_eq0] at c98
              refine r_bipush (v := nI 20) (q := 103) dX9_soonest_101 (by decide) rfl ?_
              refine r_goto (t := 107) dX9_soonest_103 rfl ?_
              refine r_istore_n (q := 108) dX9_soonest_107 (Nat.le_of_ble_eq_true rfl) rfl rfl ?_
              show AW _ (_, _, _, _, _, _, _, _, _) _ _ _ _ [some _, some _, some _, some _, some _] _ _
              refine r_iload_n (q := 109) dX9_soonest_108 rfl rfl ?_
              refine r_iload_n (q := 110) dX9_soonest_109 rfl rfl ?_
              refine r_if_le (t := 117) (q := 113) dX9_soonest_110 rfl rfl (fun c110 => ?_) (fun c110 => ?_)
              · simp (disch := omega) only [nI_leI, nI_ltI, nI_eq, nI_lt0, nI_ge0, nI_gt0, nI_le0, nI_eq0] at c110
                refine r_iconst (v := nI 0) (q := 118) dX9_soonest_117 (by decide) rfl ?_
                refine r_isub (q := 119) dX9_soonest_118 rfl ?_
                rw [n_sub (by omega)]
                refine r_istore_n (q := 120) dX9_soonest_119 (Nat.le_of_ble_eq_true rfl) rfl rfl ?_
                show AW _ (_, _, _, _, _, _, _, _, _) _ _ _ _ [some _, some _, some _, some _, some _] _ _
                refine r_inc1 (q := 123) dX9_soonest_120 rfl (Nat.le_of_ble_eq_true rfl) rfl rfl ?_
                show AW _ (_, _, _, _, _, _, _, _, _) _ _ _ _ [some _, some _, some _, some _, some _] _ _
                refine r_goto (t := 55) dX9_soonest_123 rfl ?_
                first
                  | (exfalso; omega)
                  | (refine ih _ (by rw [if_neg (Nat.succ_ne_zero w)]; split <;> omega) (w + 1) f _ _ rfl (by rw [if_neg (Nat.succ_ne_zero w)]; split at hf <;> omega) (by omega) (by omega) (by omega) ?_
                     rw [dn1]
                     exact gWt_Q (P := fun n => Q (some (.int (nI n))) M1) hQ1 (by first | exact Or.inr (Or.inl (by omega)) | exact Or.inr (Or.inr (by omega)) | exact Or.inl (decide_eq_true ⟨by omega, by omega⟩)) (by omega) (by split <;> omega))
              · simp (disch := omega) only [nI_leI, nI_ltI, nI_eq, nI_lt0, nI_ge0, nI_gt0, nI_le0, nI_eq0] at c110
                refine r_iconst (v := nI 1) (q := 114) dX9_soonest_113 (by decide) rfl ?_
                refine r_goto (t := 118) dX9_soonest_114 rfl ?_
                refine r_isub (q := 119) dX9_soonest_118 rfl ?_
                rw [n_sub (by omega)]
                refine r_istore_n (q := 120) dX9_soonest_119 (Nat.le_of_ble_eq_true rfl) rfl rfl ?_
                show AW _ (_, _, _, _, _, _, _, _, _) _ _ _ _ [some _, some _, some _, some _, some _] _ _
                refine r_inc1 (q := 123) dX9_soonest_120 rfl (Nat.le_of_ble_eq_true rfl) rfl rfl ?_
                show AW _ (_, _, _, _, _, _, _, _, _) _ _ _ _ [some _, some _, some _, some _, some _] _ _
                refine r_goto (t := 55) dX9_soonest_123 rfl ?_
                first
                  | (exfalso; omega)
                  | (refine ih _ (by rw [if_neg (Nat.succ_ne_zero w)]; split <;> omega) (w + 1) f _ _ rfl (by rw [if_neg (Nat.succ_ne_zero w)]; split at hf <;> omega) (by omega) (by omega) (by omega) ?_
                     rw [dn1]
                     exact gWt_Q (P := fun n => Q (some (.int (nI n))) M1) hQ1 (by first | exact Or.inr (Or.inl (by omega)) | exact Or.inr (Or.inr (by omega)) | exact Or.inl (decide_eq_true ⟨by omega, by omega⟩)) (by omega) (by split <;> omega))
        · simp (disch := omega) only [nI_leI, nI_ltI, nI_eq, nI_lt0, nI_ge0, nI_gt0, nI_le0, nI_eq0] at c65
          refine r_iload (q := 70) dX9_soonest_68 rfl rfl ?_
          refine r_if_ne (t := 126) (q := 73) dX9_soonest_70 rfl rfl (fun c70 => ?_) (fun c70 => ?_)
          · simp (disch := omega) only [nI_leI, nI_ltI, nI_eq, nI_lt0, nI_ge0, nI_gt0, nI_le0, nI_eq0] at c70
            refine r_iload (q := 128) dX9_soonest_126 rfl rfl ?_
            refine r_iret dX9_soonest_128 ?_
            rw [gWt_f (by simp only [decide_eq_true_eq]; omega), Nat.add_zero] at hQ1
            exact hQ1
          · simp (disch := omega) only [nI_leI, nI_ltI, nI_eq, nI_lt0, nI_ge0, nI_gt0, nI_le0, nI_eq0] at c70
            refine r_aload_n (q := 74) dX9_soonest_73 rfl rfl ?_
            refine r_iload_n (q := 75) dX9_soonest_74 rfl rfl ?_
            refine r_bipush (v := nI 9) (q := 77) dX9_soonest_75 (by decide) rfl ?_
            refine r_cV (q := 80) (As := [.int _, .int _]) wc_X9_108 rfl im_X9_lv se_X9_lv h1.m rfl rfl (Nat.le_of_ble_eq_true rfl) (Nat.le_of_eq (Nat.zero_add _)) (Nat.le_of_eq (Nat.zero_add _)) dX9_soonest_77 rfl rfl (x_lv h1 (by omega) (by decide) ?_)
            intro b77
            try simp only [gA_sNe, gA_s] at b77 ⊢
            refine r_if_le (t := 126) (q := 83) dX9_soonest_80 rfl rfl (fun c80 => ?_) (fun c80 => ?_)
            · simp (disch := omega) only [nI_leI, nI_ltI, nI_eq, nI_lt0, nI_ge0, nI_gt0, nI_le0, nI_eq0] at c80
              refine r_iload (q := 128) dX9_soonest_126 rfl rfl ?_
              refine r_iret dX9_soonest_128 ?_
              rw [gWt_f (by simp only [decide_eq_true_eq]; omega), Nat.add_zero] at hQ1
              exact hQ1
            · simp (disch := omega) only [nI_leI, nI_ltI, nI_eq, nI_lt0, nI_ge0, nI_gt0, nI_le0, nI_eq0] at c80
              refine r_iload_n (q := 84) dX9_soonest_83 rfl rfl ?_
              refine r_iload_n (q := 85) dX9_soonest_84 rfl rfl ?_
              refine r_if_le (t := 92) (q := 88) dX9_soonest_85 rfl rfl (fun c85 => ?_) (fun c85 => ?_)
              · simp (disch := omega) only [nI_leI, nI_ltI, nI_eq, nI_lt0, nI_ge0, nI_gt0, nI_le0, nI_eq0] at c85
                refine r_iconst (v := nI 2) (q := 93) dX9_soonest_92 (by decide) rfl ?_
                refine r_iadd (q := 94) dX9_soonest_93 rfl ?_
                rw [n_add]
                refine r_istore_n (q := 95) dX9_soonest_94 (Nat.le_of_ble_eq_true rfl) rfl rfl ?_
                show AW _ (_, _, _, _, _, _, _, _, _) _ _ _ _ [some _, some _, some _, some _, some _] _ _
                refine r_iload_n (q := 96) dX9_soonest_95 rfl rfl ?_
                refine r_bipush (v := nI 20) (q := 98) dX9_soonest_96 (by decide) rfl ?_
                refine r_icmp_le (t := 106) (q := 101) dX9_soonest_98 rfl rfl (fun c98 => ?_) (fun c98 => ?_)
                · simp (disch := omega) only [nI_leI, nI_ltI, nI_eq, nI_lt0, nI_ge0, nI_gt0, nI_le0, nI_eq0] at c98
                  refine r_iload_n (q := 107) dX9_soonest_106 rfl rfl ?_
                  refine r_istore_n (q := 108) dX9_soonest_107 (Nat.le_of_ble_eq_true rfl) rfl rfl ?_
                  show AW _ (_, _, _, _, _, _, _, _, _) _ _ _ _ [some _, some _, some _, some _, some _] _ _
                  refine r_iload_n (q := 109) dX9_soonest_108 rfl rfl ?_
                  refine r_iload_n (q := 110) dX9_soonest_109 rfl rfl ?_
                  refine r_if_le (t := 117) (q := 113) dX9_soonest_110 rfl rfl (fun c110 => ?_) (fun c110 => ?_)
                  · simp (disch := omega) only [nI_leI, nI_ltI, nI_eq, nI_lt0, nI_ge0, nI_gt0, nI_le0, nI_eq0] at c110
                    refine r_iconst (v := nI 0) (q := 118) dX9_soonest_117 (by decide) rfl ?_
                    refine r_isub (q := 119) dX9_soonest_118 rfl ?_
                    rw [n_sub (by omega)]
                    refine r_istore_n (q := 120) dX9_soonest_119 (Nat.le_of_ble_eq_true rfl) rfl rfl ?_
                    show AW _ (_, _, _, _, _, _, _, _, _) _ _ _ _ [some _, some _, some _, some _, some _] _ _
                    refine r_inc1 (q := 123) dX9_soonest_120 rfl (Nat.le_of_ble_eq_true rfl) rfl rfl ?_
                    show AW _ (_, _, _, _, _, _, _, _, _) _ _ _ _ [some _, some _, some _, some _, some _] _ _
                    refine r_goto (t := 55) dX9_soonest_123 rfl ?_
                    first
                      | (exfalso; omega)
                      | (refine ih _ (by rw [if_neg (Nat.succ_ne_zero w)]; split <;> omega) (w + 1) f _ _ rfl (by rw [if_neg (Nat.succ_ne_zero w)]; split at hf <;> omega) (by omega) (by omega) (by omega) ?_
                         rw [dn1]
                         exact gWt_Q (P := fun n => Q (some (.int (nI n))) M1) hQ1 (by first | exact Or.inr (Or.inl (by omega)) | exact Or.inr (Or.inr (by omega)) | exact Or.inl (decide_eq_true ⟨by omega, by omega⟩)) (by omega) (by split <;> omega))
                  · simp (disch := omega) only [nI_leI, nI_ltI, nI_eq, nI_lt0, nI_ge0, nI_gt0, nI_le0, nI_eq0] at c110
                    refine r_iconst (v := nI 1) (q := 114) dX9_soonest_113 (by decide) rfl ?_
                    refine r_goto (t := 118) dX9_soonest_114 rfl ?_
                    refine r_isub (q := 119) dX9_soonest_118 rfl ?_
                    rw [n_sub (by omega)]
                    refine r_istore_n (q := 120) dX9_soonest_119 (Nat.le_of_ble_eq_true rfl) rfl rfl ?_
                    show AW _ (_, _, _, _, _, _, _, _, _) _ _ _ _ [some _, some _, some _, some _, some _] _ _
                    refine r_inc1 (q := 123) dX9_soonest_120 rfl (Nat.le_of_ble_eq_true rfl) rfl rfl ?_
                    show AW _ (_, _, _, _, _, _, _, _, _) _ _ _ _ [some _, some _, some _, some _, some _] _ _
                    refine r_goto (t := 55) dX9_soonest_123 rfl ?_
                    first
                      | (exfalso; omega)
                      | (refine ih _ (by rw [if_neg (Nat.succ_ne_zero w)]; split <;> omega) (w + 1) f _ _ rfl (by rw [if_neg (Nat.succ_ne_zero w)]; split at hf <;> omega) (by omega) (by omega) (by omega) ?_
                         rw [dn1]
                         exact gWt_Q (P := fun n => Q (some (.int (nI n))) M1) hQ1 (by first | exact Or.inr (Or.inl (by omega)) | exact Or.inr (Or.inr (by omega)) | exact Or.inl (decide_eq_true ⟨by omega, by omega⟩)) (by omega) (by split <;> omega))
                · simp (disch := omega) only [nI_leI, nI_ltI, nI_eq, nI_lt0, nI_ge0, nI_gt0, nI_le0, nI_eq0] at c98
                  refine r_bipush (v := nI 20) (q := 103) dX9_soonest_101 (by decide) rfl ?_
                  refine r_goto (t := 107) dX9_soonest_103 rfl ?_
                  refine r_istore_n (q := 108) dX9_soonest_107 (Nat.le_of_ble_eq_true rfl) rfl rfl ?_
                  show AW _ (_, _, _, _, _, _, _, _, _) _ _ _ _ [some _, some _, some _, some _, some _] _ _
                  refine r_iload_n (q := 109) dX9_soonest_108 rfl rfl ?_
                  refine r_iload_n (q := 110) dX9_soonest_109 rfl rfl ?_
                  refine r_if_le (t := 117) (q := 113) dX9_soonest_110 rfl rfl (fun c110 => ?_) (fun c110 => ?_)
                  · simp (disch := omega) only [nI_leI, nI_ltI, nI_eq, nI_lt0, nI_ge0, nI_gt0, nI_le0, nI_eq0] at c110
                    refine r_iconst (v := nI 0) (q := 118) dX9_soonest_117 (by decide) rfl ?_
                    refine r_isub (q := 119) dX9_soonest_118 rfl ?_
                    rw [n_sub (by omega)]
                    refine r_istore_n (q := 120) dX9_soonest_119 (Nat.le_of_ble_eq_true rfl) rfl rfl ?_
                    show AW _ (_, _, _, _, _, _, _, _, _) _ _ _ _ [some _, some _, some _, some _, some _] _ _
                    refine r_inc1 (q := 123) dX9_soonest_120 rfl (Nat.le_of_ble_eq_true rfl) rfl rfl ?_
                    show AW _ (_, _, _, _, _, _, _, _, _) _ _ _ _ [some _, some _, some _, some _, some _] _ _
                    refine r_goto (t := 55) dX9_soonest_123 rfl ?_
                    first
                      | (exfalso; omega)
                      | (refine ih _ (by rw [if_neg (Nat.succ_ne_zero w)]; split <;> omega) (w + 1) f _ _ rfl (by rw [if_neg (Nat.succ_ne_zero w)]; split at hf <;> omega) (by omega) (by omega) (by omega) ?_
                         rw [dn1]
                         exact gWt_Q (P := fun n => Q (some (.int (nI n))) M1) hQ1 (by first | exact Or.inr (Or.inl (by omega)) | exact Or.inr (Or.inr (by omega)) | exact Or.inl (decide_eq_true ⟨by omega, by omega⟩)) (by omega) (by split <;> omega))
                  · simp (disch := omega) only [nI_leI, nI_ltI, nI_eq, nI_lt0, nI_ge0, nI_gt0, nI_le0, nI_eq0] at c110
                    refine r_iconst (v := nI 1) (q := 114) dX9_soonest_113 (by decide) rfl ?_
                    refine r_goto (t := 118) dX9_soonest_114 rfl ?_
                    refine r_isub (q := 119) dX9_soonest_118 rfl ?_
                    rw [n_sub (by omega)]
                    refine r_istore_n (q := 120) dX9_soonest_119 (Nat.le_of_ble_eq_true rfl) rfl rfl ?_
                    show AW _ (_, _, _, _, _, _, _, _, _) _ _ _ _ [some _, some _, some _, some _, some _] _ _
                    refine r_inc1 (q := 123) dX9_soonest_120 rfl (Nat.le_of_ble_eq_true rfl) rfl rfl ?_
                    show AW _ (_, _, _, _, _, _, _, _, _) _ _ _ _ [some _, some _, some _, some _, some _] _ _
                    refine r_goto (t := 55) dX9_soonest_123 rfl ?_
                    first
                      | (exfalso; omega)
                      | (refine ih _ (by rw [if_neg (Nat.succ_ne_zero w)]; split <;> omega) (w + 1) f _ _ rfl (by rw [if_neg (Nat.succ_ne_zero w)]; split at hf <;> omega) (by omega) (by omega) (by omega) ?_
                         rw [dn1]
                         exact gWt_Q (P := fun n => Q (some (.int (nI n))) M1) hQ1 (by first | exact Or.inr (Or.inl (by omega)) | exact Or.inr (Or.inr (by omega)) | exact Or.inl (decide_eq_true ⟨by omega, by omega⟩)) (by omega) (by split <;> omega))
              · simp (disch := omega) only [nI_leI, nI_ltI, nI_eq, nI_lt0, nI_ge0, nI_gt0, nI_le0, nI_eq0] at c85
                refine r_iconst (v := nI 0) (q := 89) dX9_soonest_88 (by decide) rfl ?_
                refine r_goto (t := 93) dX9_soonest_89 rfl ?_
                refine r_iadd (q := 94) dX9_soonest_93 rfl ?_
                rw [n_add]
                refine r_istore_n (q := 95) dX9_soonest_94 (Nat.le_of_ble_eq_true rfl) rfl rfl ?_
                show AW _ (_, _, _, _, _, _, _, _, _) _ _ _ _ [some _, some _, some _, some _, some _] _ _
                refine r_iload_n (q := 96) dX9_soonest_95 rfl rfl ?_
                refine r_bipush (v := nI 20) (q := 98) dX9_soonest_96 (by decide) rfl ?_
                refine r_icmp_le (t := 106) (q := 101) dX9_soonest_98 rfl rfl (fun c98 => ?_) (fun c98 => ?_)
                · simp (disch := omega) only [nI_leI, nI_ltI, nI_eq, nI_lt0, nI_ge0, nI_gt0, nI_le0, nI_eq0] at c98
                  refine r_iload_n (q := 107) dX9_soonest_106 rfl rfl ?_
                  refine r_istore_n (q := 108) dX9_soonest_107 (Nat.le_of_ble_eq_true rfl) rfl rfl ?_
                  show AW _ (_, _, _, _, _, _, _, _, _) _ _ _ _ [some _, some _, some _, some _, some _] _ _
                  refine r_iload_n (q := 109) dX9_soonest_108 rfl rfl ?_
                  refine r_iload_n (q := 110) dX9_soonest_109 rfl rfl ?_
                  refine r_if_le (t := 117) (q := 113) dX9_soonest_110 rfl rfl (fun c110 => ?_) (fun c110 => ?_)
                  · simp (disch := omega) only [nI_leI, nI_ltI, nI_eq, nI_lt0, nI_ge0, nI_gt0, nI_le0, nI_eq0] at c110
                    refine r_iconst (v := nI 0) (q := 118) dX9_soonest_117 (by decide) rfl ?_
                    refine r_isub (q := 119) dX9_soonest_118 rfl ?_
                    rw [n_sub (by omega)]
                    refine r_istore_n (q := 120) dX9_soonest_119 (Nat.le_of_ble_eq_true rfl) rfl rfl ?_
                    show AW _ (_, _, _, _, _, _, _, _, _) _ _ _ _ [some _, some _, some _, some _, some _] _ _
                    refine r_inc1 (q := 123) dX9_soonest_120 rfl (Nat.le_of_ble_eq_true rfl) rfl rfl ?_
                    show AW _ (_, _, _, _, _, _, _, _, _) _ _ _ _ [some _, some _, some _, some _, some _] _ _
                    refine r_goto (t := 55) dX9_soonest_123 rfl ?_
                    first
                      | (exfalso; omega)
                      | (refine ih _ (by rw [if_neg (Nat.succ_ne_zero w)]; split <;> omega) (w + 1) f _ _ rfl (by rw [if_neg (Nat.succ_ne_zero w)]; split at hf <;> omega) (by omega) (by omega) (by omega) ?_
                         rw [dn1]
                         exact gWt_Q (P := fun n => Q (some (.int (nI n))) M1) hQ1 (by first | exact Or.inr (Or.inl (by omega)) | exact Or.inr (Or.inr (by omega)) | exact Or.inl (decide_eq_true ⟨by omega, by omega⟩)) (by omega) (by split <;> omega))
                  · simp (disch := omega) only [nI_leI, nI_ltI, nI_eq, nI_lt0, nI_ge0, nI_gt0, nI_le0, nI_eq0] at c110
                    refine r_iconst (v := nI 1) (q := 114) dX9_soonest_113 (by decide) rfl ?_
                    refine r_goto (t := 118) dX9_soonest_114 rfl ?_
                    refine r_isub (q := 119) dX9_soonest_118 rfl ?_
                    rw [n_sub (by omega)]
                    refine r_istore_n (q := 120) dX9_soonest_119 (Nat.le_of_ble_eq_true rfl) rfl rfl ?_
                    show AW _ (_, _, _, _, _, _, _, _, _) _ _ _ _ [some _, some _, some _, some _, some _] _ _
                    refine r_inc1 (q := 123) dX9_soonest_120 rfl (Nat.le_of_ble_eq_true rfl) rfl rfl ?_
                    show AW _ (_, _, _, _, _, _, _, _, _) _ _ _ _ [some _, some _, some _, some _, some _] _ _
                    refine r_goto (t := 55) dX9_soonest_123 rfl ?_
                    first
                      | (exfalso; omega)
                      | (refine ih _ (by rw [if_neg (Nat.succ_ne_zero w)]; split <;> omega) (w + 1) f _ _ rfl (by rw [if_neg (Nat.succ_ne_zero w)]; split at hf <;> omega) (by omega) (by omega) (by omega) ?_
                         rw [dn1]
                         exact gWt_Q (P := fun n => Q (some (.int (nI n))) M1) hQ1 (by first | exact Or.inr (Or.inl (by omega)) | exact Or.inr (Or.inr (by omega)) | exact Or.inl (decide_eq_true ⟨by omega, by omega⟩)) (by omega) (by split <;> omega))
                · simp (disch := omega) only [nI_leI, nI_ltI, nI_eq, nI_lt0, nI_ge0, nI_gt0, nI_le0, nI_eq0] at c98
                  refine r_bipush (v := nI 20) (q := 103) dX9_soonest_101 (by decide) rfl ?_
                  refine r_goto (t := 107) dX9_soonest_103 rfl ?_
                  refine r_istore_n (q := 108) dX9_soonest_107 (Nat.le_of_ble_eq_true rfl) rfl rfl ?_
                  show AW _ (_, _, _, _, _, _, _, _, _) _ _ _ _ [some _, some _, some _, some _, some _] _ _
                  refine r_iload_n (q := 109) dX9_soonest_108 rfl rfl ?_
                  refine r_iload_n (q := 110) dX9_soonest_109 rfl rfl ?_
                  refine r_if_le (t := 117) (q := 113) dX9_soonest_110 rfl rfl (fun c110 => ?_) (fun c110 => ?_)
                  · simp (disch := omega) only [nI_leI, nI_ltI, nI_eq, nI_lt0, nI_ge0, nI_gt0, nI_le0, nI_eq0] at c110
                    refine r_iconst (v := nI 0) (q := 118) dX9_soonest_117 (by decide) rfl ?_
                    refine r_isub (q := 119) dX9_soonest_118 rfl ?_
                    rw [n_sub (by omega)]
                    refine r_istore_n (q := 120) dX9_soonest_119 (Nat.le_of_ble_eq_true rfl) rfl rfl ?_
                    show AW _ (_, _, _, _, _, _, _, _, _) _ _ _ _ [some _, some _, some _, some _, some _] _ _
                    refine r_inc1 (q := 123) dX9_soonest_120 rfl (Nat.le_of_ble_eq_true rfl) rfl rfl ?_
                    show AW _ (_, _, _, _, _, _, _, _, _) _ _ _ _ [some _, some _, some _, some _, some _] _ _
                    refine r_goto (t := 55) dX9_soonest_123 rfl ?_
                    first
                      | (exfalso; omega)
                      | (refine ih _ (by rw [if_neg (Nat.succ_ne_zero w)]; split <;> omega) (w + 1) f _ _ rfl (by rw [if_neg (Nat.succ_ne_zero w)]; split at hf <;> omega) (by omega) (by omega) (by omega) ?_
                         rw [dn1]
                         exact gWt_Q (P := fun n => Q (some (.int (nI n))) M1) hQ1 (by first | exact Or.inr (Or.inl (by omega)) | exact Or.inr (Or.inr (by omega)) | exact Or.inl (decide_eq_true ⟨by omega, by omega⟩)) (by omega) (by split <;> omega))
                  · simp (disch := omega) only [nI_leI, nI_ltI, nI_eq, nI_lt0, nI_ge0, nI_gt0, nI_le0, nI_eq0] at c110
                    refine r_iconst (v := nI 1) (q := 114) dX9_soonest_113 (by decide) rfl ?_
                    refine r_goto (t := 118) dX9_soonest_114 rfl ?_
                    refine r_isub (q := 119) dX9_soonest_118 rfl ?_
                    rw [n_sub (by omega)]
                    refine r_istore_n (q := 120) dX9_soonest_119 (Nat.le_of_ble_eq_true rfl) rfl rfl ?_
                    show AW _ (_, _, _, _, _, _, _, _, _) _ _ _ _ [some _, some _, some _, some _, some _] _ _
                    refine r_inc1 (q := 123) dX9_soonest_120 rfl (Nat.le_of_ble_eq_true rfl) rfl rfl ?_
                    show AW _ (_, _, _, _, _, _, _, _, _) _ _ _ _ [some _, some _, some _, some _, some _] _ _
                    refine r_goto (t := 55) dX9_soonest_123 rfl ?_
                    first
                      | (exfalso; omega)
                      | (refine ih _ (by rw [if_neg (Nat.succ_ne_zero w)]; split <;> omega) (w + 1) f _ _ rfl (by rw [if_neg (Nat.succ_ne_zero w)]; split at hf <;> omega) (by omega) (by omega) (by omega) ?_
                         rw [dn1]
                         exact gWt_Q (P := fun n => Q (some (.int (nI n))) M1) hQ1 (by first | exact Or.inr (Or.inl (by omega)) | exact Or.inr (Or.inr (by omega)) | exact Or.inl (decide_eq_true ⟨by omega, by omega⟩)) (by omega) (by split <;> omega))
    exact loop _ 0 1000 _ _ rfl (by rw [if_pos rfl]; omega) hs20 (by decide) (by omega) (by rw [Nat.zero_add, show decide (0 = 0 ∧ 0 < lF F l 9) = decide (0 < lF F l 9) by simp]; exact hQ1)
  refine MS.of (by decide) (by simp [Value.category]) (Nat.le_of_ble_eq_true rfl) ?_
  show AW _ (_, _, _, _, _, _, _, _, _) _ _ _ _ [some _, some _, _, _, _] _ _
  refine r_aload_n (q := 1) dX9_soonest_0 rfl rfl ?_
  refine r_iload_n (q := 2) dX9_soonest_1 rfl rfl ?_
  refine r_cS (q := 5) (As := [.int _]) wc_X9_133 st_X9_isLine rfl (Nat.le_of_ble_eq_true rfl) (Nat.le_of_eq (Nat.zero_add _)) (Nat.le_of_eq (Nat.zero_add _)) dX9_soonest_2 rfl rfl (s_X9_isLine ?_)
  refine r_if_ne (t := 12) (q := 8) dX9_soonest_5 rfl rfl (fun c5 => ?_) (fun c5 => ?_)
  · obtain ⟨j, hj, rfl⟩ := isL_t (bI_ne c5)
    have ij : ¬ isL (nI j) = false := fun g => c5 (bI_eq0.mpr g)
    refine r_aload_n (q := 13) dX9_soonest_12 rfl rfl ?_
    refine r_iload_n (q := 14) dX9_soonest_13 rfl rfl ?_
    refine r_iconst (v := nI 0) (q := 15) dX9_soonest_14 (by decide) rfl ?_
    refine r_cV (q := 18) (As := [.int _, .int _]) wc_X9_108 rfl im_X9_lv se_X9_lv h.m rfl rfl (Nat.le_of_ble_eq_true rfl) (Nat.le_of_eq (Nat.zero_add _)) (Nat.le_of_eq (Nat.zero_add _)) dX9_soonest_15 rfl rfl (x_lv h (by omega) (by decide) ?_)
    intro b15
    refine r_if_ne (t := 25) (q := 21) dX9_soonest_18 rfl rfl (fun c18 => ?_) (fun c18 => ?_)
    · have c18b : ¬ lF (gA μ 0) j 0 = 0 := fun g => c18 (by rw [g]; rfl)
      have e : mqSo (gA μ 0) (nI j) = (0, nI (gWt (mSt (gA μ 0) j) 1000 (lF (gA μ 0) j 5) (lF (gA μ 0) j 3) (decide (0 < lF (gA μ 0) j 9)))) := by rw [mqSo, if_neg ij, nI_c7 (by omega), if_neg c18b]
      rw [e] at hQ
      refine r_iconst (v := nI 0) (q := 26) dX9_soonest_25 (by decide) rfl ?_
      refine r_p9 (q := 29) (kk := 4) (j := 4) h (by decide) rfl fk_X9_22 dX9_soonest_26 rfl fun M_26 h_26 => ?_
      refine r_aload_n (q := 30) dX9_soonest_29 rfl rfl ?_
      refine r_get (q := 33) (kk := 4) h_26.m rfl wi_RX9 (by decide) rfl fk_X9_22 rfl dX9_soonest_30 rfl ?_
      rw [gN_sNs]
      refine r_if_le (t := 38) (q := 36) dX9_soonest_33 rfl rfl (fun c33 => ?_) (fun c33 => ?_)
      · refine r_aload_n (q := 39) dX9_soonest_38 rfl rfl ?_
        refine r_iload_n (q := 40) dX9_soonest_39 rfl rfl ?_
        refine r_iconst (v := nI 5) (q := 41) dX9_soonest_40 (by decide) rfl ?_
        refine r_cV (q := 44) (As := [.int _, .int _]) wc_X9_108 rfl im_X9_lv se_X9_lv h_26.m rfl rfl (Nat.le_of_ble_eq_true rfl) (Nat.le_of_eq (Nat.zero_add _)) (Nat.le_of_eq (Nat.zero_add _)) dX9_soonest_41 rfl rfl (x_lv h_26 (by omega) (by decide) ?_)
        intro b41
        try simp only [gA_sNe, gA_s] at b41 ⊢
        refine r_istore_n (q := 45) dX9_soonest_44 (Nat.le_of_ble_eq_true rfl) rfl rfl ?_
        show AW _ (_, _, _, _, _, _, _, _, _) _ _ _ _ [some _, some _, some _, _, _] _ _
        refine r_aload_n (q := 46) dX9_soonest_45 rfl rfl ?_
        refine r_iload_n (q := 47) dX9_soonest_46 rfl rfl ?_
        refine r_iconst (v := nI 3) (q := 48) dX9_soonest_47 (by decide) rfl ?_
        refine r_cV (q := 51) (As := [.int _, .int _]) wc_X9_108 rfl im_X9_lv se_X9_lv h_26.m rfl rfl (Nat.le_of_ble_eq_true rfl) (Nat.le_of_eq (Nat.zero_add _)) (Nat.le_of_eq (Nat.zero_add _)) dX9_soonest_48 rfl rfl (x_lv h_26 (by omega) (by decide) ?_)
        intro b48
        try simp only [gA_sNe, gA_s] at b48 ⊢
        refine r_istore_n (q := 52) dX9_soonest_51 (Nat.le_of_ble_eq_true rfl) rfl rfl ?_
        show AW _ (_, _, _, _, _, _, _, _, _) _ _ _ _ [some _, some _, some _, some _, _] _ _
        refine r_iconst (v := nI 0) (q := 53) dX9_soonest_52 (by decide) rfl ?_
        refine r_istore (q := 55) dX9_soonest_53 (Nat.le_of_ble_eq_true rfl) rfl rfl ?_
        show AW _ (_, _, _, _, _, _, _, _, _) _ _ _ _ [some _, some _, some _, some _, some _] _ _
        exact okp j _ (gA μ 0) (sN μ 4 (nI 0)) hj (hbw j hj) (hb j hj).1 (hb j hj).2 (RM.toA h_26 0) (hQ _ h_26)
      · exact absurd (show nI 0 ≤ 0 by decide) c33
    · have c18b : lF (gA μ 0) j 0 = 0 := (nI_eq b15 (by decide)).mp c18
      have e : mqSo (gA μ 0) (nI j) = (2, 0) := by rw [mqSo, if_neg ij, nI_c7 (by omega), if_pos c18b]
      rw [e] at hQ
      refine r_iconst (v := nI 2) (q := 22) dX9_soonest_21 (by decide) rfl ?_
      refine r_goto (t := 26) dX9_soonest_22 rfl ?_
      refine r_p9 (q := 29) (kk := 4) (j := 4) h (by decide) rfl fk_X9_22 dX9_soonest_26 rfl fun M_26 h_26 => ?_
      refine r_aload_n (q := 30) dX9_soonest_29 rfl rfl ?_
      refine r_get (q := 33) (kk := 4) h_26.m rfl wi_RX9 (by decide) rfl fk_X9_22 rfl dX9_soonest_30 rfl ?_
      rw [gN_sNs]
      refine r_if_le (t := 38) (q := 36) dX9_soonest_33 rfl rfl (fun c33 => ?_) (fun c33 => ?_)
      · exact absurd c33 (by decide)
      · refine r_iconst (v := nI 0) (q := 37) dX9_soonest_36 (by decide) rfl ?_
        refine r_iret dX9_soonest_37 ?_
        exact hQ _ h_26
  · rw [show mqSo (gA μ 0) l = (1, 0) from if_pos (bI_eq0.mp c5)] at hQ
    refine r_iconst (v := nI 1) (q := 9) dX9_soonest_8 (by decide) rfl ?_
    refine r_goto (t := 26) dX9_soonest_9 rfl ?_
    refine r_p9 (q := 29) (kk := 4) (j := 4) h (by decide) rfl fk_X9_22 dX9_soonest_26 rfl fun M_26 h_26 => ?_
    refine r_aload_n (q := 30) dX9_soonest_29 rfl rfl ?_
    refine r_get (q := 33) (kk := 4) h_26.m rfl wi_RX9 (by decide) rfl fk_X9_22 rfl dX9_soonest_30 rfl ?_
    rw [gN_sNs]
    refine r_if_le (t := 38) (q := 36) dX9_soonest_33 rfl rfl (fun c33 => ?_) (fun c33 => ?_)
    · exact absurd c33 (by decide)
    · refine r_iconst (v := nI 0) (q := 37) dX9_soonest_36 (by decide) rfl ?_
      refine r_iret dX9_soonest_37 ?_
      exact hQ _ h_26
def mw (m : Int32) : Nat := if m = 0 then 2 else if m = nI 1 then 3 else 6
def mAhd (F : Nat → Nat) (w l o : Nat) : Bool := decide (lF F l w < lF F o w) || (decide (lF F o w = lF F l w) && decide (o < l))
def mAh (F : Nat → Nat) (w l k : Nat) : Nat := (List.range k).countP (mAhd F w l)
theorem mAh_s {F : Nat → Nat} {w l k : Nat} : mAh F w l (k + 1) = mAh F w l k + if mAhd F w l k = true then 1 else 0 := by
  rw [mAh, List.range_succ, List.countP_append, List.countP_cons, List.countP_nil]; simp [mAh]
theorem mAhd_t {F : Nat → Nat} {w l o : Nat} (h : lF F l w < lF F o w ∨ (lF F o w = lF F l w ∧ o < l)) : mAhd F w l o = true := by
  simp only [mAhd, Bool.or_eq_true, Bool.and_eq_true, decide_eq_true_eq]; exact h
theorem mAhd_f {F : Nat → Nat} {w l o : Nat} (h : ¬ (lF F l w < lF F o w ∨ (lF F o w = lF F l w ∧ o < l))) : ¬ mAhd F w l o = true := by
  simp only [mAhd, Bool.or_eq_true, Bool.and_eq_true, decide_eq_true_eq]; exact h
def mqRk (F : Nat → Nat) (m p : Int32) : An := if inI m (nI 0) (nI 2) = false then (1, 0) else match (List.range 7).find? fun l => decide (nI (mAh F (mw m) l 7) = p) with
  | some l => (0, nI l)
  | none => (2, 0)
theorem s_X9_measured (h : RM G Λ ρ μ M) {l : Nat} {m : Int32} (hl : l < 7) (hQ : lF (gA μ 0) l (mw m) < 2 ^ 31 → Q (some (.int (nI (lF (gA μ 0) l (mw m))))) M)  : MS G yX9_measured cX9_measured 3 (some .int) (d + 1) 0 0 [.ref (Λ (10, 0, 0)), .int (nI l), .int m] M Q QX := by
  refine MS.of (by decide) (by simp [Value.category]) (Nat.le_of_ble_eq_true rfl) ?_
  show AW _ (_, _, _, _, _, _, _, _, _) _ _ _ _ [some _, some _, some _] _ _
  refine r_aload_n (q := 1) dX9_measured_0 rfl rfl ?_
  refine r_iload_n (q := 2) dX9_measured_1 rfl rfl ?_
  refine r_iload_n (q := 3) dX9_measured_2 rfl rfl ?_
  refine r_if_ne (t := 10) (q := 6) dX9_measured_3 rfl rfl (fun c3 => ?_) (fun c3 => ?_)
  · refine r_iload_n (q := 11) dX9_measured_10 rfl rfl ?_
    refine r_iconst (v := nI 1) (q := 12) dX9_measured_11 (by decide) rfl ?_
    refine r_icmp_ne (t := 19) (q := 15) dX9_measured_12 rfl rfl (fun c12 => ?_) (fun c12 => ?_)
    · rw [show mw m = 6 by rw [mw, if_neg c3, if_neg c12]] at hQ
      refine r_bipush (v := nI 6) (q := 21) dX9_measured_19 (by decide) rfl ?_
      refine r_cV (q := 24) (As := [.int _, .int _]) wc_X9_108 rfl im_X9_lv se_X9_lv h.m rfl rfl (Nat.le_of_ble_eq_true rfl) (Nat.le_of_eq (Nat.zero_add _)) (Nat.le_of_eq (Nat.zero_add _)) dX9_measured_21 rfl rfl (x_lv h hl (by decide) ?_)
      intro b21
      refine r_iret dX9_measured_24 ?_
      exact hQ b21
    · rw [show mw m = 3 by rw [mw, if_neg c3, if_pos c12]] at hQ
      refine r_iconst (v := nI 3) (q := 16) dX9_measured_15 (by decide) rfl ?_
      refine r_goto (t := 21) dX9_measured_16 rfl ?_
      refine r_cV (q := 24) (As := [.int _, .int _]) wc_X9_108 rfl im_X9_lv se_X9_lv h.m rfl rfl (Nat.le_of_ble_eq_true rfl) (Nat.le_of_eq (Nat.zero_add _)) (Nat.le_of_eq (Nat.zero_add _)) dX9_measured_21 rfl rfl (x_lv h hl (by decide) ?_)
      intro b21
      refine r_iret dX9_measured_24 ?_
      exact hQ b21
  · rw [show mw m = 2 from if_pos c3] at hQ
    refine r_iconst (v := nI 2) (q := 7) dX9_measured_6 (by decide) rfl ?_
    refine r_goto (t := 21) dX9_measured_7 rfl ?_
    refine r_cV (q := 24) (As := [.int _, .int _]) wc_X9_108 rfl im_X9_lv se_X9_lv h.m rfl rfl (Nat.le_of_ble_eq_true rfl) (Nat.le_of_eq (Nat.zero_add _)) (Nat.le_of_eq (Nat.zero_add _)) dX9_measured_21 rfl rfl (x_lv h hl (by decide) ?_)
    intro b21
    refine r_iret dX9_measured_24 ?_
    exact hQ b21
theorem s_X9_ranked (h : RM G Λ ρ μ M) {m p : Int32} (hQ : ∀ M', RM G Λ ρ (sN μ 4 (nI (mqRk (gA μ 0) m p).1)) M' → Q (some (.int (mqRk (gA μ 0) m p).2)) M')  : MS G yX9_ranked cX9_ranked 6 (some .int) (d + 2) 0 0 [.ref (Λ (10, 0, 0)), .int m, .int p] M Q QX := by
  have okp : ∀ me M1 (F : Nat → Nat) (μ2 : Mg), RM G Λ ρ (sA μ2 0 F) M1 → ((∀ l, (List.range 7).find? (fun l => decide (nI (mAh F (mw me) l 7) = p)) = some l → RM G Λ ρ (sA μ2 0 F) M1 → Q (some (.int (nI l))) M1) ∧ ((List.range 7).find? (fun l => decide (nI (mAh F (mw me) l 7) = p)) = none → ∀ M', RM G Λ ρ (sN (sA μ2 0 F) 4 (nI 2)) M' → Q (some (.int (nI 0))) M')) → AW G (wX G yX9_ranked cX9_ranked 6 (some .int) 0 0 Q QX) (d + 2) 0 0 22 [some (.ref (Λ (10, 0, 0))), some (.int me), some (.int p), some (.int (nI 0)), none, none] [] M1 := by
    intro me M1 F μ2 h1 hQ1
    have loop : ∀ (mm : Nat) l u4 u5, mm = 7 - l → l ≤ 7 → (∀ j, j < l → (fun l => decide (nI (mAh F (mw me) l 7) = p)) j = false) → AW G (wX G yX9_ranked cX9_ranked 6 (some .int) 0 0 Q QX) (d + 2) 0 0 22 [some (.ref (Λ (10, 0, 0))), some (.int me), some (.int p), some (.int (nI l)), u4, u5] [] M1 := by
      intro mm
      induction mm using Nat.strongRecOn with
      | _ mm iho =>
      intro l u4 u5 hmm hl hno
      subst hmm
      rcases Nat.lt_or_ge l 7 with hl7 | hl7
      rotate_left
      · obtain rfl : l = 7 := by omega
        refine r_iload_n (q := 23) dX9_ranked_22 rfl rfl ?_
        refine r_bipush (v := nI 7) (q := 25) dX9_ranked_23 (by decide) rfl ?_
        refine r_icmp_ge (t := 109) (q := 28) dX9_ranked_25 rfl rfl (fun c25 => ?_) (fun c25 => ?_)
        · refine r_aload_n (q := 110) dX9_ranked_109 rfl rfl ?_
          refine r_iconst (v := nI 2) (q := 111) dX9_ranked_110 (by decide) rfl ?_
          refine r_cV (q := 114) (As := [.int _]) wc_X9_96 rfl im_X9_no se_X9_no h1.m rfl rfl (Nat.le_of_ble_eq_true rfl) (Nat.le_of_eq (Nat.zero_add _)) (Nat.le_of_eq (Nat.zero_add _)) dX9_ranked_111 rfl rfl (s_X9_no h1 fun M_111 h1_111 => ?_)
          refine r_iret dX9_ranked_114 ?_
          exact hQ1.2 (mfind0 hno) _ h1_111
        · exact absurd (show nI 7 ≤ nI 7 by decide) (Int32.not_le.mpr (by first | exact c25 | exact Int32.not_le.mp c25))
      have inner : ∀ (m : Nat) k, m = 7 - k → k ≤ 7 → AW G (wX G yX9_ranked cX9_ranked 6 (some .int) 0 0 Q QX) (d + 2) 0 0 34 [some (.ref (Λ (10, 0, 0))), some (.int me), some (.int p), some (.int (nI l)), some (.int (nI (mAh F (mw me) l k))), some (.int (nI k))] [] M1 := by
        intro m
        induction m using Nat.strongRecOn with
        | _ m ih =>
        intro k hm hk
        subst hm
        refine r_iload (q := 36) dX9_ranked_34 rfl rfl ?_
        refine r_bipush (v := nI 7) (q := 38) dX9_ranked_36 (by decide) rfl ?_
        refine r_icmp_ge (t := 95) (q := 41) dX9_ranked_38 rfl rfl (fun c38 => ?_) (fun c38 => ?_)
        · simp (disch := omega) only [nI_leI, nI_ltI, nI_eq, nI_lt0, nI_ge0, nI_gt0, nI_le0, nI_eq0] at c38
          obtain rfl : k = 7 := by omega
          refine r_iload (q := 97) dX9_ranked_95 rfl rfl ?_
          refine r_iload_n (q := 98) dX9_ranked_97 rfl rfl ?_
          refine r_icmp_ne (t := 103) (q := 101) dX9_ranked_98 rfl rfl (fun c98 => ?_) (fun c98 => ?_)
          · refine r_inc1 (q := 106) dX9_ranked_103 rfl (Nat.le_of_ble_eq_true rfl) rfl rfl ?_
            show AW _ (_, _, _, _, _, _, _, _, _) _ _ _ _ [some _, some _, some _, some _, some _, some _] _ _
            refine r_goto (t := 22) dX9_ranked_106 rfl ?_
            exact iho (7 - (l + 1)) (by omega) (l + 1) _ _ rfl (by omega) fun j hj => if e : j = l then e ▸ decide_eq_false c98 else hno j (by omega)
          · refine r_iload_n (q := 102) dX9_ranked_101 rfl rfl ?_
            refine r_iret dX9_ranked_102 ?_
            rw [mfind (p := fun l => decide (nI (mAh F (mw me) l 7) = p)) (k := l) (by omega) hno (decide_eq_true c98)] at hQ1
            exact hQ1.1 _ rfl h1
        · simp (disch := omega) only [nI_leI, nI_ltI, nI_eq, nI_lt0, nI_ge0, nI_gt0, nI_le0, nI_eq0] at c38
          refine r_iload (q := 43) dX9_ranked_41 rfl rfl ?_
          refine r_aload_n (q := 44) dX9_ranked_43 rfl rfl ?_
          refine r_iload (q := 46) dX9_ranked_44 rfl rfl ?_
          refine r_iload_n (q := 47) dX9_ranked_46 rfl rfl ?_
          refine r_cV (q := 50) (As := [.int _, .int _]) wc_X9_275 rfl im_X9_measured se_X9_measured h1.m rfl rfl (Nat.le_of_ble_eq_true rfl) (Nat.le_of_eq (Nat.zero_add _)) (Nat.le_of_eq (Nat.zero_add _)) dX9_ranked_47 rfl rfl (s_X9_measured h1 (by omega) ?_)
          intro b47
          try simp only [gA_sNe, gA_s] at b47 ⊢
          refine r_aload_n (q := 51) dX9_ranked_50 rfl rfl ?_
          refine r_iload_n (q := 52) dX9_ranked_51 rfl rfl ?_
          refine r_iload_n (q := 53) dX9_ranked_52 rfl rfl ?_
          refine r_cV (q := 56) (As := [.int _, .int _]) wc_X9_275 rfl im_X9_measured se_X9_measured h1.m rfl rfl (Nat.le_of_ble_eq_true rfl) (Nat.le_of_eq (Nat.zero_add _)) (Nat.le_of_eq (Nat.zero_add _)) dX9_ranked_53 rfl rfl (s_X9_measured h1 (by omega) ?_)
          intro b53
          try simp only [gA_sNe, gA_s] at b53 ⊢
          refine r_icmp_gt (t := 81) (q := 59) dX9_ranked_56 rfl rfl (fun c56 => ?_) (fun c56 => ?_)
          · simp (disch := omega) only [nI_leI, nI_ltI, nI_eq, nI_lt0, nI_ge0, nI_gt0, nI_le0, nI_eq0] at c56
            have e : mAh F (mw me) l (k + 1) = mAh F (mw me) l k + 1 := by rw [mAh_s, if_pos (mAhd_t (by omega))]
            refine r_iconst (v := nI 1) (q := 82) dX9_ranked_81 (by decide) rfl ?_
            refine r_goto (t := 86) dX9_ranked_82 rfl ?_
            refine r_iadd (q := 87) dX9_ranked_86 rfl ?_
            refine r_istore (q := 89) dX9_ranked_87 (Nat.le_of_ble_eq_true rfl) rfl rfl ?_
            show AW _ (_, _, _, _, _, _, _, _, _) _ _ _ _ [some _, some _, some _, some _, some _, some _] _ _
            refine r_inc1 (q := 92) dX9_ranked_89 rfl (Nat.le_of_ble_eq_true rfl) rfl rfl ?_
            show AW _ (_, _, _, _, _, _, _, _, _) _ _ _ _ [some _, some _, some _, some _, some _, some _] _ _
            refine r_goto (t := 34) dX9_ranked_92 rfl ?_
            rw [n_add, ← e]
            exact ih (7 - (k + 1)) (by omega) (k + 1) rfl (by omega)
          · simp (disch := omega) only [nI_leI, nI_ltI, nI_eq, nI_lt0, nI_ge0, nI_gt0, nI_le0, nI_eq0] at c56
            refine r_aload_n (q := 60) dX9_ranked_59 rfl rfl ?_
            refine r_iload (q := 62) dX9_ranked_60 rfl rfl ?_
            refine r_iload_n (q := 63) dX9_ranked_62 rfl rfl ?_
            refine r_cV (q := 66) (As := [.int _, .int _]) wc_X9_275 rfl im_X9_measured se_X9_measured h1.m rfl rfl (Nat.le_of_ble_eq_true rfl) (Nat.le_of_eq (Nat.zero_add _)) (Nat.le_of_eq (Nat.zero_add _)) dX9_ranked_63 rfl rfl (s_X9_measured h1 (by omega) ?_)
            intro b63
            try simp only [gA_sNe, gA_s] at b63 ⊢
            refine r_aload_n (q := 67) dX9_ranked_66 rfl rfl ?_
            refine r_iload_n (q := 68) dX9_ranked_67 rfl rfl ?_
            refine r_iload_n (q := 69) dX9_ranked_68 rfl rfl ?_
            refine r_cV (q := 72) (As := [.int _, .int _]) wc_X9_275 rfl im_X9_measured se_X9_measured h1.m rfl rfl (Nat.le_of_ble_eq_true rfl) (Nat.le_of_eq (Nat.zero_add _)) (Nat.le_of_eq (Nat.zero_add _)) dX9_ranked_69 rfl rfl (s_X9_measured h1 (by omega) ?_)
            intro b69
            try simp only [gA_sNe, gA_s] at b69 ⊢
            refine r_icmp_ne (t := 85) (q := 75) dX9_ranked_72 rfl rfl (fun c72 => ?_) (fun c72 => ?_)
            · simp (disch := omega) only [nI_leI, nI_ltI, nI_eq, nI_lt0, nI_ge0, nI_gt0, nI_le0, nI_eq0] at c72
              have e : mAh F (mw me) l (k + 1) = mAh F (mw me) l k + 0 := by rw [mAh_s, if_neg (mAhd_f (by omega))]
              refine r_iconst (v := nI 0) (q := 86) dX9_ranked_85 (by decide) rfl ?_
              refine r_iadd (q := 87) dX9_ranked_86 rfl ?_
              refine r_istore (q := 89) dX9_ranked_87 (Nat.le_of_ble_eq_true rfl) rfl rfl ?_
              show AW _ (_, _, _, _, _, _, _, _, _) _ _ _ _ [some _, some _, some _, some _, some _, some _] _ _
              refine r_inc1 (q := 92) dX9_ranked_89 rfl (Nat.le_of_ble_eq_true rfl) rfl rfl ?_
              show AW _ (_, _, _, _, _, _, _, _, _) _ _ _ _ [some _, some _, some _, some _, some _, some _] _ _
              refine r_goto (t := 34) dX9_ranked_92 rfl ?_
              rw [n_add, ← e]
              exact ih (7 - (k + 1)) (by omega) (k + 1) rfl (by omega)
            · simp (disch := omega) only [nI_leI, nI_ltI, nI_eq, nI_lt0, nI_ge0, nI_gt0, nI_le0, nI_eq0] at c72
              refine r_iload (q := 77) dX9_ranked_75 rfl rfl ?_
              refine r_iload_n (q := 78) dX9_ranked_77 rfl rfl ?_
              refine r_icmp_ge (t := 85) (q := 81) dX9_ranked_78 rfl rfl (fun c78 => ?_) (fun c78 => ?_)
              · simp (disch := omega) only [nI_leI, nI_ltI, nI_eq, nI_lt0, nI_ge0, nI_gt0, nI_le0, nI_eq0] at c78
                have e : mAh F (mw me) l (k + 1) = mAh F (mw me) l k + 0 := by rw [mAh_s, if_neg (mAhd_f (by omega))]
                refine r_iconst (v := nI 0) (q := 86) dX9_ranked_85 (by decide) rfl ?_
                refine r_iadd (q := 87) dX9_ranked_86 rfl ?_
                refine r_istore (q := 89) dX9_ranked_87 (Nat.le_of_ble_eq_true rfl) rfl rfl ?_
                show AW _ (_, _, _, _, _, _, _, _, _) _ _ _ _ [some _, some _, some _, some _, some _, some _] _ _
                refine r_inc1 (q := 92) dX9_ranked_89 rfl (Nat.le_of_ble_eq_true rfl) rfl rfl ?_
                show AW _ (_, _, _, _, _, _, _, _, _) _ _ _ _ [some _, some _, some _, some _, some _, some _] _ _
                refine r_goto (t := 34) dX9_ranked_92 rfl ?_
                rw [n_add, ← e]
                exact ih (7 - (k + 1)) (by omega) (k + 1) rfl (by omega)
              · simp (disch := omega) only [nI_leI, nI_ltI, nI_eq, nI_lt0, nI_ge0, nI_gt0, nI_le0, nI_eq0] at c78
                have e : mAh F (mw me) l (k + 1) = mAh F (mw me) l k + 1 := by rw [mAh_s, if_pos (mAhd_t (by omega))]
                refine r_iconst (v := nI 1) (q := 82) dX9_ranked_81 (by decide) rfl ?_
                refine r_goto (t := 86) dX9_ranked_82 rfl ?_
                refine r_iadd (q := 87) dX9_ranked_86 rfl ?_
                refine r_istore (q := 89) dX9_ranked_87 (Nat.le_of_ble_eq_true rfl) rfl rfl ?_
                show AW _ (_, _, _, _, _, _, _, _, _) _ _ _ _ [some _, some _, some _, some _, some _, some _] _ _
                refine r_inc1 (q := 92) dX9_ranked_89 rfl (Nat.le_of_ble_eq_true rfl) rfl rfl ?_
                show AW _ (_, _, _, _, _, _, _, _, _) _ _ _ _ [some _, some _, some _, some _, some _, some _] _ _
                refine r_goto (t := 34) dX9_ranked_92 rfl ?_
                rw [n_add, ← e]
                exact ih (7 - (k + 1)) (by omega) (k + 1) rfl (by omega)
      refine r_iload_n (q := 23) dX9_ranked_22 rfl rfl ?_
      refine r_bipush (v := nI 7) (q := 25) dX9_ranked_23 (by decide) rfl ?_
      refine r_icmp_ge (t := 109) (q := 28) dX9_ranked_25 rfl rfl (fun c25 => ?_) (fun c25 => ?_)
      · exact absurd c25 (by rw [nI_leI (by decide) (by omega)]; omega)
      · refine r_iconst (v := nI 0) (q := 29) dX9_ranked_28 (by decide) rfl ?_
        refine r_istore (q := 31) dX9_ranked_29 (Nat.le_of_ble_eq_true rfl) rfl rfl ?_
        show AW _ (_, _, _, _, _, _, _, _, _) _ _ _ _ [some _, some _, some _, some _, some _, _] _ _
        refine r_iconst (v := nI 0) (q := 32) dX9_ranked_31 (by decide) rfl ?_
        refine r_istore (q := 34) dX9_ranked_32 (Nat.le_of_ble_eq_true rfl) rfl rfl ?_
        show AW _ (_, _, _, _, _, _, _, _, _) _ _ _ _ [some _, some _, some _, some _, some _, some _] _ _
        exact inner _ 0 rfl (Nat.zero_le _)
    exact loop _ 0 none none rfl (Nat.zero_le _) fun j hj => absurd hj (by omega)
  refine MS.of (by decide) (by simp [Value.category]) (Nat.le_of_ble_eq_true rfl) ?_
  show AW _ (_, _, _, _, _, _, _, _, _) _ _ _ _ [some _, some _, some _, _, _, _] _ _
  refine r_aload_n (q := 1) dX9_ranked_0 rfl rfl ?_
  refine r_iconst (v := nI 0) (q := 2) dX9_ranked_1 (by decide) rfl ?_
  refine r_p9 (q := 5) (kk := 4) (j := 4) h (by decide) rfl fk_X9_22 dX9_ranked_2 rfl fun M_2 h_2 => ?_
  try simp only [sN_sN] at h_2
  refine r_iload_n (q := 6) dX9_ranked_5 rfl rfl ?_
  refine r_iconst (v := nI 0) (q := 7) dX9_ranked_6 (by decide) rfl ?_
  refine r_iconst (v := nI 2) (q := 8) dX9_ranked_7 (by decide) rfl ?_
  refine r_cS (q := 11) (As := [.int _, .int _, .int _]) wc_X9_116 st_X9_in rfl (Nat.le_of_ble_eq_true rfl) (Nat.le_of_eq (Nat.zero_add _)) (Nat.le_of_eq (Nat.zero_add _)) dX9_ranked_8 rfl rfl (s_X9_in ?_)
  refine r_if_ne (t := 20) (q := 14) dX9_ranked_11 rfl rfl (fun c11 => ?_) (fun c11 => ?_)
  · have im : ¬ inI m (nI 0) (nI 2) = false := fun g => c11 (bI_eq0.mpr g)
    refine r_iconst (v := nI 0) (q := 21) dX9_ranked_20 (by decide) rfl ?_
    refine r_istore_n (q := 22) dX9_ranked_21 (Nat.le_of_ble_eq_true rfl) rfl rfl ?_
    show AW _ (_, _, _, _, _, _, _, _, _) _ _ _ _ [some _, some _, some _, some _, _, _] _ _
    refine okp m _ (gA μ 0) (sN μ 4 (nI 0)) (RM.toA h_2 0) ⟨fun l e h1 => ?_, fun e M2 h2 => ?_⟩
    · rw [show mqRk (gA μ 0) m p = (0, nI l) by rw [mqRk, if_neg im, e]] at hQ
      rw [show sA (sN μ 4 (nI 0)) 0 (gA μ 0) = sN μ 4 (nI 0) from sA_self] at h1
      exact hQ _ h1
    · rw [show mqRk (gA μ 0) m p = (2, 0) by rw [mqRk, if_neg im, e]] at hQ
      refine hQ _ ?_
      have h3 := h2
      rw [show sA (sN μ 4 (nI 0)) 0 (gA μ 0) = sN μ 4 (nI 0) from sA_self, sN_sN] at h3
      exact h3
  · rw [show mqRk (gA μ 0) m p = (1, 0) from if_pos (bI_eq0.mp c11)] at hQ
    refine r_aload_n (q := 15) dX9_ranked_14 rfl rfl ?_
    refine r_iconst (v := nI 1) (q := 16) dX9_ranked_15 (by decide) rfl ?_
    refine r_cV (q := 19) (As := [.int _]) wc_X9_96 rfl im_X9_no se_X9_no h_2.m rfl rfl (Nat.le_of_ble_eq_true rfl) (Nat.le_of_eq (Nat.zero_add _)) (Nat.le_of_eq (Nat.zero_add _)) dX9_ranked_16 rfl rfl (s_X9_no h_2 fun M_16 h_16 => ?_)
    try simp only [sN_sN] at h_16
    refine r_iret dX9_ranked_19 ?_
    exact hQ _ h_16
end W58
