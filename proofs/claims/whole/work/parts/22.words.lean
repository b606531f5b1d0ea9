/-! WORDS AND SOUNDS as numbers -/
section W22
variable {G : En} {Λ : Ob → Nat} {M : Me} {d : Nat} {Q : Option Value → Me → Prop} {QX : String → Me → Prop} {w s : Nat}
def bI : Bool → Int32
  | true => nI 1
  | false => nI 0
theorem bI_t {b : Bool} (h : b = true) : bI b = nI 1 := by rw [h]; rfl
theorem bI_f {b : Bool} (h : b = false) : bI b = nI 0 := by rw [h]; rfl
theorem bI_eq0 {b : Bool} : bI b = 0 ↔ b = false := by cases b <;> decide
theorem bI_ne {b : Bool} (h : ¬ bI b = 0) : b = true := by
  cases b with
  | true => rfl
  | false => exact absurd rfl h
/-- a word begins another -/
def wBeg (one other : Nat) : Bool := decide (one / 64 ≤ other / 64) && decide (other % 64 % 2 ^ (one / 64) = one % 64)
def wCut (w m : Nat) : Nat := if w / 64 ≤ m then w else m * 64 + w % 64 % 2 ^ m
theorem n_mask (a l : Nat) : nI a &&& nI (2 ^ l - 1) = nI (a % 2 ^ l) := fa_mask a l
theorem n_add (a b : Nat) : nI a + nI b = nI (a + b) := nI_add a b
theorem n_mul (a b : Nat) : nI a * nI b = nI (a * b) := pk_mul a b
theorem s_J6_bitCount_0f7a4 {n : Nat} (hn : n < 64) (hQ : Q (some (.int (nI (pop6 n)))) M) : MS G yJ6_bitCount_0f7a4 cJ6_bitCount_0f7a4 1 (some .int) d 0 0 [.int (nI n)] M Q QX := by
  rw [← bcF_all n hn] at hQ
  refine MS.of (by decide) (by simp [Value.category]) (Nat.le_of_ble_eq_true rfl) ?_
  show AW _ _ _ _ _ _ [some _] _ _
  refine r_iload_n (q := 1) dJ6_bitCount_0f7a4_0 rfl rfl ?_
  refine r_iload_n (q := 2) dJ6_bitCount_0f7a4_1 rfl rfl ?_
  refine r_iconst (v := nI 1) (q := 3) dJ6_bitCount_0f7a4_2 (by decide) rfl ?_
  refine r_iushr (q := 4) dJ6_bitCount_0f7a4_3 rfl ?_
  refine r_ldc_w (q := 7) dJ6_bitCount_0f7a4_4 kc_J6_265 rfl ?_
  refine r_iand (q := 8) dJ6_bitCount_0f7a4_7 rfl ?_
  refine r_isub (q := 9) dJ6_bitCount_0f7a4_8 rfl ?_
  refine r_istore_n (q := 10) dJ6_bitCount_0f7a4_9 (Nat.le_of_ble_eq_true rfl) rfl rfl ?_
  show AW _ _ _ _ _ _ [some _] _ _
  refine r_iload_n (q := 11) dJ6_bitCount_0f7a4_10 rfl rfl ?_
  refine r_ldc_w (q := 14) dJ6_bitCount_0f7a4_11 kc_J6_266 rfl ?_
  refine r_iand (q := 15) dJ6_bitCount_0f7a4_14 rfl ?_
  refine r_iload_n (q := 16) dJ6_bitCount_0f7a4_15 rfl rfl ?_
  refine r_iconst (v := nI 2) (q := 17) dJ6_bitCount_0f7a4_16 (by decide) rfl ?_
  refine r_iushr (q := 18) dJ6_bitCount_0f7a4_17 rfl ?_
  refine r_ldc_w (q := 21) dJ6_bitCount_0f7a4_18 kc_J6_266 rfl ?_
  refine r_iand (q := 22) dJ6_bitCount_0f7a4_21 rfl ?_
  refine r_iadd (q := 23) dJ6_bitCount_0f7a4_22 rfl ?_
  refine r_istore_n (q := 24) dJ6_bitCount_0f7a4_23 (Nat.le_of_ble_eq_true rfl) rfl rfl ?_
  show AW _ _ _ _ _ _ [some _] _ _
  refine r_iload_n (q := 25) dJ6_bitCount_0f7a4_24 rfl rfl ?_
  refine r_iload_n (q := 26) dJ6_bitCount_0f7a4_25 rfl rfl ?_
  refine r_iconst (v := nI 4) (q := 27) dJ6_bitCount_0f7a4_26 (by decide) rfl ?_
  refine r_iushr (q := 28) dJ6_bitCount_0f7a4_27 rfl ?_
  refine r_iadd (q := 29) dJ6_bitCount_0f7a4_28 rfl ?_
  refine r_ldc_w (q := 32) dJ6_bitCount_0f7a4_29 kc_J6_267 rfl ?_
  refine r_iand (q := 33) dJ6_bitCount_0f7a4_32 rfl ?_
  refine r_istore_n (q := 34) dJ6_bitCount_0f7a4_33 (Nat.le_of_ble_eq_true rfl) rfl rfl ?_
  show AW _ _ _ _ _ _ [some _] _ _
  refine r_iload_n (q := 35) dJ6_bitCount_0f7a4_34 rfl rfl ?_
  refine r_iload_n (q := 36) dJ6_bitCount_0f7a4_35 rfl rfl ?_
  refine r_bipush (v := nI 8) (q := 38) dJ6_bitCount_0f7a4_36 (by decide) rfl ?_
  refine r_iushr (q := 39) dJ6_bitCount_0f7a4_38 rfl ?_
  refine r_iadd (q := 40) dJ6_bitCount_0f7a4_39 rfl ?_
  refine r_istore_n (q := 41) dJ6_bitCount_0f7a4_40 (Nat.le_of_ble_eq_true rfl) rfl rfl ?_
  show AW _ _ _ _ _ _ [some _] _ _
  refine r_iload_n (q := 42) dJ6_bitCount_0f7a4_41 rfl rfl ?_
  refine r_iload_n (q := 43) dJ6_bitCount_0f7a4_42 rfl rfl ?_
  refine r_bipush (v := nI 16) (q := 45) dJ6_bitCount_0f7a4_43 (by decide) rfl ?_
  refine r_iushr (q := 46) dJ6_bitCount_0f7a4_45 rfl ?_
  refine r_iadd (q := 47) dJ6_bitCount_0f7a4_46 rfl ?_
  refine r_istore_n (q := 48) dJ6_bitCount_0f7a4_47 (Nat.le_of_ble_eq_true rfl) rfl rfl ?_
  show AW _ _ _ _ _ _ [some _] _ _
  refine r_iload_n (q := 49) dJ6_bitCount_0f7a4_48 rfl rfl ?_
  refine r_bipush (v := nI 63) (q := 51) dJ6_bitCount_0f7a4_49 (by decide) rfl ?_
  refine r_iand (q := 52) dJ6_bitCount_0f7a4_51 rfl ?_
  refine r_iret dJ6_bitCount_0f7a4_52 ?_
  exact hQ
theorem s_X7_length (hw : w < 2 ^ 31) (hQ : Q (some (.int (nI (w / 64)))) M) : MS G yX7_length cX7_length 1 (some .int) d 0 0 [.int (nI w)] M Q QX := by
  refine MS.of (by decide) (by simp [Value.category]) (Nat.le_of_ble_eq_true rfl) ?_
  show AW _ _ _ _ _ _ [some _] _ _
  refine r_iload_n (q := 1) dX7_length_0 rfl rfl ?_
  refine r_bipush (v := nI 6) (q := 3) dX7_length_1 (by decide) rfl ?_
  refine r_ishr (q := 4) dX7_length_3 rfl ?_
  refine r_iret dX7_length_4 ?_
  rw [n_shr hw (by omega)]; exact hQ

theorem s_X7_bits (hw : w < 2 ^ 31) (hQ : Q (some (.int (nI (w % 64)))) M) : MS G yX7_bits cX7_bits 1 (some .int) d 0 0 [.int (nI w)] M Q QX := by
  refine MS.of (by decide) (by simp [Value.category]) (Nat.le_of_ble_eq_true rfl) ?_
  show AW _ _ _ _ _ _ [some _] _ _
  refine r_iload_n (q := 1) dX7_bits_0 rfl rfl ?_
  refine r_bipush (v := nI 63) (q := 3) dX7_bits_1 (by decide) rfl ?_
  refine r_iand (q := 4) dX7_bits_3 rfl ?_
  refine r_iret dX7_bits_4 ?_
  rw [n_and (by omega) 63 6 (by decide)]; exact hQ

theorem s_X7_mask {l : Nat} (hl : l < 31) (hQ : Q (some (.int (nI (2 ^ l - 1)))) M) : MS G yX7_mask cX7_mask 1 (some .int) d 0 0 [.int (nI l)] M Q QX := by
  refine MS.of (by decide) (by simp [Value.category]) (Nat.le_of_ble_eq_true rfl) ?_
  show AW _ _ _ _ _ _ [some _] _ _
  refine r_iconst (v := nI 1) (q := 1) dX7_mask_0 (by decide) rfl ?_
  refine r_iload_n (q := 2) dX7_mask_1 rfl rfl ?_
  refine r_ishl (q := 3) dX7_mask_2 rfl ?_
  refine r_iconst (v := nI 1) (q := 4) dX7_mask_3 (by decide) rfl ?_
  refine r_isub (q := 5) dX7_mask_4 rfl ?_
  refine r_iret dX7_mask_5 ?_
  rw [n_shl (by omega) (by rw [Nat.one_mul]; exact Nat.pow_lt_pow_right (by omega) (by omega)), Nat.one_mul, n_sub Nat.one_le_two_pow]; exact hQ

theorem s_X7_letter (hw : w < 2 ^ 31) {j : Nat} (hj : j < 32) (hQ : Q (some (.int (nI (w % 64 / 2 ^ j % 2)))) M) : MS G yX7_letter cX7_letter 2 (some .int) (d + 1) 0 0 [.int (nI w), .int (nI j)] M Q QX := by
  refine MS.of (by decide) (by simp [Value.category]) (Nat.le_of_ble_eq_true rfl) ?_
  show AW _ _ _ _ _ _ [some _, some _] _ _
  refine r_iload_n (q := 1) dX7_letter_0 rfl rfl ?_
  refine r_invS (q := 4) (As := [.int _]) wc_X7_7 st_X7_bits rfl (Nat.le_of_ble_eq_true rfl) (Nat.le_of_eq (Nat.zero_add _)) (Nat.le_of_eq (Nat.zero_add _)) dX7_letter_1 rfl rfl (s_X7_bits (by omega) ?_)
  refine r_iload_n (q := 5) dX7_letter_4 rfl rfl ?_
  refine r_ishr (q := 6) dX7_letter_5 rfl ?_
  refine r_iconst (v := nI 1) (q := 7) dX7_letter_6 (by decide) rfl ?_
  refine r_iand (q := 8) dX7_letter_7 rfl ?_
  refine r_iret dX7_letter_8 ?_
  rw [n_shr (by omega) hj, n_and (Nat.lt_of_le_of_lt (Nat.div_le_self _ _) (by omega)) 1 1 (by decide)]; exact hQ

theorem s_X7_steam (hw : w < 2 ^ 31) (hQ : Q (some (.int (nI (w / 64 + pop6 (w % 64))))) M) : MS G yX7_steam cX7_steam 1 (some .int) (d + 2) 0 0 [.int (nI w)] M Q QX := by
  refine MS.of (by decide) (by simp [Value.category]) (Nat.le_of_ble_eq_true rfl) ?_
  show AW _ _ _ _ _ _ [some _] _ _
  refine r_iload_n (q := 1) dX7_steam_0 rfl rfl ?_
  refine r_invS (q := 4) (As := [.int _]) wc_X7_13 st_X7_length rfl (Nat.le_of_ble_eq_true rfl) (Nat.le_of_eq (Nat.zero_add _)) (Nat.le_of_eq (Nat.zero_add _)) dX7_steam_1 rfl rfl (s_X7_length (by omega) ?_)
  refine r_iload_n (q := 5) dX7_steam_4 rfl rfl ?_
  refine r_invS (q := 8) (As := [.int _]) wc_X7_7 st_X7_bits rfl (Nat.le_of_ble_eq_true rfl) (Nat.le_of_eq (Nat.zero_add _)) (Nat.le_of_eq (Nat.zero_add _)) dX7_steam_5 rfl rfl (s_X7_bits (by omega) ?_)
  refine r_invS (q := 11) (As := [.int _]) wc_X7_16 st_J6_bitCount_0f7a4 rfl (Nat.le_of_ble_eq_true rfl) (Nat.le_of_eq (Nat.zero_add _)) (Nat.le_of_eq (Nat.zero_add _)) dX7_steam_8 rfl rfl (s_J6_bitCount_0f7a4 (by omega) ?_)
  refine r_iadd (q := 12) dX7_steam_11 rfl ?_
  refine r_iret dX7_steam_12 ?_
  rw [n_add]; exact hQ

theorem s_X7_of {l b : Nat} (hl : l < 2 ^ 20) (hb : b < 64) (hQ : Q (some (.int (nI (l * 64 + b)))) M) : MS G yX7_of cX7_of 2 (some .int) d 0 0 [.int (nI l), .int (nI b)] M Q QX := by
  refine MS.of (by decide) (by simp [Value.category]) (Nat.le_of_ble_eq_true rfl) ?_
  show AW _ _ _ _ _ _ [some _, some _] _ _
  refine r_iload_n (q := 1) dX7_of_0 rfl rfl ?_
  refine r_bipush (v := nI 6) (q := 3) dX7_of_1 (by decide) rfl ?_
  refine r_ishl (q := 4) dX7_of_3 rfl ?_
  refine r_iload_n (q := 5) dX7_of_4 rfl rfl ?_
  refine r_ior (q := 6) dX7_of_5 rfl ?_
  refine r_iret dX7_of_6 ?_
  rw [n_shl (by omega) (by omega), n_or, Nat.or_comm, show l * 2 ^ 6 = l * 2 ^ 6 from rfl, or_lo 6 hb, Nat.add_comm]; exact hQ

theorem s_X7_begins {one other : Nat} (h1 : one < 2 ^ 31) (h2 : other < 2 ^ 31) (h3 : one / 64 ≤ 6) (hQ : Q (some (.int (bI (wBeg one other)))) M) : MS G yX7_begins cX7_begins 2 (some .boolean) (d + 2) 0 0 [.int (nI one), .int (nI other)] M Q QX := by
  refine MS.of (by decide) (by simp [Value.category]) (Nat.le_of_ble_eq_true rfl) ?_
  show AW _ _ _ _ _ _ [some _, some _] _ _
  refine r_iload_n (q := 1) dX7_begins_0 rfl rfl ?_
  refine r_invS (q := 4) (As := [.int _]) wc_X7_13 st_X7_length rfl (Nat.le_of_ble_eq_true rfl) (Nat.le_of_eq (Nat.zero_add _)) (Nat.le_of_eq (Nat.zero_add _)) dX7_begins_1 rfl rfl (s_X7_length (by omega) ?_)
  refine r_iload_n (q := 5) dX7_begins_4 rfl rfl ?_
  refine r_invS (q := 8) (As := [.int _]) wc_X7_13 st_X7_length rfl (Nat.le_of_ble_eq_true rfl) (Nat.le_of_eq (Nat.zero_add _)) (Nat.le_of_eq (Nat.zero_add _)) dX7_begins_5 rfl rfl (s_X7_length (by omega) ?_)
  refine r_icmp_gt (t := 34) (q := 11) dX7_begins_8 rfl rfl (fun c8 => ?_) (fun c8 => ?_)
  · simp (disch := omega) only [nI_leI, nI_ltI, nI_eq, nI_lt0, nI_ge0, nI_gt0, nI_le0, nI_eq0] at c8
    refine r_iconst (v := nI 0) (q := 35) dX7_begins_34 (by decide) rfl ?_
    refine r_zret dX7_begins_35 rfl ?_
    first
      | (rw [bI_t (by unfold wBeg; rw [decide_eq_true (by omega), decide_eq_true c27]; rfl)] at hQ; exact hQ)
      | (rw [bI_f (by unfold wBeg; rw [decide_eq_false (by omega)]; rfl)] at hQ; exact hQ)
      | (rw [bI_f (by unfold wBeg; rw [decide_eq_false c27, Bool.and_false])] at hQ; exact hQ)
  · simp (disch := omega) only [nI_leI, nI_ltI, nI_eq, nI_lt0, nI_ge0, nI_gt0, nI_le0, nI_eq0] at c8
    refine r_iload_n (q := 12) dX7_begins_11 rfl rfl ?_
    refine r_invS (q := 15) (As := [.int _]) wc_X7_7 st_X7_bits rfl (Nat.le_of_ble_eq_true rfl) (Nat.le_of_eq (Nat.zero_add _)) (Nat.le_of_eq (Nat.zero_add _)) dX7_begins_12 rfl rfl (s_X7_bits (by omega) ?_)
    refine r_iload_n (q := 16) dX7_begins_15 rfl rfl ?_
    refine r_invS (q := 19) (As := [.int _]) wc_X7_13 st_X7_length rfl (Nat.le_of_ble_eq_true rfl) (Nat.le_of_eq (Nat.zero_add _)) (Nat.le_of_eq (Nat.zero_add _)) dX7_begins_16 rfl rfl (s_X7_length (by omega) ?_)
    refine r_invS (q := 22) (As := [.int _]) wc_X7_21 st_X7_mask rfl (Nat.le_of_ble_eq_true rfl) (Nat.le_of_eq (Nat.zero_add _)) (Nat.le_of_eq (Nat.zero_add _)) dX7_begins_19 rfl rfl (s_X7_mask (by omega) ?_)
    refine r_iand (q := 23) dX7_begins_22 rfl ?_
    rw [n_mask]
    refine r_iload_n (q := 24) dX7_begins_23 rfl rfl ?_
    refine r_invS (q := 27) (As := [.int _]) wc_X7_7 st_X7_bits rfl (Nat.le_of_ble_eq_true rfl) (Nat.le_of_eq (Nat.zero_add _)) (Nat.le_of_eq (Nat.zero_add _)) dX7_begins_24 rfl rfl (s_X7_bits (by omega) ?_)
    refine r_icmp_ne (t := 34) (q := 30) dX7_begins_27 rfl rfl (fun c27 => ?_) (fun c27 => ?_)
    · rw [nI_eq (Nat.lt_of_le_of_lt (Nat.mod_le _ _) (by omega)) (by omega)] at c27
      refine r_iconst (v := nI 0) (q := 35) dX7_begins_34 (by decide) rfl ?_
      refine r_zret dX7_begins_35 rfl ?_
      first
        | (rw [bI_t (by unfold wBeg; rw [decide_eq_true (by omega), decide_eq_true c27]; rfl)] at hQ; exact hQ)
        | (rw [bI_f (by unfold wBeg; rw [decide_eq_false (by omega)]; rfl)] at hQ; exact hQ)
        | (rw [bI_f (by unfold wBeg; rw [decide_eq_false c27, Bool.and_false])] at hQ; exact hQ)
    · rw [nI_eq (Nat.lt_of_le_of_lt (Nat.mod_le _ _) (by omega)) (by omega)] at c27
      refine r_iconst (v := nI 1) (q := 31) dX7_begins_30 (by decide) rfl ?_
      refine r_goto (t := 35) dX7_begins_31 rfl ?_
      refine r_zret dX7_begins_35 rfl ?_
      first
        | (rw [bI_t (by unfold wBeg; rw [decide_eq_true (by omega), decide_eq_true c27]; rfl)] at hQ; exact hQ)
        | (rw [bI_f (by unfold wBeg; rw [decide_eq_false (by omega)]; rfl)] at hQ; exact hQ)
        | (rw [bI_f (by unfold wBeg; rw [decide_eq_false c27, Bool.and_false])] at hQ; exact hQ)

theorem s_X7_cut {m : Nat} (hw : w < 2 ^ 31) (hm : m ≤ 6) (hQ : Q (some (.int (nI (wCut w m)))) M) : MS G yX7_cut cX7_cut 2 (some .int) (d + 2) 0 0 [.int (nI w), .int (nI m)] M Q QX := by
  refine MS.of (by decide) (by simp [Value.category]) (Nat.le_of_ble_eq_true rfl) ?_
  show AW _ _ _ _ _ _ [some _, some _] _ _
  refine r_iload_n (q := 1) dX7_cut_0 rfl rfl ?_
  refine r_invS (q := 4) (As := [.int _]) wc_X7_13 st_X7_length rfl (Nat.le_of_ble_eq_true rfl) (Nat.le_of_eq (Nat.zero_add _)) (Nat.le_of_eq (Nat.zero_add _)) dX7_cut_1 rfl rfl (s_X7_length (by omega) ?_)
  refine r_iload_n (q := 5) dX7_cut_4 rfl rfl ?_
  refine r_icmp_gt (t := 12) (q := 8) dX7_cut_5 rfl rfl (fun c5 => ?_) (fun c5 => ?_)
  · simp (disch := omega) only [nI_leI, nI_ltI, nI_eq, nI_lt0, nI_ge0, nI_gt0, nI_le0, nI_eq0] at c5
    refine r_iload_n (q := 13) dX7_cut_12 rfl rfl ?_
    refine r_iload_n (q := 14) dX7_cut_13 rfl rfl ?_
    refine r_invS (q := 17) (As := [.int _]) wc_X7_7 st_X7_bits rfl (Nat.le_of_ble_eq_true rfl) (Nat.le_of_eq (Nat.zero_add _)) (Nat.le_of_eq (Nat.zero_add _)) dX7_cut_14 rfl rfl (s_X7_bits (by omega) ?_)
    refine r_iload_n (q := 18) dX7_cut_17 rfl rfl ?_
    refine r_invS (q := 21) (As := [.int _]) wc_X7_21 st_X7_mask rfl (Nat.le_of_ble_eq_true rfl) (Nat.le_of_eq (Nat.zero_add _)) (Nat.le_of_eq (Nat.zero_add _)) dX7_cut_18 rfl rfl (s_X7_mask (by omega) ?_)
    refine r_iand (q := 22) dX7_cut_21 rfl ?_
    rw [n_mask]
    refine r_invS (q := 25) (As := [.int _, .int _]) wc_X7_24 st_X7_of rfl (Nat.le_of_ble_eq_true rfl) (Nat.le_of_eq (Nat.zero_add _)) (Nat.le_of_eq (Nat.zero_add _)) dX7_cut_22 rfl rfl (s_X7_of (by omega) (Nat.lt_of_le_of_lt (Nat.mod_le _ _) (by omega)) ?_)
    refine r_iret dX7_cut_25 ?_
    first
      | (rw [wCut, if_pos (by omega)] at hQ; exact hQ)
      | (rw [wCut, if_neg (by omega)] at hQ; exact hQ)
  · simp (disch := omega) only [nI_leI, nI_ltI, nI_eq, nI_lt0, nI_ge0, nI_gt0, nI_le0, nI_eq0] at c5
    refine r_iload_n (q := 9) dX7_cut_8 rfl rfl ?_
    refine r_goto (t := 25) dX7_cut_9 rfl ?_
    refine r_iret dX7_cut_25 ?_
    first
      | (rw [wCut, if_pos (by omega)] at hQ; exact hQ)
      | (rw [wCut, if_neg (by omega)] at hQ; exact hQ)

def dT (s : Nat) : Nat := s % 8
def dW (s : Nat) : Nat := s / 8 % 8
def dE (s : Nat) : Nat := s / 64 % 8
def dD (s : Nat) : Nat := s / 512 % 512
def dH (s : Nat) : Nat := s / 262144 % 8
def dX (s : Nat) : Bool := s.testBit 21
theorem dT_lt (s : Nat) : dT s < 8 := Nat.mod_lt _ (by omega)
theorem dW_lt (s : Nat) : dW s < 8 := Nat.mod_lt _ (by omega)
theorem dE_lt (s : Nat) : dE s < 8 := Nat.mod_lt _ (by omega)
theorem dD_lt (s : Nat) : dD s < 512 := Nat.mod_lt _ (by omega)
theorem dH_lt (s : Nat) : dH s < 8 := Nat.mod_lt _ (by omega)
def eI (e : Nat) : Int32 := nI e - nI 1
theorem eI_neg {e : Nat} (he : e < 8) : eI e < 0 ↔ e = 0 := by
  have h : ∀ e : Nat, e < 8 → (eI e < 0 ↔ e = 0) := by decide +kernel
  exact h e he
theorem eI_eq {e p : Nat} (he : e < 8) (hp : p < 8) : eI e = nI p ↔ e = p + 1 := by
  have h : ∀ e : Nat, e < 8 → ∀ p : Nat, p < 8 → (eI e = nI p ↔ e = p + 1) := by decide +kernel
  exact h e he p hp
theorem s_X4_told (hs : s < 2 ^ 31) (hQ : Q (some (.int (nI (dT s)))) M) : MS G yX4_told cX4_told 1 (some .int) d 0 0 [.int (nI s)] M Q QX := by
  refine MS.of (by decide) (by simp [Value.category]) (Nat.le_of_ble_eq_true rfl) ?_
  show AW _ _ _ _ _ _ [some _] _ _
  refine r_iload_n (q := 1) dX4_told_0 rfl rfl ?_
  refine r_bipush (v := nI 7) (q := 3) dX4_told_1 (by decide) rfl ?_
  refine r_iand (q := 4) dX4_told_3 rfl ?_
  refine r_iret dX4_told_4 ?_
  rw [n_and (by omega) 7 3 (by decide)]; exact hQ

theorem s_X4_whistler (hs : s < 2 ^ 31) (hQ : Q (some (.int (nI (dW s)))) M) : MS G yX4_whistler cX4_whistler 1 (some .int) d 0 0 [.int (nI s)] M Q QX := by
  refine MS.of (by decide) (by simp [Value.category]) (Nat.le_of_ble_eq_true rfl) ?_
  show AW _ _ _ _ _ _ [some _] _ _
  refine r_iload_n (q := 1) dX4_whistler_0 rfl rfl ?_
  refine r_iconst (v := nI 3) (q := 2) dX4_whistler_1 (by decide) rfl ?_
  refine r_ishr (q := 3) dX4_whistler_2 rfl ?_
  refine r_bipush (v := nI 7) (q := 5) dX4_whistler_3 (by decide) rfl ?_
  refine r_iand (q := 6) dX4_whistler_5 rfl ?_
  refine r_iret dX4_whistler_6 ?_
  rw [n_shr hs (by omega), n_and (Nat.lt_of_le_of_lt (Nat.div_le_self _ _) (by omega)) 7 3 (by decide)]; exact hQ

theorem s_X4_echoer (hs : s < 2 ^ 31) (hQ : Q (some (.int (eI (dE s)))) M) : MS G yX4_echoer cX4_echoer 1 (some .int) d 0 0 [.int (nI s)] M Q QX := by
  refine MS.of (by decide) (by simp [Value.category]) (Nat.le_of_ble_eq_true rfl) ?_
  show AW _ _ _ _ _ _ [some _] _ _
  refine r_iload_n (q := 1) dX4_echoer_0 rfl rfl ?_
  refine r_bipush (v := nI 6) (q := 3) dX4_echoer_1 (by decide) rfl ?_
  refine r_ishr (q := 4) dX4_echoer_3 rfl ?_
  refine r_bipush (v := nI 7) (q := 6) dX4_echoer_4 (by decide) rfl ?_
  refine r_iand (q := 7) dX4_echoer_6 rfl ?_
  refine r_iconst (v := nI 1) (q := 8) dX4_echoer_7 (by decide) rfl ?_
  refine r_isub (q := 9) dX4_echoer_8 rfl ?_
  refine r_iret dX4_echoer_9 ?_
  rw [n_shr hs (by omega), n_and (Nat.lt_of_le_of_lt (Nat.div_le_self _ _) (by omega)) 7 3 (by decide)]; exact hQ

theorem s_X4_word (hs : s < 2 ^ 31) (hQ : Q (some (.int (nI (dD s)))) M) : MS G yX4_word cX4_word 1 (some .int) d 0 0 [.int (nI s)] M Q QX := by
  refine MS.of (by decide) (by simp [Value.category]) (Nat.le_of_ble_eq_true rfl) ?_
  show AW _ _ _ _ _ _ [some _] _ _
  refine r_iload_n (q := 1) dX4_word_0 rfl rfl ?_
  refine r_bipush (v := nI 9) (q := 3) dX4_word_1 (by decide) rfl ?_
  refine r_ishr (q := 4) dX4_word_3 rfl ?_
  refine r_sipush (v := nI 511) (q := 7) dX4_word_4 (by decide) rfl ?_
  refine r_iand (q := 8) dX4_word_7 rfl ?_
  refine r_iret dX4_word_8 ?_
  rw [n_shr hs (by omega), n_and (Nat.lt_of_le_of_lt (Nat.div_le_self _ _) (by omega)) 511 9 (by decide)]; exact hQ

theorem s_X4_hoursToCome (hs : s < 2 ^ 31) (hQ : Q (some (.int (nI (dH s)))) M) : MS G yX4_hoursToCome cX4_hoursToCome 1 (some .int) d 0 0 [.int (nI s)] M Q QX := by
  refine MS.of (by decide) (by simp [Value.category]) (Nat.le_of_ble_eq_true rfl) ?_
  show AW _ _ _ _ _ _ [some _] _ _
  refine r_iload_n (q := 1) dX4_hoursToCome_0 rfl rfl ?_
  refine r_bipush (v := nI 18) (q := 3) dX4_hoursToCome_1 (by decide) rfl ?_
  refine r_ishr (q := 4) dX4_hoursToCome_3 rfl ?_
  refine r_bipush (v := nI 7) (q := 6) dX4_hoursToCome_4 (by decide) rfl ?_
  refine r_iand (q := 7) dX4_hoursToCome_6 rfl ?_
  refine r_iret dX4_hoursToCome_7 ?_
  rw [n_shr hs (by omega), n_and (Nat.lt_of_le_of_lt (Nat.div_le_self _ _) (by omega)) 7 3 (by decide)]; exact hQ

theorem s_X4_anHourLater (hs : 262144 ≤ s) (hQ : Q (some (.int (nI (s - 262144)))) M) : MS G yX4_anHourLater cX4_anHourLater 1 (some .int) d 0 0 [.int (nI s)] M Q QX := by
  refine MS.of (by decide) (by simp [Value.category]) (Nat.le_of_ble_eq_true rfl) ?_
  show AW _ _ _ _ _ _ [some _] _ _
  refine r_iload_n (q := 1) dX4_anHourLater_0 rfl rfl ?_
  refine r_ldc (q := 3) dX4_anHourLater_1 kc_X4_9 rfl ?_
  refine r_isub (q := 4) dX4_anHourLater_3 rfl ?_
  refine r_iret dX4_anHourLater_4 ?_
  rw [show (262144 : Int32) = nI 262144 from rfl, n_sub hs]; exact hQ

theorem s_X4_isExposed (hs : s < 2 ^ 31) (hQ : Q (some (.int (bI (dX s)))) M) : MS G yX4_isExposed cX4_isExposed 1 (some .boolean) d 0 0 [.int (nI s)] M Q QX := by
  refine MS.of (by decide) (by simp [Value.category]) (Nat.le_of_ble_eq_true rfl) ?_
  show AW _ _ _ _ _ _ [some _] _ _
  refine r_iload_n (q := 1) dX4_isExposed_0 rfl rfl ?_
  refine r_ldc (q := 3) dX4_isExposed_1 kc_X4_10 rfl ?_
  refine r_iand (q := 4) dX4_isExposed_3 rfl ?_
  refine r_if_eq (t := 11) (q := 7) dX4_isExposed_4 rfl rfl (fun c4 => ?_) (fun c4 => ?_)
  · rw [show (2097152 : Int32) = nI (2 ^ 21) from rfl, fa_bit (by omega)] at c4
    refine r_iconst (v := nI 0) (q := 12) dX4_isExposed_11 (by decide) rfl ?_
    refine r_zret dX4_isExposed_12 rfl ?_
    first
      | (rw [bI_f (b := dX s) c4] at hQ; exact hQ)
      | (rw [bI_t (b := dX s) (by show s.testBit 21 = true; cases h9 : s.testBit 21 with | true => rfl | false => exact absurd h9 c4)] at hQ; exact hQ)
  · rw [show (2097152 : Int32) = nI (2 ^ 21) from rfl, fa_bit (by omega)] at c4
    refine r_iconst (v := nI 1) (q := 8) dX4_isExposed_7 (by decide) rfl ?_
    refine r_goto (t := 12) dX4_isExposed_8 rfl ?_
    refine r_zret dX4_isExposed_12 rfl ?_
    first
      | (rw [bI_f (b := dX s) c4] at hQ; exact hQ)
      | (rw [bI_t (b := dX s) (by show s.testBit 21 = true; cases h9 : s.testBit 21 with | true => rfl | false => exact absurd h9 c4)] at hQ; exact hQ)

theorem s_X4_asExposed (hQ : Q (some (.int (nI (s ||| 2097152)))) M) : MS G yX4_asExposed cX4_asExposed 1 (some .int) d 0 0 [.int (nI s)] M Q QX := by
  refine MS.of (by decide) (by simp [Value.category]) (Nat.le_of_ble_eq_true rfl) ?_
  show AW _ _ _ _ _ _ [some _] _ _
  refine r_iload_n (q := 1) dX4_asExposed_0 rfl rfl ?_
  refine r_ldc (q := 3) dX4_asExposed_1 kc_X4_10 rfl ?_
  refine r_ior (q := 4) dX4_asExposed_3 rfl ?_
  refine r_iret dX4_asExposed_4 ?_
  rw [show (2097152 : Int32) = nI 2097152 from rfl, n_or]; exact hQ

theorem s_X4_of {t h : Nat} (ht : t < 8) (hh : h < 8) (hw : w < 512) (hQ : Q (some (.int (nI (t + 8 * h + 512 * w)))) M) : MS G yX4_of cX4_of 3 (some .int) d 0 0 [.int (nI t), .int (nI h), .int (nI w)] M Q QX := by
  refine MS.of (by decide) (by simp [Value.category]) (Nat.le_of_ble_eq_true rfl) ?_
  show AW _ _ _ _ _ _ [some _, some _, some _] _ _
  refine r_iload_n (q := 1) dX4_of_0 rfl rfl ?_
  refine r_iload_n (q := 2) dX4_of_1 rfl rfl ?_
  refine r_iconst (v := nI 3) (q := 3) dX4_of_2 (by decide) rfl ?_
  refine r_ishl (q := 4) dX4_of_3 rfl ?_
  refine r_ior (q := 5) dX4_of_4 rfl ?_
  refine r_iload_n (q := 6) dX4_of_5 rfl rfl ?_
  refine r_bipush (v := nI 9) (q := 8) dX4_of_6 (by decide) rfl ?_
  refine r_ishl (q := 9) dX4_of_8 rfl ?_
  refine r_ior (q := 10) dX4_of_9 rfl ?_
  refine r_iret dX4_of_10 ?_
  rw [n_shl (by omega) (by omega), n_or, or_lo 3 ht, n_shl (by omega) (by omega), n_or, or_lo 9 (by omega)]
  rw [show t + h * 2 ^ 3 + w * 2 ^ 9 = t + 8 * h + 512 * w by omega]; exact hQ

theorem s_X4_echo {lo p dl : Nat} (hlo : lo < 64) (hw : w < 512) (hp : p < 7) (hdl : dl < 8) (hQ : Q (some (.int (nI (lo + 64 * (p + 1) + 512 * w + 262144 * dl)))) M) : MS G yX4_echo cX4_echo 3 (some .int) d 0 0 [.int (nI (lo + 512 * w)), .int (nI p), .int (nI dl)] M Q QX := by
  refine MS.of (by decide) (by simp [Value.category]) (Nat.le_of_ble_eq_true rfl) ?_
  show AW _ _ _ _ _ _ [some _, some _, some _] _ _
  refine r_iload_n (q := 1) dX4_echo_0 rfl rfl ?_
  refine r_iload_n (q := 2) dX4_echo_1 rfl rfl ?_
  refine r_iconst (v := nI 1) (q := 3) dX4_echo_2 (by decide) rfl ?_
  refine r_iadd (q := 4) dX4_echo_3 rfl ?_
  refine r_bipush (v := nI 6) (q := 6) dX4_echo_4 (by decide) rfl ?_
  refine r_ishl (q := 7) dX4_echo_6 rfl ?_
  refine r_ior (q := 8) dX4_echo_7 rfl ?_
  refine r_iload_n (q := 9) dX4_echo_8 rfl rfl ?_
  refine r_ldc (q := 11) dX4_echo_9 kc_X4_9 rfl ?_
  refine r_imul (q := 12) dX4_echo_11 rfl ?_
  refine r_ior (q := 13) dX4_echo_12 rfl ?_
  refine r_iret dX4_echo_13 ?_
  rw [n_add, n_shl (by omega) (by omega), n_or, show lo + 512 * w = lo + w * 2 ^ (6 + 3) by omega, or_mid 6 3 hlo (by omega), show (262144 : Int32) = nI (2 ^ 18) from rfl, n_mul, n_or, or_lo 18 (by omega)]
  rw [show lo + (p + 1) * 2 ^ 6 + w * 2 ^ (6 + 3) + dl * 2 ^ 18 = lo + 64 * (p + 1) + 512 * w + 262144 * dl by omega]; exact hQ

end W22
