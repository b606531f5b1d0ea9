/-! THE MODEL: whistles, lies, exposures, the way -/
section W54
variable {G : En} {Λ : Ob → Nat} {ρ : Me} {μ : Mg} {M : Me} {d : Nat} {Q : Option Value → Me → Prop} {QX : String → Me → Prop} {S : St} {F : Nat → Nat}
theorem mSt_uL {F : Nat → Nat} {l t w x : Nat} (hw : w < 10) (h2 : 2 ≤ w) : mSt (uL F l w x) t = mSt F t := by
  rw [mSt, mSt, lF_uL hw (by decide), lF_uL hw (by decide), if_neg (by omega), if_neg (by omega)]
theorem mSt_uN {F : Nat → Nat} {t j x : Nat} (ht : t < 7) (hj : j < 16 ∨ 92 ≤ j) : mSt (uN F j x) t = mSt F t := by
  rw [mSt, mSt, lF_uN hj ht (by decide), lF_uN hj ht (by decide)]
theorem WN_uL {F : Nat → Nat} {l t w x : Nat} (h : WN F t) (hw : w < 10) (h2 : 2 ≤ w) : WN (uL F l w x) t := by
  refine ⟨?_, ?_⟩
  · rw [lF_uL hw (by decide), if_neg (by omega)]; exact h.1
  · rw [lF_uL hw (by decide), if_neg (by omega)]; exact h.2
theorem WN_uN {F : Nat → Nat} {t j x : Nat} (h : WN F t) (ht : t < 7) (hj : j < 16 ∨ 92 ≤ j) : WN (uN F j x) t := by
  refine ⟨?_, ?_⟩
  · rw [lF_uN hj ht (by decide)]; exact h.1
  · rw [lF_uN hj ht (by decide)]; exact h.2
/-- what a whistle needs -/
def CN (F : Nat → Nat) : Prop := (∀ l, l < 7 → lF F l 3 < 2 ^ 28 ∧ lF F l 7 < 2 ^ 28) ∧ F 1 < 170 ∧ F 2 ≤ 140 ∧ F 3 < 170 ∧ F 4 < 2 ^ 28 ∧ F 5 < 2 ^ 28 ∧ ∀ p, p < 4 → pF F p 0 ≤ 5 ∧ pF F p 1 < 128
def whF (F : Nat → Nat) (l : Nat) : Nat → Nat := sgF (uL F l 9 1) l l (mSt F l)
def li1 (F : Nat → Nat) (l : Nat) : Nat → Nat := uN (uL (uL F l 9 2) l 7 (lF F l 7 + 1)) 5 (F 5 + 1)
def liF (F : Nat → Nat) (l t : Nat) : Nat → Nat := sgF (li1 F l) l t (2 * mSt F t)
theorem li1_l {F : Nat → Nat} {l l' w : Nat} (hl : l' < 7) (hw : w < 7) : lF (li1 F l) l' w = lF F l' w := by
  rw [li1, lF_uN (by omega) hl (by omega), lF_uL (by decide) (by omega), if_neg (by omega), lF_uL (by decide) (by omega), if_neg (by omega)]
theorem li1_p {F : Nat → Nat} {l p w : Nat} (hl : l < 7) (hp : p < 4) (hw : w < 3) : pF (li1 F l) p w = pF F p w := by
  rw [li1, pF_uN (by omega) hp hw, pF_uL hl (by decide), pF_uL hl (by decide)]
theorem li1_c {F : Nat → Nat} {l j : Nat} (hj : j < 16) (h5 : j ≠ 5) : li1 F l j = F j := by
  rw [li1, cF_uN h5, cF_uL hj, cF_uL hj]
theorem li1_st {F : Nat → Nat} {l t : Nat} (ht : t < 7) : mSt (li1 F l) t = mSt F t := by rw [mSt, mSt, li1_l ht (by decide), li1_l ht (by decide)]
theorem s_X9_whistles (h : RM G Λ ρ (sA μ 0 F) M) {l : Nat} (hl : l < 7) (hw : WN F l) (hst : mSt F l ≤ lF F l 3) (hc : CN F) (hQ : ∀ M', RM G Λ ρ (sA μ 0 (whF F l)) M' → Q (some (.int (nI (lF F l 3 - mSt F l)))) M')  : MS G yX9_whistles cX9_whistles 2 (some .int) (d + 3) 0 0 [.ref (Λ (10, 0, 0)), .int (nI l)] M Q QX := by
  refine MS.of (by decide) (by simp [Value.category]) (Nat.le_of_ble_eq_true rfl) ?_
  show AW _ (_, _, _, _, _, _, _, _, _) _ _ _ _ [some _, some _] _ _
  refine r_aload_n (q := 1) dX9_whistles_0 rfl rfl ?_
  refine r_iload_n (q := 2) dX9_whistles_1 rfl rfl ?_
  refine r_bipush (v := nI 9) (q := 4) dX9_whistles_2 (by decide) rfl ?_
  refine r_iconst (v := nI 1) (q := 5) dX9_whistles_4 (by decide) rfl ?_
  refine r_cV (q := 8) (As := [.int _, .int _, .int _]) wc_X9_104 rfl im_X9_ll se_X9_ll h.m rfl rfl (Nat.le_of_ble_eq_true rfl) (Nat.le_of_eq (Nat.zero_add _)) (Nat.le_of_eq (Nat.zero_add _)) dX9_whistles_5 rfl rfl (x_ll h rfl (by omega) (by decide) (by omega) fun M_5 h_5 => ?_)
  try simp only [gA_s, sA_u2, gA_sN, gN_sA] at h_5
  refine r_aload_n (q := 9) dX9_whistles_8 rfl rfl ?_
  refine r_iload_n (q := 10) dX9_whistles_9 rfl rfl ?_
  refine r_iload_n (q := 11) dX9_whistles_10 rfl rfl ?_
  refine r_aload_n (q := 12) dX9_whistles_11 rfl rfl ?_
  refine r_iload_n (q := 13) dX9_whistles_12 rfl rfl ?_
  refine r_cV (q := 16) (As := [.int _]) wc_X9_127 rfl im_X9_itsSteam se_X9_itsSteam h_5.m rfl rfl (Nat.le_of_ble_eq_true rfl) (Nat.le_of_eq (Nat.zero_add _)) (Nat.le_of_eq (Nat.zero_add _)) dX9_whistles_13 rfl rfl (s_X9_itsSteam h_5 hl (by rw [gA_s]; exact WN_uL hw (by decide) (by decide)) ?_)
  simp only [gA_s]
  rw [mSt_uL (by decide) (by decide)]
  have e3 : lF (uL F l 9 1) l 3 = lF F l 3 := by rw [lF_uL (by decide) (by decide), if_neg (by omega)]
  refine r_cV (q := 19) (As := [.int _, .int _, .int _]) wc_X9_193 rfl im_X9_sings se_X9_sings h_5.m rfl rfl (Nat.le_of_ble_eq_true rfl) (Nat.le_of_eq (Nat.zero_add _)) (Nat.le_of_eq (Nat.zero_add _)) dX9_whistles_16 rfl rfl (s_X9_sings h_5 hl hl (WN_uL hw (by decide) (by decide)) (by rw [e3]; exact hst) (by rw [e3]; exact (hc.1 l hl).1) (by rw [cF_uL (by decide)]; exact hc.2.1) (by rw [cF_uL (by decide)]; exact hc.2.2.1) (by rw [cF_uL (by decide)]; exact hc.2.2.2.1) (by rw [cF_uL (by decide)]; exact hc.2.2.2.2.1) (fun p hp => by rw [pF_uL hl (by decide), pF_uL hl (by decide)]; exact hc.2.2.2.2.2.2 p hp) fun M_16 h_16 => ?_)
  try simp only [gA_s, sA_u2, gA_sN, gN_sA] at h_16
  rw [e3]
  refine r_iret dX9_whistles_19 ?_
  exact hQ _ h_16
theorem s_X9_lies (h : RM G Λ ρ (sA μ 0 F) M) {l t : Nat} (hl : l < 7) (ht : t < 7) (hw : WN F t) (hst : 2 * mSt F t ≤ lF F l 3) (hc : CN F) (hQ : ∀ M', RM G Λ ρ (sA μ 0 (liF F l t)) M' → Q (some (.int (nI (lF F l 3 - 2 * mSt F t)))) M')  : MS G yX9_lies cX9_lies 3 (some .int) (d + 3) 0 0 [.ref (Λ (10, 0, 0)), .int (nI l), .int (nI t)] M Q QX := by
  have b7 := (hc.1 l hl).2
  have b5 := hc.2.2.2.2.2.1
  refine MS.of (by decide) (by simp [Value.category]) (Nat.le_of_ble_eq_true rfl) ?_
  show AW _ (_, _, _, _, _, _, _, _, _) _ _ _ _ [some _, some _, some _] _ _
  refine r_aload_n (q := 1) dX9_lies_0 rfl rfl ?_
  refine r_iload_n (q := 2) dX9_lies_1 rfl rfl ?_
  refine r_bipush (v := nI 9) (q := 4) dX9_lies_2 (by decide) rfl ?_
  refine r_iconst (v := nI 2) (q := 5) dX9_lies_4 (by decide) rfl ?_
  refine r_cV (q := 8) (As := [.int _, .int _, .int _]) wc_X9_104 rfl im_X9_ll se_X9_ll h.m rfl rfl (Nat.le_of_ble_eq_true rfl) (Nat.le_of_eq (Nat.zero_add _)) (Nat.le_of_eq (Nat.zero_add _)) dX9_lies_5 rfl rfl (x_ll h rfl (by omega) (by decide) (by omega) fun M_5 h_5 => ?_)
  try simp only [gA_s, sA_u2, gA_sN, gN_sA] at h_5
  refine r_aload_n (q := 9) dX9_lies_8 rfl rfl ?_
  refine r_iload_n (q := 10) dX9_lies_9 rfl rfl ?_
  refine r_bipush (v := nI 7) (q := 12) dX9_lies_10 (by decide) rfl ?_
  refine r_aload_n (q := 13) dX9_lies_12 rfl rfl ?_
  refine r_iload_n (q := 14) dX9_lies_13 rfl rfl ?_
  refine r_bipush (v := nI 7) (q := 16) dX9_lies_14 (by decide) rfl ?_
  refine r_cV (q := 19) (As := [.int _, .int _]) wc_X9_108 rfl im_X9_lv se_X9_lv h_5.m rfl rfl (Nat.le_of_ble_eq_true rfl) (Nat.le_of_eq (Nat.zero_add _)) (Nat.le_of_eq (Nat.zero_add _)) dX9_lies_16 rfl rfl (x_lv h_5 (by omega) (by decide) ?_)
  intro b16
  simp only [gA_s] at b16 ⊢
  rw [show lF (uL F l 9 2) l 7 = lF F l 7 by rw [lF_uL (by decide) (by decide), if_neg (by omega)]]
  refine r_iconst (v := nI 1) (q := 20) dX9_lies_19 (by decide) rfl ?_
  refine r_iadd (q := 21) dX9_lies_20 rfl ?_
  refine r_cV (q := 24) (As := [.int _, .int _, .int _]) wc_X9_104 rfl im_X9_ll se_X9_ll h_5.m rfl rfl (Nat.le_of_ble_eq_true rfl) (Nat.le_of_eq (Nat.zero_add _)) (Nat.le_of_eq (Nat.zero_add _)) dX9_lies_21 rfl rfl (x_ll h_5 (n_add _ _) (by omega) (by decide) (by omega) fun M_21 h_21 => ?_)
  try simp only [gA_s, sA_u2, gA_sN, gN_sA] at h_21
  refine r_aload_n (q := 25) dX9_lies_24 rfl rfl ?_
  refine r_get (q := 28) (kk := 0) h_21.m rfl wi_RX9 (by decide) rfl fk_X9_7 rfl dX9_lies_25 rfl ?_
  refine r_iconst (v := nI 5) (q := 29) dX9_lies_28 (by decide) rfl ?_
  refine r_dup2 (q := 30) dX9_lies_29 rfl rfl rfl ?_
  refine r_ialdM (q := 31) h_21 (by decide) (by simp only [mLen]; omega) dX9_lies_30 rfl ?_
  rw [show gA (sA μ 0 (uL (uL F l 9 2) l 7 (lF F l 7 + 1))) 0 (5) = F 5 by rw [gA_s, cF_uL (by decide), cF_uL (by decide)]]
  refine r_iconst (v := nI 1) (q := 32) dX9_lies_31 (by decide) rfl ?_
  refine r_iadd (q := 33) dX9_lies_32 rfl ?_
  rw [n_add]
  refine r_iastM (q := 34) h_21 (by decide) (by simp only [mLen]; omega) (by omega) dX9_lies_33 rfl fun M_33 h_33 => ?_
  simp only [gA_s, sA_u2] at h_33
  refine r_aload_n (q := 35) dX9_lies_34 rfl rfl ?_
  refine r_iload_n (q := 36) dX9_lies_35 rfl rfl ?_
  refine r_iload_n (q := 37) dX9_lies_36 rfl rfl ?_
  refine r_iconst (v := nI 2) (q := 38) dX9_lies_37 (by decide) rfl ?_
  refine r_aload_n (q := 39) dX9_lies_38 rfl rfl ?_
  refine r_iload_n (q := 40) dX9_lies_39 rfl rfl ?_
  refine r_cV (q := 43) (As := [.int _]) wc_X9_127 rfl im_X9_itsSteam se_X9_itsSteam h_33.m rfl rfl (Nat.le_of_ble_eq_true rfl) (Nat.le_of_eq (Nat.zero_add _)) (Nat.le_of_eq (Nat.zero_add _)) dX9_lies_40 rfl rfl (s_X9_itsSteam h_33 ht (by rw [gA_s]; exact WN_uN (WN_uL (WN_uL hw (by decide) (by decide)) (by decide) (by decide)) ht (by omega)) ?_)
  simp only [gA_s]
  rw [show mSt (uN (uL (uL F l 9 2) l 7 (lF F l 7 + 1)) 5 (F 5 + 1)) t = mSt F t from li1_st ht]
  refine r_imul (q := 44) dX9_lies_43 rfl ?_
  rw [n_mul]
  refine r_cV (q := 47) (As := [.int _, .int _, .int _]) wc_X9_193 rfl im_X9_sings se_X9_sings h_33.m rfl rfl (Nat.le_of_ble_eq_true rfl) (Nat.le_of_eq (Nat.zero_add _)) (Nat.le_of_eq (Nat.zero_add _)) dX9_lies_44 rfl rfl (s_X9_sings (F := li1 F l) h_33 hl ht ⟨by rw [li1_l ht (by decide)]; exact hw.1, by rw [li1_l ht (by decide)]; exact hw.2⟩ (by rw [li1_l hl (by decide)]; exact hst) (by rw [li1_l hl (by decide)]; exact (hc.1 l hl).1) (by rw [li1_c (by decide) (by decide)]; exact hc.2.1) (by rw [li1_c (by decide) (by decide)]; exact hc.2.2.1) (by rw [li1_c (by decide) (by decide)]; exact hc.2.2.2.1) (by rw [li1_c (by decide) (by decide)]; exact hc.2.2.2.2.1) (fun p hp => by rw [li1_p hl hp (by decide), li1_p hl hp (by decide)]; exact hc.2.2.2.2.2.2 p hp) fun M_44 h_44 => ?_)
  try simp only [gA_s, sA_u2, gA_sN, gN_sA] at h_44
  rw [li1_l hl (by decide)]
  refine r_iret dX9_lies_47 ?_
  exact hQ _ h_44
def shF (F : Nat → Nat) (a k : Nat) : Nat → Nat := fun j => if 110 + a ≤ j ∧ j < 110 + k then F (j + 1) else F j
theorem shF_0 {F : Nat → Nat} {a : Nat} : shF F a a = F := by funext j; unfold shF; rw [if_neg (by omega)]
theorem shF_s {F : Nat → Nat} {a k : Nat} (h : a ≤ k) : uN (shF F a k) (110 + k) (F (110 + k + 1)) = shF F a (k + 1) := by
  funext j; unfold uN shF
  by_cases e : j = 110 + k
  · rw [if_pos e, if_pos (by omega), e]
  · rw [if_neg e]
    by_cases e2 : 110 + a ≤ j ∧ j < 110 + k
    · rw [if_pos e2, if_pos (by omega)]
    · rw [if_neg e2, if_neg (by omega)]
def ex1 (F : Nat → Nat) (a : Nat) : Nat → Nat := uN (shF (uN F 1 (F 1 - 1)) a (F 1 - 1)) (110 + (F 1 - 1)) 0
def exF (F : Nat → Nat) (l a : Nat) : Nat → Nat := uN (uL (uL (uL (ex1 F a) l 9 3) l 8 (lF F l 8 + 1)) l 5 (lF F l 5 + 3)) 6 (F 6 + 1)
theorem ex1_l {F : Nat → Nat} {a l w : Nat} (hl : l < 7) (hw : w < 10) : lF (ex1 F a) l w = lF F l w := by
  rw [ex1, lF_uN (by omega) hl hw]
  show shF (uN F 1 (F 1 - 1)) a (F 1 - 1) (16 + 10 * l + w) = _
  rw [shF, if_neg (by omega)]
  exact cF_uN (by omega)
theorem ex1_c {F : Nat → Nat} {a j : Nat} (hj : j < 110) (h1 : j ≠ 1) : ex1 F a j = F j := by
  rw [ex1, cF_uN (by omega), shF, if_neg (by omega), cF_uN h1]
/-- a line's own whistle among what is heard -/
def isW (F : Nat → Nat) (l i : Nat) : Prop := F (110 + i) / 4096 % 8 = l ∧ F (110 + i) / 512 % 8 = 0
theorem s_X9_exposes (h : RM G Λ ρ (sA μ 0 F) M) {l a : Nat} (hl : l < 7) (ha : a < F 1) (hno : ∀ i, i < a → ¬ isW F l i) (hat : isW F l a) (h1 : 1 ≤ F 1) (hc1 : F 1 < 170) (h8 : lF F l 8 < 2 ^ 28) (h5 : lF F l 5 < 2 ^ 28) (h6 : F 6 < 2 ^ 28) (hQ : ∀ M', RM G Λ ρ (sA μ 0 (exF F l a)) M' → Q (some (.int (nI (lF F l 5 + 3)))) M')  : MS G yX9_exposes cX9_exposes 4 (some .int) (d + 1) 0 0 [.ref (Λ (10, 0, 0)), .int (nI l)] M Q QX := by
  have loop2 : ∀ (m : Nat) k (M1 : Me), m = F 1 - 1 - k → a ≤ k → k ≤ F 1 - 1 → RM G Λ ρ (sA μ 0 (shF (uN F 1 (F 1 - 1)) a k)) M1 → AW G (wX G yX9_exposes cX9_exposes 4 (some .int) 0 0 Q QX) (d + 1) 0 0 51 [some (.ref (Λ (10, 0, 0))), some (.int (nI l)), some (.int (nI a)), some (.int (nI k))] [] M1 := by
    intro m
    induction m using Nat.strongRecOn with
    | _ m ih =>
    intro k M1 hm hk hk2 h1
    subst hm
    refine r_iload_n (q := 52) dX9_exposes_51 rfl rfl ?_
    refine r_aload_n (q := 53) dX9_exposes_52 rfl rfl ?_
    refine r_get (q := 56) (kk := 0) h1.m rfl wi_RX9 (by decide) rfl fk_X9_7 rfl dX9_exposes_53 rfl ?_
    refine r_iconst (v := nI 1) (q := 57) dX9_exposes_56 (by decide) rfl ?_
    refine r_ialdM (q := 58) h1 (by decide) (by simp only [mLen]; omega) dX9_exposes_57 rfl ?_
    rw [show gA (sA μ 0 (shF (uN F 1 (F 1 - 1)) a k)) 0 1 = F 1 - 1 by rw [gA_s, shF, if_neg (by omega), uN_s]]
    refine r_icmp_ge (t := 87) (q := 61) dX9_exposes_58 rfl rfl (fun c58 => ?_) (fun c58 => ?_)
    · simp (disch := omega) only [nI_leI, nI_ltI, nI_eq, nI_lt0, nI_ge0, nI_gt0, nI_le0, nI_eq0] at c58
      obtain rfl : k = F 1 - 1 := by omega
      refine r_aload_n (q := 88) dX9_exposes_87 rfl rfl ?_
      refine r_get (q := 91) (kk := 0) h1.m rfl wi_RX9 (by decide) rfl fk_X9_7 rfl dX9_exposes_88 rfl ?_
      refine r_bipush (v := nI 110) (q := 93) dX9_exposes_91 (by decide) rfl ?_
      refine r_aload_n (q := 94) dX9_exposes_93 rfl rfl ?_
      refine r_get (q := 97) (kk := 0) h1.m rfl wi_RX9 (by decide) rfl fk_X9_7 rfl dX9_exposes_94 rfl ?_
      refine r_iconst (v := nI 1) (q := 98) dX9_exposes_97 (by decide) rfl ?_
      refine r_ialdM (q := 99) h1 (by decide) (by simp only [mLen]; omega) dX9_exposes_98 rfl ?_
      rw [show gA (sA μ 0 (shF (uN F 1 (F 1 - 1)) a (F 1 - 1))) 0 1 = F 1 - 1 by rw [gA_s, shF, if_neg (by omega), uN_s]]
      refine r_iadd (q := 100) dX9_exposes_99 rfl ?_
      rw [n_add]
      refine r_iconst (v := nI 0) (q := 101) dX9_exposes_100 (by decide) rfl ?_
      refine r_iastM (q := 102) h1 (by decide) (by simp only [mLen]; omega) (by omega) dX9_exposes_101 rfl fun M_101 h1_101 => ?_
      simp only [gA_s, sA_u2] at h1_101
      replace h1_101 : RM G Λ ρ (sA μ 0 (ex1 F a)) M_101 := h1_101
      refine r_aload_n (q := 103) dX9_exposes_102 rfl rfl ?_
      refine r_iload_n (q := 104) dX9_exposes_103 rfl rfl ?_
      refine r_bipush (v := nI 9) (q := 106) dX9_exposes_104 (by decide) rfl ?_
      refine r_iconst (v := nI 3) (q := 107) dX9_exposes_106 (by decide) rfl ?_
      refine r_cV (q := 110) (As := [.int _, .int _, .int _]) wc_X9_104 rfl im_X9_ll se_X9_ll h1_101.m rfl rfl (Nat.le_of_ble_eq_true rfl) (Nat.le_of_eq (Nat.zero_add _)) (Nat.le_of_eq (Nat.zero_add _)) dX9_exposes_107 rfl rfl (x_ll h1_101 rfl (by omega) (by decide) (by omega) fun M_107 h1_107 => ?_)
      try simp only [gA_s, sA_u2, gA_sN, gN_sA] at h1_107
      refine r_aload_n (q := 111) dX9_exposes_110 rfl rfl ?_
      refine r_iload_n (q := 112) dX9_exposes_111 rfl rfl ?_
      refine r_bipush (v := nI 8) (q := 114) dX9_exposes_112 (by decide) rfl ?_
      refine r_aload_n (q := 115) dX9_exposes_114 rfl rfl ?_
      refine r_iload_n (q := 116) dX9_exposes_115 rfl rfl ?_
      refine r_bipush (v := nI 8) (q := 118) dX9_exposes_116 (by decide) rfl ?_
      refine r_cV (q := 121) (As := [.int _, .int _]) wc_X9_108 rfl im_X9_lv se_X9_lv h1_107.m rfl rfl (Nat.le_of_ble_eq_true rfl) (Nat.le_of_eq (Nat.zero_add _)) (Nat.le_of_eq (Nat.zero_add _)) dX9_exposes_118 rfl rfl (x_lv h1_107 (by omega) (by decide) ?_)
      intro b118
      simp only [gA_s] at b118 ⊢
      rw [show lF (uL (ex1 F a) l 9 3) l 8 = lF F l 8 by rw [lF_uL (by decide) (by decide), if_neg (by omega), ex1_l hl (by decide)]]
      refine r_iconst (v := nI 1) (q := 122) dX9_exposes_121 (by decide) rfl ?_
      refine r_iadd (q := 123) dX9_exposes_122 rfl ?_
      refine r_cV (q := 126) (As := [.int _, .int _, .int _]) wc_X9_104 rfl im_X9_ll se_X9_ll h1_107.m rfl rfl (Nat.le_of_ble_eq_true rfl) (Nat.le_of_eq (Nat.zero_add _)) (Nat.le_of_eq (Nat.zero_add _)) dX9_exposes_123 rfl rfl (x_ll h1_107 (n_add _ _) (by omega) (by decide) (by omega) fun M_123 h1_123 => ?_)
      try simp only [gA_s, sA_u2, gA_sN, gN_sA] at h1_123
      refine r_aload_n (q := 127) dX9_exposes_126 rfl rfl ?_
      refine r_iload_n (q := 128) dX9_exposes_127 rfl rfl ?_
      refine r_iconst (v := nI 5) (q := 129) dX9_exposes_128 (by decide) rfl ?_
      refine r_aload_n (q := 130) dX9_exposes_129 rfl rfl ?_
      refine r_iload_n (q := 131) dX9_exposes_130 rfl rfl ?_
      refine r_iconst (v := nI 5) (q := 132) dX9_exposes_131 (by decide) rfl ?_
      refine r_cV (q := 135) (As := [.int _, .int _]) wc_X9_108 rfl im_X9_lv se_X9_lv h1_123.m rfl rfl (Nat.le_of_ble_eq_true rfl) (Nat.le_of_eq (Nat.zero_add _)) (Nat.le_of_eq (Nat.zero_add _)) dX9_exposes_132 rfl rfl (x_lv h1_123 (by omega) (by decide) ?_)
      intro b132
      simp only [gA_s] at b132 ⊢
      rw [show lF (uL (uL (ex1 F a) l 9 3) l 8 (lF F l 8 + 1)) l 5 = lF F l 5 by rw [lF_uL (by decide) (by decide), if_neg (by omega), lF_uL (by decide) (by decide), if_neg (by omega), ex1_l hl (by decide)]]
      refine r_iconst (v := nI 3) (q := 136) dX9_exposes_135 (by decide) rfl ?_
      refine r_iadd (q := 137) dX9_exposes_136 rfl ?_
      refine r_cV (q := 140) (As := [.int _, .int _, .int _]) wc_X9_104 rfl im_X9_ll se_X9_ll h1_123.m rfl rfl (Nat.le_of_ble_eq_true rfl) (Nat.le_of_eq (Nat.zero_add _)) (Nat.le_of_eq (Nat.zero_add _)) dX9_exposes_137 rfl rfl (x_ll h1_123 (n_add _ _) (by omega) (by decide) (by omega) fun M_137 h1_137 => ?_)
      try simp only [gA_s, sA_u2, gA_sN, gN_sA] at h1_137
      refine r_aload_n (q := 141) dX9_exposes_140 rfl rfl ?_
      refine r_get (q := 144) (kk := 0) h1_137.m rfl wi_RX9 (by decide) rfl fk_X9_7 rfl dX9_exposes_141 rfl ?_
      refine r_bipush (v := nI 6) (q := 146) dX9_exposes_144 (by decide) rfl ?_
      refine r_dup2 (q := 147) dX9_exposes_146 rfl rfl rfl ?_
      refine r_ialdM (q := 148) h1_137 (by decide) (by simp only [mLen]; omega) dX9_exposes_147 rfl ?_
      rw [show gA (sA μ 0 (uL (uL (uL (ex1 F a) l 9 3) l 8 (lF F l 8 + 1)) l 5 (lF F l 5 + 3))) 0 (6) = F 6 by rw [gA_s, cF_uL (by decide), cF_uL (by decide), cF_uL (by decide), ex1_c (by decide) (by decide)]]
      refine r_iconst (v := nI 1) (q := 149) dX9_exposes_148 (by decide) rfl ?_
      refine r_iadd (q := 150) dX9_exposes_149 rfl ?_
      rw [n_add]
      refine r_iastM (q := 151) h1_137 (by decide) (by simp only [mLen]; omega) (by omega) dX9_exposes_150 rfl fun M_150 h1_150 => ?_
      simp only [gA_s, sA_u2] at h1_150
      refine r_aload_n (q := 152) dX9_exposes_151 rfl rfl ?_
      refine r_iload_n (q := 153) dX9_exposes_152 rfl rfl ?_
      refine r_iconst (v := nI 5) (q := 154) dX9_exposes_153 (by decide) rfl ?_
      refine r_cV (q := 157) (As := [.int _, .int _]) wc_X9_108 rfl im_X9_lv se_X9_lv h1_150.m rfl rfl (Nat.le_of_ble_eq_true rfl) (Nat.le_of_eq (Nat.zero_add _)) (Nat.le_of_eq (Nat.zero_add _)) dX9_exposes_154 rfl rfl (x_lv h1_150 (by omega) (by decide) ?_)
      intro b154
      simp only [gA_s]
      rw [lF_uN (by omega) hl (by decide), lF_uLs]
      refine r_iret dX9_exposes_157 ?_
      exact hQ _ h1_150
    · simp (disch := omega) only [nI_leI, nI_ltI, nI_eq, nI_lt0, nI_ge0, nI_gt0, nI_le0, nI_eq0] at c58
      refine r_aload_n (q := 62) dX9_exposes_61 rfl rfl ?_
      refine r_get (q := 65) (kk := 0) h1.m rfl wi_RX9 (by decide) rfl fk_X9_7 rfl dX9_exposes_62 rfl ?_
      refine r_bipush (v := nI 110) (q := 67) dX9_exposes_65 (by decide) rfl ?_
      refine r_iload_n (q := 68) dX9_exposes_67 rfl rfl ?_
      refine r_iadd (q := 69) dX9_exposes_68 rfl ?_
      rw [n_add]
      refine r_aload_n (q := 70) dX9_exposes_69 rfl rfl ?_
      refine r_get (q := 73) (kk := 0) h1.m rfl wi_RX9 (by decide) rfl fk_X9_7 rfl dX9_exposes_70 rfl ?_
      refine r_bipush (v := nI 110) (q := 75) dX9_exposes_73 (by decide) rfl ?_
      refine r_iload_n (q := 76) dX9_exposes_75 rfl rfl ?_
      refine r_iadd (q := 77) dX9_exposes_76 rfl ?_
      rw [n_add]
      refine r_iconst (v := nI 1) (q := 78) dX9_exposes_77 (by decide) rfl ?_
      refine r_iadd (q := 79) dX9_exposes_78 rfl ?_
      rw [n_add]
      refine r_ialdM (q := 80) h1 (by decide) (by simp only [mLen]; omega) dX9_exposes_79 rfl ?_
      have b79 : gA (sA μ 0 (shF (uN F 1 (F 1 - 1)) a k)) 0 (110 + k + 1) < 2 ^ 31 := h1.lt (by decide) (by show 110 + k + 1 < 640; omega)
      have e79 : gA (sA μ 0 (shF (uN F 1 (F 1 - 1)) a k)) 0 (110 + k + 1) = uN F 1 (F 1 - 1) (110 + k + 1) := by rw [gA_s, shF, if_neg (by omega)]
      rw [e79] at b79 ⊢
      refine r_iastM (q := 81) h1 (by decide) (by simp only [mLen]; omega) (by omega) dX9_exposes_80 rfl fun M_80 h1_80 => ?_
      simp only [gA_s, sA_u2] at h1_80
      rw [shF_s hk] at h1_80
      refine r_inc1 (q := 84) dX9_exposes_81 rfl (Nat.le_of_ble_eq_true rfl) rfl rfl ?_
      show AW _ (_, _, _, _, _, _, _, _, _) _ _ _ _ [some _, some _, some _, some _] _ _
      refine r_goto (t := 51) dX9_exposes_84 rfl ?_
      exact ih (F 1 - 1 - (k + 1)) (by omega) (k + 1) _ rfl (by omega) (by omega) h1_80
  have cont : ∀ u, AW G (wX G yX9_exposes cX9_exposes 4 (some .int) 0 0 Q QX) (d + 1) 0 0 39 [some (.ref (Λ (10, 0, 0))), some (.int (nI l)), some (.int (nI a)), u] [] M := by
    intro u
    refine r_aload_n (q := 40) dX9_exposes_39 rfl rfl ?_
    refine r_get (q := 43) (kk := 0) h.m rfl wi_RX9 (by decide) rfl fk_X9_7 rfl dX9_exposes_40 rfl ?_
    refine r_iconst (v := nI 1) (q := 44) dX9_exposes_43 (by decide) rfl ?_
    refine r_dup2 (q := 45) dX9_exposes_44 rfl rfl rfl ?_
    refine r_ialdM (q := 46) h (by decide) (by simp only [mLen]; omega) dX9_exposes_45 rfl ?_
    simp only [gA_s]
    refine r_iconst (v := nI 1) (q := 47) dX9_exposes_46 (by decide) rfl ?_
    refine r_isub (q := 48) dX9_exposes_47 rfl ?_
    rw [n_sub h1]
    refine r_iastM (q := 49) h (by decide) (by simp only [mLen]; omega) (by omega) dX9_exposes_48 rfl fun M_48 h_48 => ?_
    simp only [gA_s, sA_u2] at h_48
    refine r_iload_n (q := 50) dX9_exposes_49 rfl rfl ?_
    refine r_istore_n (q := 51) dX9_exposes_50 (Nat.le_of_ble_eq_true rfl) rfl rfl ?_
    show AW _ (_, _, _, _, _, _, _, _, _) _ _ _ _ [some _, some _, some _, some _] _ _
    exact loop2 _ a _ rfl (Nat.le_refl _) (by omega) (by rw [shF_0]; exact h_48)
  have loop : ∀ (m : Nat) k u, m = a - k → k ≤ a → AW G (wX G yX9_exposes cX9_exposes 4 (some .int) 0 0 Q QX) (d + 1) 0 0 2 [some (.ref (Λ (10, 0, 0))), some (.int (nI l)), some (.int (nI k)), u] [] M := by
    intro m
    induction m using Nat.strongRecOn with
    | _ m ih =>
    intro k u hm hk
    subst hm
    refine r_aload_n (q := 3) dX9_exposes_2 rfl rfl ?_
    refine r_get (q := 6) (kk := 0) h.m rfl wi_RX9 (by decide) rfl fk_X9_7 rfl dX9_exposes_3 rfl ?_
    refine r_bipush (v := nI 110) (q := 8) dX9_exposes_6 (by decide) rfl ?_
    refine r_iload_n (q := 9) dX9_exposes_8 rfl rfl ?_
    refine r_iadd (q := 10) dX9_exposes_9 rfl ?_
    rw [n_add]
    refine r_ialdM (q := 11) h (by decide) (by simp only [mLen]; omega) dX9_exposes_10 rfl ?_
    have b10 : gA (sA μ 0 F) 0 (110 + k) < 2 ^ 31 := h.lt (by decide) (by show 110 + k < 640; omega)
    simp only [gA_s] at b10 ⊢
    have d10 : F (110 + k) / 4096 % 8 < 8 := Nat.mod_lt _ (by decide)
    have g10 : F (110 + k) / 512 % 8 < 8 := Nat.mod_lt _ (by decide)
    refine r_cS (q := 14) (As := [.int _]) wc_X9_205 st_X9_byIn rfl (Nat.le_of_ble_eq_true rfl) (Nat.le_of_eq (Nat.zero_add _)) (Nat.le_of_eq (Nat.zero_add _)) dX9_exposes_11 rfl rfl (s_X9_byIn b10 ?_)
    refine r_iload_n (q := 15) dX9_exposes_14 rfl rfl ?_
    refine r_icmp_ne (t := 33) (q := 18) dX9_exposes_15 rfl rfl (fun c15 => ?_) (fun c15 => ?_)
    · simp (disch := omega) only [nI_leI, nI_ltI, nI_eq, nI_lt0, nI_ge0, nI_gt0, nI_le0, nI_eq0] at c15
      refine r_inc1 (q := 36) dX9_exposes_33 rfl (Nat.le_of_ble_eq_true rfl) rfl rfl ?_
      show AW _ (_, _, _, _, _, _, _, _, _) _ _ _ _ [some _, some _, some _, _] _ _
      refine r_goto (t := 2) dX9_exposes_36 rfl ?_
      have hka : k < a := Nat.lt_of_le_of_ne hk fun e => by subst e; first | exact c30 hat.2 | exact c15 hat.1
      exact ih (a - (k + 1)) (by omega) (k + 1) u rfl hka
    · simp (disch := omega) only [nI_leI, nI_ltI, nI_eq, nI_lt0, nI_ge0, nI_gt0, nI_le0, nI_eq0] at c15
      refine r_aload_n (q := 19) dX9_exposes_18 rfl rfl ?_
      refine r_get (q := 22) (kk := 0) h.m rfl wi_RX9 (by decide) rfl fk_X9_7 rfl dX9_exposes_19 rfl ?_
      refine r_bipush (v := nI 110) (q := 24) dX9_exposes_22 (by decide) rfl ?_
      refine r_iload_n (q := 25) dX9_exposes_24 rfl rfl ?_
      refine r_iadd (q := 26) dX9_exposes_25 rfl ?_
      rw [n_add]
      refine r_ialdM (q := 27) h (by decide) (by simp only [mLen]; omega) dX9_exposes_26 rfl ?_
      simp only [gA_s]
      refine r_cS (q := 30) (As := [.int _]) wc_X9_208 st_X9_platformIn rfl (Nat.le_of_ble_eq_true rfl) (Nat.le_of_eq (Nat.zero_add _)) (Nat.le_of_eq (Nat.zero_add _)) dX9_exposes_27 rfl rfl (s_X9_platformIn b10 ?_)
      refine r_if_lt (t := 39) (q := 33) dX9_exposes_30 rfl rfl (fun c30 => ?_) (fun c30 => ?_)
      · rw [eI_neg g10] at c30
        obtain rfl : k = a := Decidable.byContradiction fun e => hno k (by omega) ⟨c15, c30⟩
        exact cont u
      · rw [eI_neg g10] at c30
        refine r_inc1 (q := 36) dX9_exposes_33 rfl (Nat.le_of_ble_eq_true rfl) rfl rfl ?_
        show AW _ (_, _, _, _, _, _, _, _, _) _ _ _ _ [some _, some _, some _, _] _ _
        refine r_goto (t := 2) dX9_exposes_36 rfl ?_
        have hka : k < a := Nat.lt_of_le_of_ne hk fun e => by subst e; first | exact c30 hat.2 | exact c15 hat.1
        exact ih (a - (k + 1)) (by omega) (k + 1) u rfl hka
  refine MS.of (by decide) (by simp [Value.category]) (Nat.le_of_ble_eq_true rfl) ?_
  show AW _ (_, _, _, _, _, _, _, _, _) _ _ _ _ [some _, some _, _, _] _ _
  refine r_iconst (v := nI 0) (q := 1) dX9_exposes_0 (by decide) rfl ?_
  refine r_istore_n (q := 2) dX9_exposes_1 (Nat.le_of_ble_eq_true rfl) rfl rfl ?_
  show AW _ (_, _, _, _, _, _, _, _, _) _ _ _ _ [some _, some _, some _, _] _ _
  exact loop _ 0 none rfl (Nat.zero_le _)
def tol (F : Nat → Nat) (i : Nat) : Nat := F (110 + i) / 32768 % 8
def mB (F : Nat → Nat) (a k : Nat) : Nat := if a = 0 ∨ lF F (tol F (a - 1)) 2 < lF F (tol F k) 2 then k + 1 else a
def mBest (F : Nat → Nat) : Nat := (List.range (F 1)).foldl (mB F) 0
theorem mBs_le {F : Nat → Nat} : ∀ k, (List.range k).foldl (mB F) 0 ≤ k
  | 0 => Nat.le_refl _
  | k + 1 => by have := mBs_le (F := F) k; rw [fold_s, mB]; split <;> omega
theorem mBest_le {F : Nat → Nat} : mBest F ≤ F 1 := mBs_le _
def mWv (F : Nat → Nat) (a : Nat) : Int32 := if a = 0 then -1 else if F (110 + (a - 1)) / 512 % 8 = 0 then nI (F (110 + (a - 1)) / 4096 % 8) else -2
theorem s_X9_wayAt (h : RM G Λ ρ (sA μ 0 F) M) (hc1 : F 1 < 170) (htl : ∀ i, i < F 1 → tol F i < 7) (hQ : Q (some (.int (eI (mBest F)))) M)  : MS G yX9_wayAt cX9_wayAt 3 (some .int) (d + 1) 0 0 [.ref (Λ (10, 0, 0))] M Q QX := by
  have loop : ∀ (m : Nat) k, m = F 1 - k → k ≤ F 1 → AW G (wX G yX9_wayAt cX9_wayAt 3 (some .int) 0 0 Q QX) (d + 1) 0 0 4 [some (.ref (Λ (10, 0, 0))), some (.int (eI ((List.range k).foldl (mB F) 0))), some (.int (nI k))] [] M := by
    intro m
    induction m using Nat.strongRecOn with
    | _ m ih =>
    intro k hm hk
    subst hm
    have hle := mBs_le (F := F) k
    refine r_iload_n (q := 5) dX9_wayAt_4 rfl rfl ?_
    refine r_aload_n (q := 6) dX9_wayAt_5 rfl rfl ?_
    refine r_get (q := 9) (kk := 0) h.m rfl wi_RX9 (by decide) rfl fk_X9_7 rfl dX9_wayAt_6 rfl ?_
    refine r_iconst (v := nI 1) (q := 10) dX9_wayAt_9 (by decide) rfl ?_
    refine r_ialdM (q := 11) h (by decide) (by simp only [mLen]; omega) dX9_wayAt_10 rfl ?_
    rw [gA_s]
    refine r_icmp_ge (t := 63) (q := 14) dX9_wayAt_11 rfl rfl (fun c11 => ?_) (fun c11 => ?_)
    · simp (disch := omega) only [nI_leI, nI_ltI, nI_eq, nI_lt0, nI_ge0, nI_gt0, nI_le0, nI_eq0] at c11
      obtain rfl : k = F 1 := by omega
      refine r_iload_n (q := 64) dX9_wayAt_63 rfl rfl ?_
      refine r_iret dX9_wayAt_64 ?_
      exact hQ
    · simp (disch := omega) only [nI_leI, nI_ltI, nI_eq, nI_lt0, nI_ge0, nI_gt0, nI_le0, nI_eq0] at c11
      refine r_iload_n (q := 15) dX9_wayAt_14 rfl rfl ?_
      refine r_if_lt (t := 55) (q := 18) dX9_wayAt_15 rfl rfl (fun c15 => ?_) (fun c15 => ?_)
      · rw [eI_neg2 (by omega)] at c15
        have e : (List.range (k + 1)).foldl (mB F) 0 = k + 1 := by rw [fold_s, mB, if_pos (Or.inl c15)]
        refine r_iload_n (q := 56) dX9_wayAt_55 rfl rfl ?_
        refine r_istore_n (q := 57) dX9_wayAt_56 (Nat.le_of_ble_eq_true rfl) rfl rfl ?_
        show AW _ (_, _, _, _, _, _, _, _, _) _ _ _ _ [some _, some _, some _] _ _
        refine r_inc1 (q := 60) dX9_wayAt_57 rfl (Nat.le_of_ble_eq_true rfl) rfl rfl ?_
        show AW _ (_, _, _, _, _, _, _, _, _) _ _ _ _ [some _, some _, some _] _ _
        refine r_goto (t := 4) dX9_wayAt_60 rfl ?_
        have ih9 := ih (F 1 - (k + 1)) (by omega) (k + 1) rfl (by omega)
        first
          | (rw [e, eI_s] at ih9; exact ih9)
          | (rw [e, ha1, eI_s] at ih9; exact ih9)
      · rw [eI_neg2 (by omega)] at c15
        refine r_aload_n (q := 19) dX9_wayAt_18 rfl rfl ?_
        refine r_aload_n (q := 20) dX9_wayAt_19 rfl rfl ?_
        refine r_get (q := 23) (kk := 0) h.m rfl wi_RX9 (by decide) rfl fk_X9_7 rfl dX9_wayAt_20 rfl ?_
        refine r_bipush (v := nI 110) (q := 25) dX9_wayAt_23 (by decide) rfl ?_
        refine r_iload_n (q := 26) dX9_wayAt_25 rfl rfl ?_
        refine r_iadd (q := 27) dX9_wayAt_26 rfl ?_
        rw [n_add]
        refine r_ialdM (q := 28) h (by decide) (by simp only [mLen]; omega) dX9_wayAt_27 rfl ?_
        have b27 : gA (sA μ 0 F) 0 (110 + k) < 2 ^ 31 := h.lt (by decide) (by show 110 + k < 640; omega)
        simp only [gA_s] at b27 ⊢
        refine r_cS (q := 31) (As := [.int _]) wc_X9_235 st_X9_toldIn rfl (Nat.le_of_ble_eq_true rfl) (Nat.le_of_eq (Nat.zero_add _)) (Nat.le_of_eq (Nat.zero_add _)) dX9_wayAt_28 rfl rfl (s_X9_toldIn (by first | assumption | omega) ?_)
        rw [show F (110 + k) / 32768 % 8 = tol F k from rfl]
        refine r_iconst (v := nI 2) (q := 32) dX9_wayAt_31 (by decide) rfl ?_
        refine r_cV (q := 35) (As := [.int _, .int _]) wc_X9_108 rfl im_X9_lv se_X9_lv h.m rfl rfl (Nat.le_of_ble_eq_true rfl) (Nat.le_of_eq (Nat.zero_add _)) (Nat.le_of_eq (Nat.zero_add _)) dX9_wayAt_32 rfl rfl (x_lv h (htl k (by omega)) (by decide) ?_)
        intro b32
        simp only [gA_s] at b32 ⊢
        refine r_aload_n (q := 36) dX9_wayAt_35 rfl rfl ?_
        refine r_aload_n (q := 37) dX9_wayAt_36 rfl rfl ?_
        refine r_get (q := 40) (kk := 0) h.m rfl wi_RX9 (by decide) rfl fk_X9_7 rfl dX9_wayAt_37 rfl ?_
        refine r_bipush (v := nI 110) (q := 42) dX9_wayAt_40 (by decide) rfl ?_
        refine r_iload_n (q := 43) dX9_wayAt_42 rfl rfl ?_
        obtain ⟨a1, ha1⟩ : ∃ a1, ((List.range k).foldl (mB F) 0) = a1 + 1 := ⟨((List.range k).foldl (mB F) 0) - 1, by omega⟩
        rw [ha1, eI_s]
        refine r_iadd (q := 44) dX9_wayAt_43 rfl ?_
        rw [n_add]
        refine r_ialdM (q := 45) h (by decide) (by simp only [mLen]; omega) dX9_wayAt_44 rfl ?_
        have b44 : gA (sA μ 0 F) 0 (110 + a1) < 2 ^ 31 := h.lt (by decide) (by show 110 + a1 < 640; omega)
        simp only [gA_s] at b44 ⊢
        refine r_cS (q := 48) (As := [.int _]) wc_X9_235 st_X9_toldIn rfl (Nat.le_of_ble_eq_true rfl) (Nat.le_of_eq (Nat.zero_add _)) (Nat.le_of_eq (Nat.zero_add _)) dX9_wayAt_45 rfl rfl (s_X9_toldIn (by first | assumption | omega) ?_)
        rw [show F (110 + a1) / 32768 % 8 = tol F a1 from rfl]
        refine r_iconst (v := nI 2) (q := 49) dX9_wayAt_48 (by decide) rfl ?_
        refine r_cV (q := 52) (As := [.int _, .int _]) wc_X9_108 rfl im_X9_lv se_X9_lv h.m rfl rfl (Nat.le_of_ble_eq_true rfl) (Nat.le_of_eq (Nat.zero_add _)) (Nat.le_of_eq (Nat.zero_add _)) dX9_wayAt_49 rfl rfl (x_lv h (htl a1 (by omega)) (by decide) ?_)
        intro b49
        simp only [gA_s] at b49 ⊢
        refine r_icmp_le (t := 57) (q := 55) dX9_wayAt_52 rfl rfl (fun c52 => ?_) (fun c52 => ?_)
        · simp (disch := omega) only [nI_leI, nI_ltI, nI_eq, nI_lt0, nI_ge0, nI_gt0, nI_le0, nI_eq0] at c52
          have e : (List.range (k + 1)).foldl (mB F) 0 = ((List.range k).foldl (mB F) 0) := by rw [fold_s, mB, if_neg (by rw [ha1, Nat.add_sub_cancel]; omega)]
          refine r_inc1 (q := 60) dX9_wayAt_57 rfl (Nat.le_of_ble_eq_true rfl) rfl rfl ?_
          show AW _ (_, _, _, _, _, _, _, _, _) _ _ _ _ [some _, some _, some _] _ _
          refine r_goto (t := 4) dX9_wayAt_60 rfl ?_
          have ih9 := ih (F 1 - (k + 1)) (by omega) (k + 1) rfl (by omega)
          first
            | (rw [e, eI_s] at ih9; exact ih9)
            | (rw [e, ha1, eI_s] at ih9; exact ih9)
        · simp (disch := omega) only [nI_leI, nI_ltI, nI_eq, nI_lt0, nI_ge0, nI_gt0, nI_le0, nI_eq0] at c52
          have e : (List.range (k + 1)).foldl (mB F) 0 = k + 1 := by rw [fold_s, mB, if_pos (Or.inr (by rw [ha1, Nat.add_sub_cancel]; omega))]
          refine r_iload_n (q := 56) dX9_wayAt_55 rfl rfl ?_
          refine r_istore_n (q := 57) dX9_wayAt_56 (Nat.le_of_ble_eq_true rfl) rfl rfl ?_
          show AW _ (_, _, _, _, _, _, _, _, _) _ _ _ _ [some _, some _, some _] _ _
          refine r_inc1 (q := 60) dX9_wayAt_57 rfl (Nat.le_of_ble_eq_true rfl) rfl rfl ?_
          show AW _ (_, _, _, _, _, _, _, _, _) _ _ _ _ [some _, some _, some _] _ _
          refine r_goto (t := 4) dX9_wayAt_60 rfl ?_
          have ih9 := ih (F 1 - (k + 1)) (by omega) (k + 1) rfl (by omega)
          first
            | (rw [e, eI_s] at ih9; exact ih9)
            | (rw [e, ha1, eI_s] at ih9; exact ih9)
  refine MS.of (by decide) (by simp [Value.category]) (Nat.le_of_ble_eq_true rfl) ?_
  show AW _ (_, _, _, _, _, _, _, _, _) _ _ _ _ [some _, _, _] _ _
  refine r_iconst (v := (-1)) (q := 1) dX9_wayAt_0 (by decide) rfl ?_
  refine r_istore_n (q := 2) dX9_wayAt_1 (Nat.le_of_ble_eq_true rfl) rfl rfl ?_
  show AW _ (_, _, _, _, _, _, _, _, _) _ _ _ _ [some _, some _, _] _ _
  refine r_iconst (v := nI 0) (q := 3) dX9_wayAt_2 (by decide) rfl ?_
  refine r_istore_n (q := 4) dX9_wayAt_3 (Nat.le_of_ble_eq_true rfl) rfl rfl ?_
  show AW _ (_, _, _, _, _, _, _, _, _) _ _ _ _ [some _, some _, some _] _ _
  exact loop _ 0 rfl (Nat.zero_le _)
theorem s_X9_wayOf (h : RM G Λ ρ (sA μ 0 F) M) {a : Nat} (ha : a ≤ 170) (hQ : Q (some (.int (mWv F a))) M)  : MS G yX9_wayOf cX9_wayOf 2 (some .int) (d + 1) 0 0 [.ref (Λ (10, 0, 0)), .int (eI a)] M Q QX := by
  refine MS.of (by decide) (by simp [Value.category]) (Nat.le_of_ble_eq_true rfl) ?_
  show AW _ (_, _, _, _, _, _, _, _, _) _ _ _ _ [some _, some _] _ _
  refine r_iload_n (q := 1) dX9_wayOf_0 rfl rfl ?_
  refine r_if_ge (t := 8) (q := 4) dX9_wayOf_1 rfl rfl (fun c1 => ?_) (fun c1 => ?_)
  · obtain ⟨a1, rfl⟩ : ∃ a1, a = a1 + 1 := ⟨a - 1, by have := mt (eI_neg2 (e := a) (by omega)).mpr (fun g => absurd g (Int32.not_lt.mpr c1)); omega⟩
    rw [mWv, if_neg (by omega), Nat.add_sub_cancel] at hQ
    rw [eI_s]
    have b16 : F (110 + a1) < 2 ^ 31 := by have := h.lt (i := 0) (j := 110 + a1) (by decide) (by show 110 + a1 < 640; omega); rw [gA_s] at this; exact this
    have g16 : F (110 + a1) / 512 % 8 < 8 := Nat.mod_lt _ (by decide)
    refine r_aload_n (q := 9) dX9_wayOf_8 rfl rfl ?_
    refine r_get (q := 12) (kk := 0) h.m rfl wi_RX9 (by decide) rfl fk_X9_7 rfl dX9_wayOf_9 rfl ?_
    refine r_bipush (v := nI 110) (q := 14) dX9_wayOf_12 (by decide) rfl ?_
    refine r_iload_n (q := 15) dX9_wayOf_14 rfl rfl ?_
    refine r_iadd (q := 16) dX9_wayOf_15 rfl ?_
    rw [n_add]
    refine r_ialdM (q := 17) h (by decide) (by simp only [mLen]; omega) dX9_wayOf_16 rfl ?_
    rw [gA_s]
    refine r_cS (q := 20) (As := [.int _]) wc_X9_208 st_X9_platformIn rfl (Nat.le_of_ble_eq_true rfl) (Nat.le_of_eq (Nat.zero_add _)) (Nat.le_of_eq (Nat.zero_add _)) dX9_wayOf_17 rfl rfl (s_X9_platformIn b16 ?_)
    refine r_if_lt (t := 28) (q := 23) dX9_wayOf_20 rfl rfl (fun c20 => ?_) (fun c20 => ?_)
    · rw [if_pos ((eI_neg g16).mp c20)] at hQ
      refine r_aload_n (q := 29) dX9_wayOf_28 rfl rfl ?_
      refine r_get (q := 32) (kk := 0) h.m rfl wi_RX9 (by decide) rfl fk_X9_7 rfl dX9_wayOf_29 rfl ?_
      refine r_bipush (v := nI 110) (q := 34) dX9_wayOf_32 (by decide) rfl ?_
      refine r_iload_n (q := 35) dX9_wayOf_34 rfl rfl ?_
      refine r_iadd (q := 36) dX9_wayOf_35 rfl ?_
      rw [n_add]
      refine r_ialdM (q := 37) h (by decide) (by simp only [mLen]; omega) dX9_wayOf_36 rfl ?_
      rw [gA_s]
      refine r_cS (q := 40) (As := [.int _]) wc_X9_205 st_X9_byIn rfl (Nat.le_of_ble_eq_true rfl) (Nat.le_of_eq (Nat.zero_add _)) (Nat.le_of_eq (Nat.zero_add _)) dX9_wayOf_37 rfl rfl (s_X9_byIn b16 ?_)
      refine r_iret dX9_wayOf_40 ?_
      exact hQ
    · rw [if_neg (mt (eI_neg g16).mpr c20)] at hQ
      refine r_bipush (v := (-2)) (q := 25) dX9_wayOf_23 (by decide) rfl ?_
      refine r_goto (t := 40) dX9_wayOf_25 rfl ?_
      refine r_iret dX9_wayOf_40 ?_
      exact hQ
  · have c1b : a = 0 := (eI_neg2 (by omega)).mp (Int32.not_le.mp c1)
    rw [mWv, if_pos c1b] at hQ
    refine r_iconst (v := (-1)) (q := 5) dX9_wayOf_4 (by decide) rfl ?_
    refine r_goto (t := 40) dX9_wayOf_5 rfl ?_
    refine r_iret dX9_wayOf_40 ?_
    exact hQ
end W54
