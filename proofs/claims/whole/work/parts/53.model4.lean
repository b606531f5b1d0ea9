/-! THE MODEL: what the rules change -/
section W53
variable {G : En} {Λ : Ob → Nat} {ρ : Me} {μ : Mg} {M : Me} {d : Nat} {Q : Option Value → Me → Prop} {QX : String → Me → Prop} {S : St} {F : Nat → Nat}
def tellF (F : Nat → Nat) (l n b : Nat) : Nat → Nat := uL (uL F l 0 n) l 1 b
theorem tell_WN {F : Nat → Nat} {l n b : Nat} (hn : n ≤ 6) (hb : b < 64) : WN (tellF F l n b) l := by
  refine ⟨?_, ?_⟩
  · rw [tellF, lF_uL (by decide) (by decide), if_neg (by omega), lF_uLs]; exact hn
  · rw [tellF, lF_uLs]; exact hb
theorem s_X9_tells (h : RM G Λ ρ (sA μ 0 F) M) {l n b : Nat} (hl : l < 7) (hn : n ≤ 6) (hb : b < 64) (hQ : ∀ M', RM G Λ ρ (sA μ 0 (tellF F l n b)) M' → Q (some (.int (nI (mSt (tellF F l n b) l)))) M')  : MS G yX9_tells cX9_tells 4 (some .int) (d + 2) 0 0 [.ref (Λ (10, 0, 0)), .int (nI l), .int (nI n), .int (nI b)] M Q QX := by
  refine MS.of (by decide) (by simp [Value.category]) (Nat.le_of_ble_eq_true rfl) ?_
  show AW _ (_, _, _, _, _, _, _, _, _) _ _ _ _ [some _, some _, some _, some _] _ _
  refine r_aload_n (q := 1) dX9_tells_0 rfl rfl ?_
  refine r_iload_n (q := 2) dX9_tells_1 rfl rfl ?_
  refine r_iconst (v := nI 0) (q := 3) dX9_tells_2 (by decide) rfl ?_
  refine r_iload_n (q := 4) dX9_tells_3 rfl rfl ?_
  refine r_cV (q := 7) (As := [.int _, .int _, .int _]) wc_X9_104 rfl im_X9_ll se_X9_ll h.m rfl rfl (Nat.le_of_ble_eq_true rfl) (Nat.le_of_eq (Nat.zero_add _)) (Nat.le_of_eq (Nat.zero_add _)) dX9_tells_4 rfl rfl (x_ll h rfl (by omega) (by decide) (by omega) fun M_4 h_4 => ?_)
  try simp only [gA_s, sA_u2, gA_sN, gN_sA] at h_4
  refine r_aload_n (q := 8) dX9_tells_7 rfl rfl ?_
  refine r_iload_n (q := 9) dX9_tells_8 rfl rfl ?_
  refine r_iconst (v := nI 1) (q := 10) dX9_tells_9 (by decide) rfl ?_
  refine r_iload_n (q := 11) dX9_tells_10 rfl rfl ?_
  refine r_cV (q := 14) (As := [.int _, .int _, .int _]) wc_X9_104 rfl im_X9_ll se_X9_ll h_4.m rfl rfl (Nat.le_of_ble_eq_true rfl) (Nat.le_of_eq (Nat.zero_add _)) (Nat.le_of_eq (Nat.zero_add _)) dX9_tells_11 rfl rfl (x_ll h_4 rfl (by omega) (by decide) (by omega) fun M_11 h_11 => ?_)
  try simp only [gA_s, sA_u2, gA_sN, gN_sA] at h_11
  refine r_aload_n (q := 15) dX9_tells_14 rfl rfl ?_
  refine r_iload_n (q := 16) dX9_tells_15 rfl rfl ?_
  refine r_cV (q := 19) (As := [.int _]) wc_X9_127 rfl im_X9_itsSteam se_X9_itsSteam h_11.m rfl rfl (Nat.le_of_ble_eq_true rfl) (Nat.le_of_eq (Nat.zero_add _)) (Nat.le_of_eq (Nat.zero_add _)) dX9_tells_16 rfl rfl (s_X9_itsSteam h_11 hl (by rw [gA_s]; exact tell_WN hn hb) ?_)
  simp only [gA_s]
  refine r_iret dX9_tells_19 ?_
  exact hQ _ h_11
theorem s_X9_unsigns (h : RM G Λ ρ (sA μ 0 F) M) {l : Nat} (hl : l < 7) (hQ : ∀ M', RM G Λ ρ (sA μ 0 (tellF F l 0 0)) M' → Q (some (.int (nI (mCn (tellF F l 0 0) 0 7)))) M')  : MS G yX9_unsigns cX9_unsigns 2 (some .int) (d + 2) 0 0 [.ref (Λ (10, 0, 0)), .int (nI l)] M Q QX := by
  refine MS.of (by decide) (by simp [Value.category]) (Nat.le_of_ble_eq_true rfl) ?_
  show AW _ (_, _, _, _, _, _, _, _, _) _ _ _ _ [some _, some _] _ _
  refine r_aload_n (q := 1) dX9_unsigns_0 rfl rfl ?_
  refine r_iload_n (q := 2) dX9_unsigns_1 rfl rfl ?_
  refine r_iconst (v := nI 0) (q := 3) dX9_unsigns_2 (by decide) rfl ?_
  refine r_iconst (v := nI 0) (q := 4) dX9_unsigns_3 (by decide) rfl ?_
  refine r_cV (q := 7) (As := [.int _, .int _, .int _]) wc_X9_104 rfl im_X9_ll se_X9_ll h.m rfl rfl (Nat.le_of_ble_eq_true rfl) (Nat.le_of_eq (Nat.zero_add _)) (Nat.le_of_eq (Nat.zero_add _)) dX9_unsigns_4 rfl rfl (x_ll h rfl (by omega) (by decide) (by omega) fun M_4 h_4 => ?_)
  try simp only [gA_s, sA_u2, gA_sN, gN_sA] at h_4
  refine r_aload_n (q := 8) dX9_unsigns_7 rfl rfl ?_
  refine r_iload_n (q := 9) dX9_unsigns_8 rfl rfl ?_
  refine r_iconst (v := nI 1) (q := 10) dX9_unsigns_9 (by decide) rfl ?_
  refine r_iconst (v := nI 0) (q := 11) dX9_unsigns_10 (by decide) rfl ?_
  refine r_cV (q := 14) (As := [.int _, .int _, .int _]) wc_X9_104 rfl im_X9_ll se_X9_ll h_4.m rfl rfl (Nat.le_of_ble_eq_true rfl) (Nat.le_of_eq (Nat.zero_add _)) (Nat.le_of_eq (Nat.zero_add _)) dX9_unsigns_11 rfl rfl (x_ll h_4 rfl (by omega) (by decide) (by omega) fun M_11 h_11 => ?_)
  try simp only [gA_s, sA_u2, gA_sN, gN_sA] at h_11
  refine r_aload_n (q := 15) dX9_unsigns_14 rfl rfl ?_
  refine r_cV (q := 18) (As := []) wc_X9_112 rfl im_X9_signs se_X9_signs h_11.m rfl rfl (Nat.le_of_ble_eq_true rfl) (Nat.le_of_eq (Nat.zero_add _)) (Nat.le_of_eq (Nat.zero_add _)) dX9_unsigns_15 rfl rfl (s_X9_signs h_11 ?_)
  simp only [gA_s]
  refine r_iret dX9_unsigns_18 ?_
  exact hQ _ h_11
theorem s_X9_orders (h : RM G Λ ρ (sA μ 0 F) M) {l p : Nat} (hl : l < 7) (hp : p < 2 ^ 31) (hQ : ∀ M', RM G Λ ρ (sA μ 0 (uL F l 2 p)) M' → Q (some (.int (nI (lF F l 2)))) M')  : MS G yX9_orders cX9_orders 4 (some .int) (d + 1) 0 0 [.ref (Λ (10, 0, 0)), .int (nI l), .int (nI p)] M Q QX := by
  refine MS.of (by decide) (by simp [Value.category]) (Nat.le_of_ble_eq_true rfl) ?_
  show AW _ (_, _, _, _, _, _, _, _, _) _ _ _ _ [some _, some _, some _, _] _ _
  refine r_aload_n (q := 1) dX9_orders_0 rfl rfl ?_
  refine r_iload_n (q := 2) dX9_orders_1 rfl rfl ?_
  refine r_iconst (v := nI 2) (q := 3) dX9_orders_2 (by decide) rfl ?_
  refine r_cV (q := 6) (As := [.int _, .int _]) wc_X9_108 rfl im_X9_lv se_X9_lv h.m rfl rfl (Nat.le_of_ble_eq_true rfl) (Nat.le_of_eq (Nat.zero_add _)) (Nat.le_of_eq (Nat.zero_add _)) dX9_orders_3 rfl rfl (x_lv h (by omega) (by decide) ?_)
  intro b3
  simp only [gA_s] at b3 ⊢
  refine r_istore_n (q := 7) dX9_orders_6 (Nat.le_of_ble_eq_true rfl) rfl rfl ?_
  show AW _ (_, _, _, _, _, _, _, _, _) _ _ _ _ [some _, some _, some _, some _] _ _
  refine r_aload_n (q := 8) dX9_orders_7 rfl rfl ?_
  refine r_iload_n (q := 9) dX9_orders_8 rfl rfl ?_
  refine r_iconst (v := nI 2) (q := 10) dX9_orders_9 (by decide) rfl ?_
  refine r_iload_n (q := 11) dX9_orders_10 rfl rfl ?_
  refine r_cV (q := 14) (As := [.int _, .int _, .int _]) wc_X9_104 rfl im_X9_ll se_X9_ll h.m rfl rfl (Nat.le_of_ble_eq_true rfl) (Nat.le_of_eq (Nat.zero_add _)) (Nat.le_of_eq (Nat.zero_add _)) dX9_orders_11 rfl rfl (x_ll h rfl (by omega) (by decide) (by omega) fun M_11 h_11 => ?_)
  try simp only [gA_s, sA_u2, gA_sN, gN_sA] at h_11
  refine r_iload_n (q := 15) dX9_orders_14 rfl rfl ?_
  refine r_iret dX9_orders_15 ?_
  exact hQ _ h_11
theorem s_X9_mutes (h : RM G Λ ρ (sA μ 0 F) M) {l k : Nat} (hl : l < 7) (hk : k < 2 ^ 31) (hQ : ∀ M', RM G Λ ρ (sA μ 0 (uL F l 5 k)) M' → Q (some (.int (nI (mCn (uL F l 5 k) 5 7)))) M')  : MS G yX9_mutes cX9_mutes 3 (some .int) (d + 2) 0 0 [.ref (Λ (10, 0, 0)), .int (nI l), .int (nI k)] M Q QX := by
  refine MS.of (by decide) (by simp [Value.category]) (Nat.le_of_ble_eq_true rfl) ?_
  show AW _ (_, _, _, _, _, _, _, _, _) _ _ _ _ [some _, some _, some _] _ _
  refine r_aload_n (q := 1) dX9_mutes_0 rfl rfl ?_
  refine r_iload_n (q := 2) dX9_mutes_1 rfl rfl ?_
  refine r_iconst (v := nI 5) (q := 3) dX9_mutes_2 (by decide) rfl ?_
  refine r_iload_n (q := 4) dX9_mutes_3 rfl rfl ?_
  refine r_cV (q := 7) (As := [.int _, .int _, .int _]) wc_X9_104 rfl im_X9_ll se_X9_ll h.m rfl rfl (Nat.le_of_ble_eq_true rfl) (Nat.le_of_eq (Nat.zero_add _)) (Nat.le_of_eq (Nat.zero_add _)) dX9_mutes_4 rfl rfl (x_ll h rfl (by omega) (by decide) (by omega) fun M_4 h_4 => ?_)
  try simp only [gA_s, sA_u2, gA_sN, gN_sA] at h_4
  refine r_aload_n (q := 8) dX9_mutes_7 rfl rfl ?_
  refine r_cV (q := 11) (As := []) wc_X9_217 rfl im_X9_mutedMany se_X9_mutedMany h_4.m rfl rfl (Nat.le_of_ble_eq_true rfl) (Nat.le_of_eq (Nat.zero_add _)) (Nat.le_of_eq (Nat.zero_add _)) dX9_mutes_8 rfl rfl (s_X9_mutedMany h_4 ?_)
  simp only [gA_s]
  refine r_iret dX9_mutes_11 ?_
  exact hQ _ h_4
def payF (F : Nat → Nat) (l : Nat) : Nat → Nat := uN (uL (uL F l 4 (lF F l 4 - 2 * lF F l 5)) l 5 0) 9 (F 9 + 2 * lF F l 5)
theorem s_X9_pays (h : RM G Λ ρ (sA μ 0 F) M) {l : Nat} (hl : l < 7) (h5 : 2 * lF F l 5 ≤ lF F l 4) (h4 : lF F l 4 < 2 ^ 28) (h9 : F 9 < 2 ^ 28) (hQ : ∀ M', RM G Λ ρ (sA μ 0 (payF F l)) M' → Q (some (.int (nI (lF F l 4 - 2 * lF F l 5)))) M')  : MS G yX9_pays cX9_pays 3 (some .int) (d + 1) 0 0 [.ref (Λ (10, 0, 0)), .int (nI l)] M Q QX := by
  refine MS.of (by decide) (by simp [Value.category]) (Nat.le_of_ble_eq_true rfl) ?_
  show AW _ (_, _, _, _, _, _, _, _, _) _ _ _ _ [some _, some _, _] _ _
  refine r_iconst (v := nI 2) (q := 1) dX9_pays_0 (by decide) rfl ?_
  refine r_aload_n (q := 2) dX9_pays_1 rfl rfl ?_
  refine r_iload_n (q := 3) dX9_pays_2 rfl rfl ?_
  refine r_iconst (v := nI 5) (q := 4) dX9_pays_3 (by decide) rfl ?_
  refine r_cV (q := 7) (As := [.int _, .int _]) wc_X9_108 rfl im_X9_lv se_X9_lv h.m rfl rfl (Nat.le_of_ble_eq_true rfl) (Nat.le_of_eq (Nat.zero_add _)) (Nat.le_of_eq (Nat.zero_add _)) dX9_pays_4 rfl rfl (x_lv h (by omega) (by decide) ?_)
  intro b4
  simp only [gA_s] at b4 ⊢
  refine r_imul (q := 8) dX9_pays_7 rfl ?_
  rw [n_mul]
  refine r_istore_n (q := 9) dX9_pays_8 (Nat.le_of_ble_eq_true rfl) rfl rfl ?_
  show AW _ (_, _, _, _, _, _, _, _, _) _ _ _ _ [some _, some _, some _] _ _
  refine r_aload_n (q := 10) dX9_pays_9 rfl rfl ?_
  refine r_iload_n (q := 11) dX9_pays_10 rfl rfl ?_
  refine r_iconst (v := nI 4) (q := 12) dX9_pays_11 (by decide) rfl ?_
  refine r_aload_n (q := 13) dX9_pays_12 rfl rfl ?_
  refine r_iload_n (q := 14) dX9_pays_13 rfl rfl ?_
  refine r_iconst (v := nI 4) (q := 15) dX9_pays_14 (by decide) rfl ?_
  refine r_cV (q := 18) (As := [.int _, .int _]) wc_X9_108 rfl im_X9_lv se_X9_lv h.m rfl rfl (Nat.le_of_ble_eq_true rfl) (Nat.le_of_eq (Nat.zero_add _)) (Nat.le_of_eq (Nat.zero_add _)) dX9_pays_15 rfl rfl (x_lv h (by omega) (by decide) ?_)
  intro b15
  simp only [gA_s] at b15 ⊢
  refine r_iload_n (q := 19) dX9_pays_18 rfl rfl ?_
  refine r_isub (q := 20) dX9_pays_19 rfl ?_
  rw [n_sub h5]
  refine r_cV (q := 23) (As := [.int _, .int _, .int _]) wc_X9_104 rfl im_X9_ll se_X9_ll h.m rfl rfl (Nat.le_of_ble_eq_true rfl) (Nat.le_of_eq (Nat.zero_add _)) (Nat.le_of_eq (Nat.zero_add _)) dX9_pays_20 rfl rfl (x_ll h rfl (by omega) (by decide) (by omega) fun M_20 h_20 => ?_)
  try simp only [gA_s, sA_u2, gA_sN, gN_sA] at h_20
  refine r_aload_n (q := 24) dX9_pays_23 rfl rfl ?_
  refine r_iload_n (q := 25) dX9_pays_24 rfl rfl ?_
  refine r_iconst (v := nI 5) (q := 26) dX9_pays_25 (by decide) rfl ?_
  refine r_iconst (v := nI 0) (q := 27) dX9_pays_26 (by decide) rfl ?_
  refine r_cV (q := 30) (As := [.int _, .int _, .int _]) wc_X9_104 rfl im_X9_ll se_X9_ll h_20.m rfl rfl (Nat.le_of_ble_eq_true rfl) (Nat.le_of_eq (Nat.zero_add _)) (Nat.le_of_eq (Nat.zero_add _)) dX9_pays_27 rfl rfl (x_ll h_20 (x := 0) rfl (by omega) (by decide) (by omega) fun M_27 h_27 => ?_)
  try simp only [gA_s, sA_u2, gA_sN, gN_sA] at h_27
  refine r_aload_n (q := 31) dX9_pays_30 rfl rfl ?_
  refine r_get (q := 34) (kk := 0) h_27.m rfl wi_RX9 (by decide) rfl fk_X9_7 rfl dX9_pays_31 rfl ?_
  refine r_bipush (v := nI 9) (q := 36) dX9_pays_34 (by decide) rfl ?_
  refine r_dup2 (q := 37) dX9_pays_36 rfl rfl rfl ?_
  refine r_ialdM (q := 38) h_27 (by decide) (by simp only [mLen]; omega) dX9_pays_37 rfl ?_
  rw [show gA (sA μ 0 (uL (uL F l 4 (lF F l 4 - 2 * lF F l 5)) l 5 0)) 0 9 = F 9 by rw [gA_s, cF_uL (by decide), cF_uL (by decide)]]
  refine r_iload_n (q := 39) dX9_pays_38 rfl rfl ?_
  refine r_iadd (q := 40) dX9_pays_39 rfl ?_
  rw [n_add]
  refine r_iastM (q := 41) h_27 (by decide) (by simp only [mLen]; omega) (by omega) dX9_pays_40 rfl fun M_40 h_40 => ?_
  simp only [gA_s, sA_u2] at h_40
  refine r_aload_n (q := 42) dX9_pays_41 rfl rfl ?_
  refine r_iload_n (q := 43) dX9_pays_42 rfl rfl ?_
  refine r_iconst (v := nI 4) (q := 44) dX9_pays_43 (by decide) rfl ?_
  refine r_cV (q := 47) (As := [.int _, .int _]) wc_X9_108 rfl im_X9_lv se_X9_lv h_40.m rfl rfl (Nat.le_of_ble_eq_true rfl) (Nat.le_of_eq (Nat.zero_add _)) (Nat.le_of_eq (Nat.zero_add _)) dX9_pays_44 rfl rfl (x_lv h_40 (by omega) (by decide) ?_)
  intro b44
  simp only [gA_s]
  rw [show lF (uN (uL (uL F l 4 (lF F l 4 - 2 * lF F l 5)) l 5 0) 9 (F 9 + 2 * lF F l 5)) l 4 = lF F l 4 - 2 * lF F l 5 by rw [lF_uN (by omega) hl (by decide), lF_uL (by decide) (by decide), if_neg (by omega), lF_uLs]]
  refine r_iret dX9_pays_47 ?_
  exact hQ _ h_40
def mPc (F : Nat → Nat) (k : Nat) : Nat := (List.range k).countP fun p => decide (0 < pF F p 0)
theorem mPc_s {F : Nat → Nat} {k : Nat} : mPc F (k + 1) = mPc F k + if 0 < pF F k 0 then 1 else 0 := by
  rw [mPc, List.range_succ, List.countP_append, List.countP_cons, List.countP_nil]; simp [mPc]
theorem s_X9_lays (h : RM G Λ ρ (sA μ 0 F) M) {p dl ls : Nat} (hp : p < 4) (hd : dl ≤ 5) (hls : ls < 128) (hQ : ∀ M', RM G Λ ρ (sA μ 0 (uP (uP F p 0 dl) p 1 ls)) M' → Q (some (.int (nI (mPc (uP (uP F p 0 dl) p 1 ls) 4)))) M')  : MS G yX9_lays cX9_lays 6 (some .int) (d + 1) 0 0 [.ref (Λ (10, 0, 0)), .int (nI p), .int (nI dl), .int (nI ls)] M Q QX := by
  have loop : ∀ (m : Nat) k (M1 : Me), m = 4 - k → k ≤ 4 → RM G Λ ρ (sA μ 0 (uP (uP F p 0 dl) p 1 ls)) M1 → AW G (wX G yX9_lays cX9_lays 6 (some .int) 0 0 Q QX) (d + 1) 0 0 34 [some (.ref (Λ (10, 0, 0))), some (.int (nI p)), some (.int (nI dl)), some (.int (nI ls)), some (.int (nI (mPc (uP (uP F p 0 dl) p 1 ls) k))), some (.int (nI k))] [] M1 := by
    intro m
    induction m using Nat.strongRecOn with
    | _ m ih =>
    intro k M1 hm hk h1
    subst hm
    refine r_iload (q := 36) dX9_lays_34 rfl rfl ?_
    refine r_iconst (v := nI 4) (q := 37) dX9_lays_36 (by decide) rfl ?_
    refine r_icmp_ge (t := 66) (q := 40) dX9_lays_37 rfl rfl (fun c37 => ?_) (fun c37 => ?_)
    · simp (disch := omega) only [nI_leI, nI_ltI, nI_eq, nI_lt0, nI_ge0, nI_gt0, nI_le0, nI_eq0] at c37
      obtain rfl : k = 4 := by omega
      refine r_iload (q := 68) dX9_lays_66 rfl rfl ?_
      refine r_iret dX9_lays_68 ?_
      exact hQ _ h1
    · simp (disch := omega) only [nI_leI, nI_ltI, nI_eq, nI_lt0, nI_ge0, nI_gt0, nI_le0, nI_eq0] at c37
      refine r_iload (q := 42) dX9_lays_40 rfl rfl ?_
      refine r_aload_n (q := 43) dX9_lays_42 rfl rfl ?_
      refine r_iload (q := 45) dX9_lays_43 rfl rfl ?_
      refine r_iconst (v := nI 0) (q := 46) dX9_lays_45 (by decide) rfl ?_
      refine r_cV (q := 49) (As := [.int _, .int _]) wc_X9_168 rfl im_X9_pv se_X9_pv h1.m rfl rfl (Nat.le_of_ble_eq_true rfl) (Nat.le_of_eq (Nat.zero_add _)) (Nat.le_of_eq (Nat.zero_add _)) dX9_lays_46 rfl rfl (x_pv h1 (by omega) (by decide) ?_)
      intro b46
      simp only [gA_s] at b46 ⊢
      refine r_if_le (t := 56) (q := 52) dX9_lays_49 rfl rfl (fun c49 => ?_) (fun c49 => ?_)
      · simp (disch := omega) only [nI_leI, nI_ltI, nI_eq, nI_lt0, nI_ge0, nI_gt0, nI_le0, nI_eq0] at c49
        rw [show mPc (uP (uP F p 0 dl) p 1 ls) k = mPc (uP (uP F p 0 dl) p 1 ls) (k + 1) by rw [mPc_s, if_neg (by omega), Nat.add_zero]]
        refine r_iconst (v := nI 0) (q := 57) dX9_lays_56 (by decide) rfl ?_
        refine r_iadd (q := 58) dX9_lays_57 rfl ?_
        refine r_istore (q := 60) dX9_lays_58 (Nat.le_of_ble_eq_true rfl) rfl rfl ?_
        show AW _ (_, _, _, _, _, _, _, _, _) _ _ _ _ [some _, some _, some _, some _, some _, some _] _ _
        refine r_inc1 (q := 63) dX9_lays_60 rfl (Nat.le_of_ble_eq_true rfl) rfl rfl ?_
        show AW _ (_, _, _, _, _, _, _, _, _) _ _ _ _ [some _, some _, some _, some _, some _, some _] _ _
        refine r_goto (t := 34) dX9_lays_63 rfl ?_
        first
          | rw [n_add, show mPc (uP (uP F p 0 dl) p 1 ls) k + 1 = mPc (uP (uP F p 0 dl) p 1 ls) (k + 1) by rw [mPc_s, if_pos (by omega)]]
          | rw [n_add, Nat.add_zero]
        exact ih (4 - (k + 1)) (by omega) (k + 1) _ rfl (by omega) h1
      · simp (disch := omega) only [nI_leI, nI_ltI, nI_eq, nI_lt0, nI_ge0, nI_gt0, nI_le0, nI_eq0] at c49
        refine r_iconst (v := nI 1) (q := 53) dX9_lays_52 (by decide) rfl ?_
        refine r_goto (t := 57) dX9_lays_53 rfl ?_
        refine r_iadd (q := 58) dX9_lays_57 rfl ?_
        refine r_istore (q := 60) dX9_lays_58 (Nat.le_of_ble_eq_true rfl) rfl rfl ?_
        show AW _ (_, _, _, _, _, _, _, _, _) _ _ _ _ [some _, some _, some _, some _, some _, some _] _ _
        refine r_inc1 (q := 63) dX9_lays_60 rfl (Nat.le_of_ble_eq_true rfl) rfl rfl ?_
        show AW _ (_, _, _, _, _, _, _, _, _) _ _ _ _ [some _, some _, some _, some _, some _, some _] _ _
        refine r_goto (t := 34) dX9_lays_63 rfl ?_
        first
          | rw [n_add, show mPc (uP (uP F p 0 dl) p 1 ls) k + 1 = mPc (uP (uP F p 0 dl) p 1 ls) (k + 1) by rw [mPc_s, if_pos (by omega)]]
          | rw [n_add, Nat.add_zero]
        exact ih (4 - (k + 1)) (by omega) (k + 1) _ rfl (by omega) h1
  refine MS.of (by decide) (by simp [Value.category]) (Nat.le_of_ble_eq_true rfl) ?_
  show AW _ (_, _, _, _, _, _, _, _, _) _ _ _ _ [some _, some _, some _, some _, _, _] _ _
  refine r_aload_n (q := 1) dX9_lays_0 rfl rfl ?_
  refine r_get (q := 4) (kk := 0) h.m rfl wi_RX9 (by decide) rfl fk_X9_7 rfl dX9_lays_1 rfl ?_
  refine r_bipush (v := nI 92) (q := 6) dX9_lays_4 (by decide) rfl ?_
  refine r_iconst (v := nI 3) (q := 7) dX9_lays_6 (by decide) rfl ?_
  refine r_iload_n (q := 8) dX9_lays_7 rfl rfl ?_
  refine r_imul (q := 9) dX9_lays_8 rfl ?_
  rw [n_mul]
  refine r_iadd (q := 10) dX9_lays_9 rfl ?_
  rw [n_add]
  refine r_iconst (v := nI 0) (q := 11) dX9_lays_10 (by decide) rfl ?_
  refine r_iadd (q := 12) dX9_lays_11 rfl ?_
  rw [n_add]
  refine r_iload_n (q := 13) dX9_lays_12 rfl rfl ?_
  refine r_iastM (q := 14) h (by decide) (by simp only [mLen]; omega) (by omega) dX9_lays_13 rfl fun M_13 h_13 => ?_
  simp only [gA_s, sA_u2] at h_13
  refine r_aload_n (q := 15) dX9_lays_14 rfl rfl ?_
  refine r_get (q := 18) (kk := 0) h_13.m rfl wi_RX9 (by decide) rfl fk_X9_7 rfl dX9_lays_15 rfl ?_
  refine r_bipush (v := nI 92) (q := 20) dX9_lays_18 (by decide) rfl ?_
  refine r_iconst (v := nI 3) (q := 21) dX9_lays_20 (by decide) rfl ?_
  refine r_iload_n (q := 22) dX9_lays_21 rfl rfl ?_
  refine r_imul (q := 23) dX9_lays_22 rfl ?_
  rw [n_mul]
  refine r_iadd (q := 24) dX9_lays_23 rfl ?_
  rw [n_add]
  refine r_iconst (v := nI 1) (q := 25) dX9_lays_24 (by decide) rfl ?_
  refine r_iadd (q := 26) dX9_lays_25 rfl ?_
  rw [n_add]
  refine r_iload_n (q := 27) dX9_lays_26 rfl rfl ?_
  refine r_iastM (q := 28) h_13 (by decide) (by simp only [mLen]; omega) (by omega) dX9_lays_27 rfl fun M_27 h_27 => ?_
  simp only [gA_s, sA_u2] at h_27
  replace h_27 : RM G Λ ρ (sA μ 0 (uP (uP F p 0 dl) p 1 ls)) M_27 := h_27
  refine r_iconst (v := nI 0) (q := 29) dX9_lays_28 (by decide) rfl ?_
  refine r_istore (q := 31) dX9_lays_29 (Nat.le_of_ble_eq_true rfl) rfl rfl ?_
  show AW _ (_, _, _, _, _, _, _, _, _) _ _ _ _ [some _, some _, some _, some _, some _, _] _ _
  refine r_iconst (v := nI 0) (q := 32) dX9_lays_31 (by decide) rfl ?_
  refine r_istore (q := 34) dX9_lays_32 (Nat.le_of_ble_eq_true rfl) rfl rfl ?_
  show AW _ (_, _, _, _, _, _, _, _, _) _ _ _ _ [some _, some _, some _, some _, some _, some _] _ _
  exact loop _ 0 _ rfl (Nat.zero_le _) h_27
def sndF (F : Nat → Nat) (s : Nat) : Nat → Nat := uN (uN (uN (uN F (110 + F 1) s) 1 (F 1 + 1)) (470 + F 3) (64 * (s / 64 % 8) + s % 64)) 3 (F 3 + 1)
theorem s_X9_sounds (h : RM G Λ ρ (sA μ 0 F) M) {s : Nat} (hs : s < 2 ^ 31) (h1 : F 1 < 170) (h3 : F 3 < 170) (hQ : ∀ M', RM G Λ ρ (sA μ 0 (sndF F s)) M' → Q none M')  : MS G yX9_sounds cX9_sounds 2 none (d + 1) 0 0 [.ref (Λ (10, 0, 0)), .int (nI s)] M Q QX := by
  refine MS.of (by decide) (by simp [Value.category]) (Nat.le_of_ble_eq_true rfl) ?_
  show AW _ (_, _, _, _, _, _, _, _, _) _ _ _ _ [some _, some _] _ _
  refine r_aload_n (q := 1) dX9_sounds_0 rfl rfl ?_
  refine r_get (q := 4) (kk := 0) h.m rfl wi_RX9 (by decide) rfl fk_X9_7 rfl dX9_sounds_1 rfl ?_
  refine r_bipush (v := nI 110) (q := 6) dX9_sounds_4 (by decide) rfl ?_
  refine r_aload_n (q := 7) dX9_sounds_6 rfl rfl ?_
  refine r_get (q := 10) (kk := 0) h.m rfl wi_RX9 (by decide) rfl fk_X9_7 rfl dX9_sounds_7 rfl ?_
  refine r_iconst (v := nI 1) (q := 11) dX9_sounds_10 (by decide) rfl ?_
  refine r_ialdM (q := 12) h (by decide) (by simp only [mLen]; omega) dX9_sounds_11 rfl ?_
  rw [gA_s]
  refine r_iadd (q := 13) dX9_sounds_12 rfl ?_
  rw [n_add]
  refine r_iload_n (q := 14) dX9_sounds_13 rfl rfl ?_
  refine r_iastM (q := 15) h (by decide) (by simp only [mLen]; omega) (by omega) dX9_sounds_14 rfl fun M_14 h_14 => ?_
  simp only [gA_s, sA_u2] at h_14
  refine r_aload_n (q := 16) dX9_sounds_15 rfl rfl ?_
  refine r_get (q := 19) (kk := 0) h_14.m rfl wi_RX9 (by decide) rfl fk_X9_7 rfl dX9_sounds_16 rfl ?_
  refine r_iconst (v := nI 1) (q := 20) dX9_sounds_19 (by decide) rfl ?_
  refine r_dup2 (q := 21) dX9_sounds_20 rfl rfl rfl ?_
  refine r_ialdM (q := 22) h_14 (by decide) (by simp only [mLen]; omega) dX9_sounds_21 rfl ?_
  rw [show gA (sA μ 0 (uN F (110 + F 1) s)) 0 1 = F 1 by rw [gA_s, cF_uN (by omega)]]
  refine r_iconst (v := nI 1) (q := 23) dX9_sounds_22 (by decide) rfl ?_
  refine r_iadd (q := 24) dX9_sounds_23 rfl ?_
  rw [n_add]
  refine r_iastM (q := 25) h_14 (by decide) (by simp only [mLen]; omega) (by omega) dX9_sounds_24 rfl fun M_24 h_24 => ?_
  simp only [gA_s, sA_u2] at h_24
  refine r_aload_n (q := 26) dX9_sounds_25 rfl rfl ?_
  refine r_get (q := 29) (kk := 0) h_24.m rfl wi_RX9 (by decide) rfl fk_X9_7 rfl dX9_sounds_26 rfl ?_
  refine r_sipush (v := nI 470) (q := 32) dX9_sounds_29 (by decide) rfl ?_
  refine r_aload_n (q := 33) dX9_sounds_32 rfl rfl ?_
  refine r_get (q := 36) (kk := 0) h_24.m rfl wi_RX9 (by decide) rfl fk_X9_7 rfl dX9_sounds_33 rfl ?_
  refine r_iconst (v := nI 3) (q := 37) dX9_sounds_36 (by decide) rfl ?_
  refine r_ialdM (q := 38) h_24 (by decide) (by simp only [mLen]; omega) dX9_sounds_37 rfl ?_
  rw [show gA (sA μ 0 (uN (uN F (110 + F 1) s) 1 (F 1 + 1))) 0 3 = F 3 by rw [gA_s, cF_uN (by omega), cF_uN (by omega)]]
  refine r_iadd (q := 39) dX9_sounds_38 rfl ?_
  rw [n_add]
  refine r_bipush (v := nI 64) (q := 41) dX9_sounds_39 (by decide) rfl ?_
  refine r_iload_n (q := 42) dX9_sounds_41 rfl rfl ?_
  refine r_cS (q := 45) (As := [.int _]) wc_X9_178 st_X9_lengthIn rfl (Nat.le_of_ble_eq_true rfl) (Nat.le_of_eq (Nat.zero_add _)) (Nat.le_of_eq (Nat.zero_add _)) dX9_sounds_42 rfl rfl (s_X9_lengthIn hs ?_)
  refine r_imul (q := 46) dX9_sounds_45 rfl ?_
  rw [n_mul]
  refine r_iload_n (q := 47) dX9_sounds_46 rfl rfl ?_
  refine r_cS (q := 50) (As := [.int _]) wc_X9_181 st_X9_bitsIn rfl (Nat.le_of_ble_eq_true rfl) (Nat.le_of_eq (Nat.zero_add _)) (Nat.le_of_eq (Nat.zero_add _)) dX9_sounds_47 rfl rfl (s_X9_bitsIn hs ?_)
  refine r_iadd (q := 51) dX9_sounds_50 rfl ?_
  rw [n_add]
  refine r_iastM (q := 52) h_24 (by decide) (by simp only [mLen]; omega) (by omega) dX9_sounds_51 rfl fun M_51 h_51 => ?_
  simp only [gA_s, sA_u2] at h_51
  refine r_aload_n (q := 53) dX9_sounds_52 rfl rfl ?_
  refine r_get (q := 56) (kk := 0) h_51.m rfl wi_RX9 (by decide) rfl fk_X9_7 rfl dX9_sounds_53 rfl ?_
  refine r_iconst (v := nI 3) (q := 57) dX9_sounds_56 (by decide) rfl ?_
  refine r_dup2 (q := 58) dX9_sounds_57 rfl rfl rfl ?_
  refine r_ialdM (q := 59) h_51 (by decide) (by simp only [mLen]; omega) dX9_sounds_58 rfl ?_
  rw [show gA (sA μ 0 (uN (uN (uN F (110 + F 1) s) 1 (F 1 + 1)) (470 + F 3) (64 * (s / 64 % 8) + s % 64))) 0 3 = F 3 by rw [gA_s, cF_uN (by omega), cF_uN (by omega), cF_uN (by omega)]]
  refine r_iconst (v := nI 1) (q := 60) dX9_sounds_59 (by decide) rfl ?_
  refine r_iadd (q := 61) dX9_sounds_60 rfl ?_
  rw [n_add]
  refine r_iastM (q := 62) h_51 (by decide) (by simp only [mLen]; omega) (by omega) dX9_sounds_61 rfl fun M_61 h_61 => ?_
  simp only [gA_s, sA_u2] at h_61
  refine r_vret dX9_sounds_62 ?_
  exact hQ _ h_61
def sn (F : Nat → Nat) (t b e : Nat) : Nat := (((t * 8 + b) * 8 + e) * 8 + lF F t 0) * 64 + lF F t 1
def sgS (F0 : Nat → Nat) (l t : Nat) (F : Nat → Nat) (p : Nat) : Nat → Nat := if pF F0 p 0 = 0 ∨ pF F0 p 1 / 2 ^ l % 2 = 0 then F else uN (uN F (280 + F 2) (1000000 * pF F0 p 0 + sn F0 t l (p + 1))) 2 (F 2 + 1)
def sg1 (F : Nat → Nat) (l t st : Nat) : Nat → Nat := sndF (uN (uL F l 3 (lF F l 3 - st)) 4 (F 4 + 1)) (sn F t l 0)
def sgF (F : Nat → Nat) (l t st : Nat) : Nat → Nat := (List.range 4).foldl (sgS F l t) (sg1 F l t st)
theorem fold_s {α : Type} {f : α → Nat → α} {a : α} {k : Nat} : (List.range (k + 1)).foldl f a = f ((List.range k).foldl f a) k := by rw [List.range_succ, List.foldl_append]; rfl
/-- what stays while echoes are laid -/
def SGI (F0 : Nat → Nat) (l st : Nat) (F : Nat → Nat) : Prop := (∀ l', l' < 7 → ∀ w, w < 10 → lF F l' w = if l' = l ∧ w = 3 then lF F0 l 3 - st else lF F0 l' w) ∧ (∀ p, p < 4 → ∀ w, w < 3 → pF F p w = pF F0 p w)
theorem lF_snd {F : Nat → Nat} {s l w : Nat} (h3 : F 1 < 170) (hl : l < 7) (hw : w < 10) : lF (sndF F s) l w = lF F l w := by
  rw [sndF, lF_uN (by omega) hl hw, lF_uN (by omega) hl hw, lF_uN (by omega) hl hw, lF_uN (by omega) hl hw]
theorem pF_snd {F : Nat → Nat} {s l w : Nat} (hl : l < 4) (hw : w < 3) : pF (sndF F s) l w = pF F l w := by
  rw [sndF, pF_uN (by omega) hl hw, pF_uN (by omega) hl hw, pF_uN (by omega) hl hw, pF_uN (by omega) hl hw]
theorem cF_snd {F : Nat → Nat} {s j : Nat} (hj : j < 110) (h1 : j ≠ 1) (h3 : j ≠ 3) : sndF F s j = F j := by
  rw [sndF, cF_uN (by omega), cF_uN (by omega), cF_uN (by omega), cF_uN (by omega)]
theorem cF_uL2 {F : Nat → Nat} {l w x j : Nat} (hw : w < 10) (hl : l < 7) (hj : j < 16 ∨ 92 ≤ j) : uL F l w x j = F j := if_neg (by omega)
theorem sg1_I {F : Nat → Nat} {l t st : Nat} (hl : l < 7) (h1 : F 1 < 170) : SGI F l st (sg1 F l t st) := by
  refine ⟨fun l' hl' w hw => ?_, fun p hp w hw => ?_⟩
  · rw [sg1, lF_snd (by rw [cF_uN (by decide), cF_uL (by decide)]; exact h1) hl' hw, lF_uN (by omega) hl' hw, lF_uL (by decide) hw]
  · rw [sg1, pF_snd hp hw, pF_uN (by omega) hp hw, pF_uL hl (by decide)]
theorem sg1_c {F : Nat → Nat} {l t st j : Nat} (hl : l < 7) (hj : j < 16) (h1 : j ≠ 1) (h3 : j ≠ 3) (h4 : j ≠ 4) : sg1 F l t st j = F j := by
  rw [sg1, cF_snd (by omega) h1 h3, cF_uN h4, cF_uL hj]
theorem SGI.st {F0 F : Nat → Nat} {l st i x y : Nat} (h : SGI F0 l st F) : SGI F0 l st (uN (uN F (280 + i) x) 2 y) := by
  refine ⟨fun l' hl' w hw => ?_, fun p hp w hw => ?_⟩
  · rw [lF_uN (by omega) hl' hw, lF_uN (by omega) hl' hw]; exact h.1 l' hl' w hw
  · rw [pF_uN (by omega) hp hw, pF_uN (by omega) hp hw]; exact h.2 p hp w hw
theorem sn_lt {F : Nat → Nat} {t b e : Nat} (ht : t < 8) (hb : b < 8) (he : e < 8) (hw : WN F t) : sn F t b e < 262144 := by
  have := hw.1; have := hw.2; unfold sn; omega
theorem s_X9_sings (h : RM G Λ ρ (sA μ 0 F) M) {l t st : Nat} (hl : l < 7) (ht : t < 7) (hw : WN F t) (hst : st ≤ lF F l 3) (hs3 : lF F l 3 < 2 ^ 28) (hc1 : F 1 < 170) (hc2 : F 2 ≤ 140) (hc3 : F 3 < 170) (hc4 : F 4 < 2 ^ 28) (hpd : ∀ p, p < 4 → pF F p 0 ≤ 5 ∧ pF F p 1 < 128) (hQ : ∀ M', RM G Λ ρ (sA μ 0 (sgF F l t st)) M' → Q (some (.int (nI (lF F l 3 - st)))) M')  : MS G yX9_sings cX9_sings 5 (some .int) (d + 2) 0 0 [.ref (Λ (10, 0, 0)), .int (nI l), .int (nI t), .int (nI st)] M Q QX := by
  have loop : ∀ (m : Nat) p (M1 : Me), m = 4 - p → p ≤ 4 → RM G Λ ρ (sA μ 0 ((List.range p).foldl (sgS F l t) (sg1 F l t st))) M1 → SGI F l st ((List.range p).foldl (sgS F l t) (sg1 F l t st)) → ((List.range p).foldl (sgS F l t) (sg1 F l t st)) 2 ≤ 140 + p → AW G (wX G yX9_sings cX9_sings 5 (some .int) 0 0 Q QX) (d + 2) 0 0 49 [some (.ref (Λ (10, 0, 0))), some (.int (nI l)), some (.int (nI t)), some (.int (nI st)), some (.int (nI p))] [] M1 := by
    intro m
    induction m using Nat.strongRecOn with
    | _ m ih =>
    intro p M1 hm hp h1 hI hF
    subst hm
    have hp1 := fun (g : p < 4) => hpd p g
    refine r_iload (q := 51) dX9_sings_49 rfl rfl ?_
    refine r_iconst (v := nI 4) (q := 52) dX9_sings_51 (by decide) rfl ?_
    refine r_icmp_ge (t := 143) (q := 55) dX9_sings_52 rfl rfl (fun c52 => ?_) (fun c52 => ?_)
    · simp (disch := omega) only [nI_leI, nI_ltI, nI_eq, nI_lt0, nI_ge0, nI_gt0, nI_le0, nI_eq0] at c52
      obtain rfl : p = 4 := by omega
      refine r_aload_n (q := 144) dX9_sings_143 rfl rfl ?_
      refine r_iload_n (q := 145) dX9_sings_144 rfl rfl ?_
      refine r_iconst (v := nI 3) (q := 146) dX9_sings_145 (by decide) rfl ?_
      refine r_cV (q := 149) (As := [.int _, .int _]) wc_X9_108 rfl im_X9_lv se_X9_lv h1.m rfl rfl (Nat.le_of_ble_eq_true rfl) (Nat.le_of_eq (Nat.zero_add _)) (Nat.le_of_eq (Nat.zero_add _)) dX9_sings_146 rfl rfl (x_lv h1 (by omega) (by decide) ?_)
      intro b146
      simp only [gA_s] at b146 ⊢
      rw [hI.1 l hl 3 (by decide), if_pos ⟨rfl, rfl⟩] at b146 ⊢
      refine r_iret dX9_sings_149 ?_
      exact hQ _ h1
    · simp (disch := omega) only [nI_leI, nI_ltI, nI_eq, nI_lt0, nI_ge0, nI_gt0, nI_le0, nI_eq0] at c52
      refine r_aload_n (q := 56) dX9_sings_55 rfl rfl ?_
      refine r_iload (q := 58) dX9_sings_56 rfl rfl ?_
      refine r_iconst (v := nI 0) (q := 59) dX9_sings_58 (by decide) rfl ?_
      refine r_cV (q := 62) (As := [.int _, .int _]) wc_X9_168 rfl im_X9_pv se_X9_pv h1.m rfl rfl (Nat.le_of_ble_eq_true rfl) (Nat.le_of_eq (Nat.zero_add _)) (Nat.le_of_eq (Nat.zero_add _)) dX9_sings_59 rfl rfl (x_pv h1 (by omega) (by decide) ?_)
      intro b59
      simp only [gA_s] at b59 ⊢
      rw [hI.2 p (by omega) 0 (by decide)] at b59 ⊢
      refine r_if_eq (t := 137) (q := 65) dX9_sings_62 rfl rfl (fun c62 => ?_) (fun c62 => ?_)
      · simp (disch := omega) only [nI_leI, nI_ltI, nI_eq, nI_lt0, nI_ge0, nI_gt0, nI_le0, nI_eq0] at c62
        have e : (List.range (p + 1)).foldl (sgS F l t) (sg1 F l t st) = ((List.range p).foldl (sgS F l t) (sg1 F l t st)) := by rw [fold_s, sgS, if_pos (Or.inl (by omega))]
        refine r_inc1 (q := 140) dX9_sings_137 rfl (Nat.le_of_ble_eq_true rfl) rfl rfl ?_
        show AW _ (_, _, _, _, _, _, _, _, _) _ _ _ _ [some _, some _, some _, some _, some _] _ _
        refine r_goto (t := 49) dX9_sings_140 rfl ?_
        exact ih (4 - (p + 1)) (by omega) (p + 1) _ rfl (by omega) (by rw [e]; exact h1) (by rw [e]; exact hI) (by rw [e]; omega)
      · simp (disch := omega) only [nI_leI, nI_ltI, nI_eq, nI_lt0, nI_ge0, nI_gt0, nI_le0, nI_eq0] at c62
        have hd5 := (hpd p (by omega)).1
        refine r_aload_n (q := 66) dX9_sings_65 rfl rfl ?_
        refine r_iload (q := 68) dX9_sings_66 rfl rfl ?_
        refine r_iconst (v := nI 1) (q := 69) dX9_sings_68 (by decide) rfl ?_
        refine r_cV (q := 72) (As := [.int _, .int _]) wc_X9_168 rfl im_X9_pv se_X9_pv h1.m rfl rfl (Nat.le_of_ble_eq_true rfl) (Nat.le_of_eq (Nat.zero_add _)) (Nat.le_of_eq (Nat.zero_add _)) dX9_sings_69 rfl rfl (x_pv h1 (by omega) (by decide) ?_)
        intro b69
        simp only [gA_s] at b69 ⊢
        rw [hI.2 p (by omega) 1 (by decide)] at b69 ⊢
        have q69 : pF F p 1 / 2 ^ l ≤ pF F p 1 := Nat.div_le_self _ _
        refine r_iload_n (q := 73) dX9_sings_72 rfl rfl ?_
        refine r_ishr (q := 74) dX9_sings_73 rfl ?_
        rw [n_shr (by omega) (by omega)]
        refine r_iconst (v := nI 1) (q := 75) dX9_sings_74 (by decide) rfl ?_
        refine r_iand (q := 76) dX9_sings_75 rfl ?_
        rw [n_and (w := pF F p 1 / 2 ^ l) (by omega) 1 1 (by decide)]
        refine r_if_ne (t := 82) (q := 79) dX9_sings_76 rfl rfl (fun c76 => ?_) (fun c76 => ?_)
        · simp (disch := omega) only [nI_leI, nI_ltI, nI_eq, nI_lt0, nI_ge0, nI_gt0, nI_le0, nI_eq0] at c76
          have e : (List.range (p + 1)).foldl (sgS F l t) (sg1 F l t st) = uN (uN ((List.range p).foldl (sgS F l t) (sg1 F l t st)) (280 + ((List.range p).foldl (sgS F l t) (sg1 F l t st)) 2) (1000000 * pF F p 0 + sn F t l (p + 1))) 2 (((List.range p).foldl (sgS F l t) (sg1 F l t st)) 2 + 1) := by rw [fold_s, sgS, if_neg (by omega)]
          refine r_aload_n (q := 83) dX9_sings_82 rfl rfl ?_
          refine r_get (q := 86) (kk := 0) h1.m rfl wi_RX9 (by decide) rfl fk_X9_7 rfl dX9_sings_83 rfl ?_
          refine r_sipush (v := nI 280) (q := 89) dX9_sings_86 (by decide) rfl ?_
          refine r_aload_n (q := 90) dX9_sings_89 rfl rfl ?_
          refine r_get (q := 93) (kk := 0) h1.m rfl wi_RX9 (by decide) rfl fk_X9_7 rfl dX9_sings_90 rfl ?_
          refine r_iconst (v := nI 2) (q := 94) dX9_sings_93 (by decide) rfl ?_
          refine r_ialdM (q := 95) h1 (by decide) (by simp only [mLen]; omega) dX9_sings_94 rfl ?_
          rw [gA_s]
          refine r_iadd (q := 96) dX9_sings_95 rfl ?_
          rw [n_add]
          refine r_ldc (q := 98) dX9_sings_96 kc_X9_192 rfl ?_
          rw [show (1000000 : Int32) = nI 1000000 from rfl]
          refine r_aload_n (q := 99) dX9_sings_98 rfl rfl ?_
          refine r_iload (q := 101) dX9_sings_99 rfl rfl ?_
          refine r_iconst (v := nI 0) (q := 102) dX9_sings_101 (by decide) rfl ?_
          refine r_cV (q := 105) (As := [.int _, .int _]) wc_X9_168 rfl im_X9_pv se_X9_pv h1.m rfl rfl (Nat.le_of_ble_eq_true rfl) (Nat.le_of_eq (Nat.zero_add _)) (Nat.le_of_eq (Nat.zero_add _)) dX9_sings_102 rfl rfl (x_pv h1 (by omega) (by decide) ?_)
          intro b102
          simp only [gA_s] at b102 ⊢
          rw [hI.2 p (by omega) 0 (by decide)] at b102 ⊢
          refine r_imul (q := 106) dX9_sings_105 rfl ?_
          rw [n_mul]
          refine r_iload_n (q := 107) dX9_sings_106 rfl rfl ?_
          refine r_iload_n (q := 108) dX9_sings_107 rfl rfl ?_
          refine r_iload (q := 110) dX9_sings_108 rfl rfl ?_
          refine r_aload_n (q := 111) dX9_sings_110 rfl rfl ?_
          refine r_iload_n (q := 112) dX9_sings_111 rfl rfl ?_
          refine r_iconst (v := nI 0) (q := 113) dX9_sings_112 (by decide) rfl ?_
          refine r_cV (q := 116) (As := [.int _, .int _]) wc_X9_108 rfl im_X9_lv se_X9_lv h1.m rfl rfl (Nat.le_of_ble_eq_true rfl) (Nat.le_of_eq (Nat.zero_add _)) (Nat.le_of_eq (Nat.zero_add _)) dX9_sings_113 rfl rfl (x_lv h1 (by omega) (by decide) ?_)
          intro b113
          simp only [gA_s] at b113 ⊢
          rw [hI.1 t ht 0 (by decide), if_neg (by omega)] at b113 ⊢
          refine r_aload_n (q := 117) dX9_sings_116 rfl rfl ?_
          refine r_iload_n (q := 118) dX9_sings_117 rfl rfl ?_
          refine r_iconst (v := nI 1) (q := 119) dX9_sings_118 (by decide) rfl ?_
          refine r_cV (q := 122) (As := [.int _, .int _]) wc_X9_108 rfl im_X9_lv se_X9_lv h1.m rfl rfl (Nat.le_of_ble_eq_true rfl) (Nat.le_of_eq (Nat.zero_add _)) (Nat.le_of_eq (Nat.zero_add _)) dX9_sings_119 rfl rfl (x_lv h1 (by omega) (by decide) ?_)
          intro b119
          simp only [gA_s] at b119 ⊢
          rw [hI.1 t ht 1 (by decide), if_neg (by omega)] at b119 ⊢
          refine r_cS (q := 125) (As := [.int _, .int _, .int _, .int _, .int _]) wc_X9_184 st_X9_sound rfl (Nat.le_of_ble_eq_true rfl) (Nat.le_of_eq (Nat.zero_add _)) (Nat.le_of_eq (Nat.zero_add _)) dX9_sings_122 rfl rfl (s_X9_sound (eI_s _).symm ?_)
          rw [show (((t * 8 + l) * 8 + (p + 1)) * 8 + lF F t 0) * 64 + lF F t 1 = sn F t l (p + 1) from rfl]
          have q122 := sn_lt (e := p + 1) (b := l) (show t < 8 by omega) (by omega) (by omega) hw
          refine r_iadd (q := 126) dX9_sings_125 rfl ?_
          rw [n_add]
          refine r_iastM (q := 127) h1 (by decide) (by simp only [mLen]; omega) (by omega) dX9_sings_126 rfl fun M_126 h1_126 => ?_
          simp only [gA_s, sA_u2] at h1_126
          refine r_aload_n (q := 128) dX9_sings_127 rfl rfl ?_
          refine r_get (q := 131) (kk := 0) h1_126.m rfl wi_RX9 (by decide) rfl fk_X9_7 rfl dX9_sings_128 rfl ?_
          refine r_iconst (v := nI 2) (q := 132) dX9_sings_131 (by decide) rfl ?_
          refine r_dup2 (q := 133) dX9_sings_132 rfl rfl rfl ?_
          refine r_ialdM (q := 134) h1_126 (by decide) (by simp only [mLen]; omega) dX9_sings_133 rfl ?_
          rw [show gA (sA μ 0 (uN ((List.range p).foldl (sgS F l t) (sg1 F l t st)) (280 + ((List.range p).foldl (sgS F l t) (sg1 F l t st)) 2) (1000000 * pF F p 0 + sn F t l (p + 1)))) 0 2 = ((List.range p).foldl (sgS F l t) (sg1 F l t st)) 2 by rw [gA_s, cF_uN (by omega)]]
          refine r_iconst (v := nI 1) (q := 135) dX9_sings_134 (by decide) rfl ?_
          refine r_iadd (q := 136) dX9_sings_135 rfl ?_
          rw [n_add]
          refine r_iastM (q := 137) h1_126 (by decide) (by simp only [mLen]; omega) (by omega) dX9_sings_136 rfl fun M_136 h1_136 => ?_
          simp only [gA_s, sA_u2] at h1_136
          refine r_inc1 (q := 140) dX9_sings_137 rfl (Nat.le_of_ble_eq_true rfl) rfl rfl ?_
          show AW _ (_, _, _, _, _, _, _, _, _) _ _ _ _ [some _, some _, some _, some _, some _] _ _
          refine r_goto (t := 49) dX9_sings_140 rfl ?_
          exact ih (4 - (p + 1)) (by omega) (p + 1) _ rfl (by omega) (by rw [e]; exact h1_136) (by rw [e]; exact hI.st) (by rw [e, uN_s]; omega)
        · simp (disch := omega) only [nI_leI, nI_ltI, nI_eq, nI_lt0, nI_ge0, nI_gt0, nI_le0, nI_eq0] at c76
          have e : (List.range (p + 1)).foldl (sgS F l t) (sg1 F l t st) = ((List.range p).foldl (sgS F l t) (sg1 F l t st)) := by rw [fold_s, sgS, if_pos (Or.inr (by omega))]
          refine r_goto (t := 137) dX9_sings_79 rfl ?_
          refine r_inc1 (q := 140) dX9_sings_137 rfl (Nat.le_of_ble_eq_true rfl) rfl rfl ?_
          show AW _ (_, _, _, _, _, _, _, _, _) _ _ _ _ [some _, some _, some _, some _, some _] _ _
          refine r_goto (t := 49) dX9_sings_140 rfl ?_
          exact ih (4 - (p + 1)) (by omega) (p + 1) _ rfl (by omega) (by rw [e]; exact h1) (by rw [e]; exact hI) (by rw [e]; omega)
  refine MS.of (by decide) (by simp [Value.category]) (Nat.le_of_ble_eq_true rfl) ?_
  show AW _ (_, _, _, _, _, _, _, _, _) _ _ _ _ [some _, some _, some _, some _, _] _ _
  refine r_aload_n (q := 1) dX9_sings_0 rfl rfl ?_
  refine r_iload_n (q := 2) dX9_sings_1 rfl rfl ?_
  refine r_iconst (v := nI 3) (q := 3) dX9_sings_2 (by decide) rfl ?_
  refine r_aload_n (q := 4) dX9_sings_3 rfl rfl ?_
  refine r_iload_n (q := 5) dX9_sings_4 rfl rfl ?_
  refine r_iconst (v := nI 3) (q := 6) dX9_sings_5 (by decide) rfl ?_
  refine r_cV (q := 9) (As := [.int _, .int _]) wc_X9_108 rfl im_X9_lv se_X9_lv h.m rfl rfl (Nat.le_of_ble_eq_true rfl) (Nat.le_of_eq (Nat.zero_add _)) (Nat.le_of_eq (Nat.zero_add _)) dX9_sings_6 rfl rfl (x_lv h (by omega) (by decide) ?_)
  intro b6
  simp only [gA_s] at b6 ⊢
  refine r_iload_n (q := 10) dX9_sings_9 rfl rfl ?_
  refine r_isub (q := 11) dX9_sings_10 rfl ?_
  rw [n_sub hst]
  refine r_cV (q := 14) (As := [.int _, .int _, .int _]) wc_X9_104 rfl im_X9_ll se_X9_ll h.m rfl rfl (Nat.le_of_ble_eq_true rfl) (Nat.le_of_eq (Nat.zero_add _)) (Nat.le_of_eq (Nat.zero_add _)) dX9_sings_11 rfl rfl (x_ll h rfl (by omega) (by decide) (by omega) fun M_11 h_11 => ?_)
  try simp only [gA_s, sA_u2, gA_sN, gN_sA] at h_11
  refine r_aload_n (q := 15) dX9_sings_14 rfl rfl ?_
  refine r_get (q := 18) (kk := 0) h_11.m rfl wi_RX9 (by decide) rfl fk_X9_7 rfl dX9_sings_15 rfl ?_
  refine r_iconst (v := nI 4) (q := 19) dX9_sings_18 (by decide) rfl ?_
  refine r_dup2 (q := 20) dX9_sings_19 rfl rfl rfl ?_
  refine r_ialdM (q := 21) h_11 (by decide) (by simp only [mLen]; omega) dX9_sings_20 rfl ?_
  refine r_iconst (v := nI 1) (q := 22) dX9_sings_21 (by decide) rfl ?_
  rw [show gA (sA μ 0 (uL F l 3 (lF F l 3 - st))) 0 4 = F 4 by rw [gA_s, cF_uL (by decide)]]
  refine r_iadd (q := 23) dX9_sings_22 rfl ?_
  rw [n_add]
  refine r_iastM (q := 24) h_11 (by decide) (by simp only [mLen]; omega) (by omega) dX9_sings_23 rfl fun M_23 h_23 => ?_
  simp only [gA_s, sA_u2] at h_23
  refine r_aload_n (q := 25) dX9_sings_24 rfl rfl ?_
  refine r_iload_n (q := 26) dX9_sings_25 rfl rfl ?_
  refine r_iload_n (q := 27) dX9_sings_26 rfl rfl ?_
  refine r_iconst (v := (-1)) (q := 28) dX9_sings_27 (by decide) rfl ?_
  refine r_aload_n (q := 29) dX9_sings_28 rfl rfl ?_
  refine r_iload_n (q := 30) dX9_sings_29 rfl rfl ?_
  refine r_iconst (v := nI 0) (q := 31) dX9_sings_30 (by decide) rfl ?_
  refine r_cV (q := 34) (As := [.int _, .int _]) wc_X9_108 rfl im_X9_lv se_X9_lv h_23.m rfl rfl (Nat.le_of_ble_eq_true rfl) (Nat.le_of_eq (Nat.zero_add _)) (Nat.le_of_eq (Nat.zero_add _)) dX9_sings_31 rfl rfl (x_lv h_23 (by omega) (by decide) ?_)
  intro b31
  simp only [gA_s] at b31 ⊢
  rw [lF_uN (by omega) ht (by decide), lF_uL (by decide) (by decide), if_neg (by omega)] at b31 ⊢
  refine r_aload_n (q := 35) dX9_sings_34 rfl rfl ?_
  refine r_iload_n (q := 36) dX9_sings_35 rfl rfl ?_
  refine r_iconst (v := nI 1) (q := 37) dX9_sings_36 (by decide) rfl ?_
  refine r_cV (q := 40) (As := [.int _, .int _]) wc_X9_108 rfl im_X9_lv se_X9_lv h_23.m rfl rfl (Nat.le_of_ble_eq_true rfl) (Nat.le_of_eq (Nat.zero_add _)) (Nat.le_of_eq (Nat.zero_add _)) dX9_sings_37 rfl rfl (x_lv h_23 (by omega) (by decide) ?_)
  intro b37
  simp only [gA_s] at b37 ⊢
  rw [lF_uN (by omega) ht (by decide), lF_uL (by decide) (by decide), if_neg (by omega)] at b37 ⊢
  refine r_cS (q := 43) (As := [.int _, .int _, .int _, .int _, .int _]) wc_X9_184 st_X9_sound rfl (Nat.le_of_ble_eq_true rfl) (Nat.le_of_eq (Nat.zero_add _)) (Nat.le_of_eq (Nat.zero_add _)) dX9_sings_40 rfl rfl (s_X9_sound (e := 0) (by decide) ?_)
  rw [show (((t * 8 + l) * 8 + 0) * 8 + lF F t 0) * 64 + lF F t 1 = sn F t l 0 from rfl]
  have q40 := sn_lt (e := 0) (b := l) (show t < 8 by omega) (by omega) (by omega) hw
  refine r_cV (q := 46) (As := [.int _]) wc_X9_188 rfl im_X9_sounds se_X9_sounds h_23.m rfl rfl (Nat.le_of_ble_eq_true rfl) (Nat.le_of_eq (Nat.zero_add _)) (Nat.le_of_eq (Nat.zero_add _)) dX9_sings_43 rfl rfl (s_X9_sounds h_23 (by omega) (by rw [cF_uN (by decide), cF_uL (by decide)]; exact hc1) (by rw [cF_uN (by decide), cF_uL (by decide)]; exact hc3) fun M_43 h_43 => ?_)
  try simp only [gA_s, sA_u2, gA_sN, gN_sA] at h_43
  refine r_iconst (v := nI 0) (q := 47) dX9_sings_46 (by decide) rfl ?_
  refine r_istore (q := 49) dX9_sings_47 (Nat.le_of_ble_eq_true rfl) rfl rfl ?_
  show AW _ (_, _, _, _, _, _, _, _, _) _ _ _ _ [some _, some _, some _, some _, some _] _ _
  exact loop _ 0 _ rfl (Nat.zero_le _) h_43 (sg1_I hl hc1) (by show sg1 F l t st 2 ≤ 140; rw [sg1_c hl (by decide) (by decide) (by decide) (by decide)]; exact hc2)
end W53
