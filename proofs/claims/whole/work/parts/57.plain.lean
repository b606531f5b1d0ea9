/-! THE MODEL: an hour, undo, snapshots, plain questions -/
section W57
variable {G : En} {Λ : Ob → Nat} {ρ : Me} {μ : Mg} {M : Me} {d : Nat} {Q : Option Value → Me → Prop} {QX : String → Me → Prop} {S : St} {F : Nat → Nat} {z : Nat}
theorem gN_sNn {k k' : Nat} {v : Int32} (h : k' ≠ k) : gN (sN μ k v) k' = gN μ k' := if_neg h
theorem gN_sNs {k : Nat} {v : Int32} : gN (sN μ k v) k = v := if_pos rfl
theorem gN_bg {k : Nat} (h : k ≠ 4) : gN (bgM μ) k = gN μ k := if_neg h
def HOK (F : Nat → Nat) : Prop := HN F ∧ F 1 < 170 ∧ (∀ i, i < F 1 → tol F i < 7) ∧ F 0 < 2 ^ 28 ∧ F 7 < 2 ^ 28 ∧ F 8 < 2 ^ 28 ∧ (∀ l, l < 7 → lF F l 3 < 2 ^ 28) ∧ (∀ l, l < 7 → lF F l 4 < 2 ^ 28 ∧ lF F l 6 < 2 ^ 28) ∧ okP (mWv F (mBest F))
theorem x_goesBy (h : RM G Λ ρ (sA μ 0 F) M) (hk : HOK F) (hQ : ∀ M', RM G Λ ρ (sA μ 0 (gbF F (mWv F (mBest F)))) M' → Q (some (.int (mWv F (mBest F)))) M') : MS G yX9_goesBy cX9_goesBy 4 (some .int) (d + 3) 0 0 [.ref (Λ (10, 0, 0))] M Q QX := by
  obtain ⟨h1, h2, h3, h4, h5, h6, h7, h8, h9⟩ := hk
  exact s_X9_goesBy h h1 h2 h3 h4 h5 h6 h7 h8 h9 hQ
theorem s_X9_hour (h : RM G Λ ρ μ M) (hz : gN μ 5 = nI z) (hz8 : z ≤ 8) (hk : HOK (gA μ 0)) (hQ : ∀ M', RM G Λ ρ (mOk μ (gbF (gA μ 0) (mWv (gA μ 0) (mBest (gA μ 0)))) z) M' → Q (some (.int (mWv (gA μ 0) (mBest (gA μ 0))))) M')  : MS G yX9_hour cX9_hour 1 (some .int) (d + 4) 0 0 [.ref (Λ (10, 0, 0))] M Q QX := by
  refine MS.of (by decide) (by simp [Value.category]) (Nat.le_of_ble_eq_true rfl) ?_
  show AW _ (_, _, _, _, _, _, _, _, _) _ _ _ _ [some _] _ _
  refine r_aload_n (q := 1) dX9_hour_0 rfl rfl ?_
  refine r_cV (q := 4) (As := []) wc_X9_130 rfl im_X9_begins se_X9_begins h.m rfl rfl (Nat.le_of_ble_eq_true rfl) (Nat.le_of_eq (Nat.zero_add _)) (Nat.le_of_eq (Nat.zero_add _)) dX9_hour_1 rfl rfl (x_begins h fun M_1 h_1 => ?_)
  refine r_aload_n (q := 5) dX9_hour_4 rfl rfl ?_
  refine r_aload_n (q := 6) dX9_hour_5 rfl rfl ?_
  refine r_cV (q := 9) (As := []) wc_X9_247 rfl im_X9_goesBy se_X9_goesBy h_1.m rfl rfl (Nat.le_of_ble_eq_true rfl) (Nat.le_of_eq (Nat.zero_add _)) (Nat.le_of_eq (Nat.zero_add _)) dX9_hour_6 rfl rfl (x_goesBy (F := gA μ 0) (by rw [← gA_bg, sA_self]; exact h_1) hk fun M_6 h_6 => ?_)
  refine r_cV (q := 12) (As := [.int _]) wc_X9_150 rfl im_X9_keeps se_X9_keeps h_6.m rfl rfl (Nat.le_of_ble_eq_true rfl) (Nat.le_of_eq (Nat.zero_add _)) (Nat.le_of_eq (Nat.zero_add _)) dX9_hour_9 rfl rfl (s_X9_keeps (z := z) h_6 hz hz8 fun M_9 h_9 => ?_)
  refine r_iret dX9_hour_12 ?_
  exact hQ _ h_9
theorem s_X9_clear (h : RM G Λ ρ μ M) (hQ : ∀ M', RM G Λ ρ (sN (sA (sN μ 4 (nI 0)) 0 (clC 7)) 5 (nI 0)) M' → Q (some (.int (nI (mCn (gA μ 0) 0 7)))) M')  : MS G yX9_clear cX9_clear 2 (some .int) (d + 2) 0 0 [.ref (Λ (10, 0, 0))] M Q QX := by
  refine MS.of (by decide) (by simp [Value.category]) (Nat.le_of_ble_eq_true rfl) ?_
  show AW _ (_, _, _, _, _, _, _, _, _) _ _ _ _ [some _, _] _ _
  refine r_aload_n (q := 1) dX9_clear_0 rfl rfl ?_
  refine r_iconst (v := nI 0) (q := 2) dX9_clear_1 (by decide) rfl ?_
  refine r_p9 (q := 5) (kk := 4) (j := 4) h (by decide) rfl fk_X9_22 dX9_clear_2 rfl fun M_2 h_2 => ?_
  refine r_aload_n (q := 6) dX9_clear_5 rfl rfl ?_
  refine r_cV (q := 9) (As := []) wc_X9_112 rfl im_X9_signs se_X9_signs h_2.m rfl rfl (Nat.le_of_ble_eq_true rfl) (Nat.le_of_eq (Nat.zero_add _)) (Nat.le_of_eq (Nat.zero_add _)) dX9_clear_6 rfl rfl (s_X9_signs h_2 ?_)
  refine r_istore_n (q := 10) dX9_clear_9 (Nat.le_of_ble_eq_true rfl) rfl rfl ?_
  show AW _ (_, _, _, _, _, _, _, _, _) _ _ _ _ [some _, some _] _ _
  refine r_aload_n (q := 11) dX9_clear_10 rfl rfl ?_
  refine r_cV (q := 14) (As := []) wc_X9_93 rfl im_X9_clears se_X9_clears h_2.m rfl rfl (Nat.le_of_ble_eq_true rfl) (Nat.le_of_eq (Nat.zero_add _)) (Nat.le_of_eq (Nat.zero_add _)) dX9_clear_11 rfl rfl (s_X9_clears (RM.toA h_2 0) fun M_11 h_11 => ?_)
  refine r_aload_n (q := 15) dX9_clear_14 rfl rfl ?_
  refine r_iconst (v := nI 0) (q := 16) dX9_clear_15 (by decide) rfl ?_
  refine r_p9 (q := 19) (kk := 5) (j := 5) h_11 (by decide) rfl fk_X9_26 dX9_clear_16 rfl fun M_16 h_16 => ?_
  refine r_iload_n (q := 20) dX9_clear_19 rfl rfl ?_
  refine r_iret dX9_clear_20 ?_
  exact hQ _ h_16
theorem x_cp {i1 i2 : Nat} (h : RM G Λ ρ μ M) (h1 : i1 < 3) (h2 : i2 < 3) (hn : i1 ≠ i2) (hQ : ∀ M', RM G Λ ρ (sA μ i2 (gA μ i1)) M' → Q none M') : MS G yX9_copies cX9_copies 5 none d 0 0 [.ref (Λ (11, i1, 0)), .int (nI 0), .ref (Λ (11, i2, 0)), .int (nI 0)] M Q QX := by
  have m3 : ∀ i, i < 3 → mLen i = 640 := by decide
  refine s_X9_copies h (by omega) (by omega) (by rw [m3 _ h1]; decide) (by rw [m3 _ h2]; decide) (Or.inl hn) fun M' g => hQ M' (g.extA fun j hj => ?_)
  rw [m3 _ h2] at hj
  rw [cpF, if_pos ⟨Nat.zero_le _, (show j < 0 + 640 by omega)⟩, Nat.sub_zero, Nat.zero_add]
def unF (T : Nat → Nat) (z : Nat) : Nat → Nat := fun j => T (640 * z + j)
theorem x_cpU (h : RM G Λ ρ μ M) {z : Nat} (hz : z < 8) (hQ : ∀ M', RM G Λ ρ (sA μ 0 (unF (gA μ 3) z)) M' → Q none M') : MS G yX9_copies cX9_copies 5 none d 0 0 [.ref (Λ (11, 3, 0)), .int (nI (640 * z)), .ref (Λ (11, 0, 0)), .int (nI 0)] M Q QX := by
  refine s_X9_copies h (by decide) (by decide) (by simp only [mLen]; omega) (by decide) (Or.inl (by decide)) fun M' g => hQ M' (g.extA fun j hj => ?_)
  rw [cpF, if_pos ⟨Nat.zero_le _, (show j < 0 + 640 from by have : j < 640 := hj; omega)⟩, Nat.sub_zero, unF]
def mUnd (μ : Mg) (z : Nat) : Mg := if z = 0 then sN μ 4 (nI 1) else sA (sN (sN μ 4 (nI 0)) 5 (nI (z - 1))) 0 (unF (gA μ 3) (z - 1))
def mSnp (μ : Mg) : Mg := sN (sA (sN μ 4 (nI 0)) 2 (gA μ 0)) 12 (nI 1)
def mRst (μ : Mg) : Mg := sN (sA (sN μ 4 (nI 0)) 0 (gA μ 2)) 5 (nI 0)
theorem s_X9_undo (h : RM G Λ ρ μ M) (hz : gN μ 5 = nI z) (hz8 : z ≤ 8) (hQ : ∀ M', RM G Λ ρ (mUnd μ z) M' → Q (some (.int (nI (z - 1)))) M')  : MS G yX9_undo cX9_undo 1 (some .int) (d + 1) 0 0 [.ref (Λ (10, 0, 0))] M Q QX := by
  refine MS.of (by decide) (by simp [Value.category]) (Nat.le_of_ble_eq_true rfl) ?_
  show AW _ (_, _, _, _, _, _, _, _, _) _ _ _ _ [some _] _ _
  refine r_aload_n (q := 1) dX9_undo_0 rfl rfl ?_
  refine r_iconst (v := nI 0) (q := 2) dX9_undo_1 (by decide) rfl ?_
  refine r_p9 (q := 5) (kk := 4) (j := 4) h (by decide) rfl fk_X9_22 dX9_undo_2 rfl fun M_2 h_2 => ?_
  try simp only [sN_sN] at h_2
  refine r_aload_n (q := 6) dX9_undo_5 rfl rfl ?_
  refine r_get (q := 9) (kk := 5) h_2.m rfl wi_RX9 (by decide) rfl fk_X9_26 rfl dX9_undo_6 rfl ?_
  rw [gN_sNn (by decide), hz]
  refine r_if_ne (t := 18) (q := 12) dX9_undo_9 rfl rfl (fun c9 => ?_) (fun c9 => ?_)
  · simp (disch := omega) only [nI_leI, nI_ltI, nI_eq, nI_lt0, nI_ge0, nI_gt0, nI_le0, nI_eq0] at c9
    have e : mUnd μ z = sA (sN (sN μ 4 (nI 0)) 5 (nI (z - 1))) 0 (unF (gA μ 3) (z - 1)) := if_neg (by omega)
    rw [e] at hQ
    refine r_aload_n (q := 19) dX9_undo_18 rfl rfl ?_
    refine r_dup (q := 20) dX9_undo_19 rfl rfl ?_
    refine r_get (q := 23) (kk := 5) h_2.m rfl wi_RX9 (by decide) rfl fk_X9_26 rfl dX9_undo_20 rfl ?_
    rw [gN_sNn (by decide), hz]
    refine r_iconst (v := nI 1) (q := 24) dX9_undo_23 (by decide) rfl ?_
    refine r_isub (q := 25) dX9_undo_24 rfl ?_
    rw [n_sub (by omega)]
    refine r_p9 (q := 28) (kk := 5) (j := 5) h_2 (by decide) rfl fk_X9_26 dX9_undo_25 rfl fun M_25 h_25 => ?_
    try simp only [sN_sN] at h_25
    refine r_aload_n (q := 29) dX9_undo_28 rfl rfl ?_
    refine r_get (q := 32) (kk := 3) h_25.m rfl wi_RX9 (by decide) rfl fk_X9_19 rfl dX9_undo_29 rfl ?_
    refine r_sipush (v := nI 640) (q := 35) dX9_undo_32 (by decide) rfl ?_
    refine r_aload_n (q := 36) dX9_undo_35 rfl rfl ?_
    refine r_get (q := 39) (kk := 5) h_25.m rfl wi_RX9 (by decide) rfl fk_X9_26 rfl dX9_undo_36 rfl ?_
    rw [gN_sNs]
    refine r_imul (q := 40) dX9_undo_39 rfl ?_
    rw [n_mul]
    refine r_aload_n (q := 41) dX9_undo_40 rfl rfl ?_
    refine r_get (q := 44) (kk := 0) h_25.m rfl wi_RX9 (by decide) rfl fk_X9_7 rfl dX9_undo_41 rfl ?_
    refine r_iconst (v := nI 0) (q := 45) dX9_undo_44 (by decide) rfl ?_
    refine r_cS (q := 48) (As := [.ref _, .int _, .ref _, .int _]) wc_X9_100 st_X9_copies rfl (Nat.le_of_ble_eq_true rfl) (Nat.le_of_eq (Nat.zero_add _)) (Nat.le_of_eq (Nat.zero_add _)) dX9_undo_45 rfl rfl (x_cpU h_25 (by omega) fun M_45 h_45 => ?_)
    try simp only [sN_sN] at h_45
    refine r_aload_n (q := 49) dX9_undo_48 rfl rfl ?_
    refine r_get (q := 52) (kk := 5) h_45.m rfl wi_RX9 (by decide) rfl fk_X9_26 rfl dX9_undo_49 rfl ?_
    rw [gN_sA, gN_sNs]
    refine r_iret dX9_undo_52 ?_
    exact hQ _ h_45
  · simp (disch := omega) only [nI_leI, nI_ltI, nI_eq, nI_lt0, nI_ge0, nI_gt0, nI_le0, nI_eq0] at c9
    obtain rfl : z = 0 := by omega
    refine r_aload_n (q := 13) dX9_undo_12 rfl rfl ?_
    refine r_iconst (v := nI 1) (q := 14) dX9_undo_13 (by decide) rfl ?_
    refine r_cV (q := 17) (As := [.int _]) wc_X9_96 rfl im_X9_no se_X9_no h_2.m rfl rfl (Nat.le_of_ble_eq_true rfl) (Nat.le_of_eq (Nat.zero_add _)) (Nat.le_of_eq (Nat.zero_add _)) dX9_undo_14 rfl rfl (s_X9_no h_2 fun M_14 h_14 => ?_)
    try simp only [sN_sN] at h_14
    refine r_iret dX9_undo_17 ?_
    exact hQ _ h_14
theorem s_X9_snapshot (h : RM G Λ ρ μ M) (hQ : ∀ M', RM G Λ ρ (mSnp μ) M' → Q (some (.int (nI (mCn (gA μ 0) 0 7)))) M')  : MS G yX9_snapshot cX9_snapshot 1 (some .int) (d + 2) 0 0 [.ref (Λ (10, 0, 0))] M Q QX := by
  refine MS.of (by decide) (by simp [Value.category]) (Nat.le_of_ble_eq_true rfl) ?_
  show AW _ (_, _, _, _, _, _, _, _, _) _ _ _ _ [some _] _ _
  refine r_aload_n (q := 1) dX9_snapshot_0 rfl rfl ?_
  refine r_iconst (v := nI 0) (q := 2) dX9_snapshot_1 (by decide) rfl ?_
  refine r_p9 (q := 5) (kk := 4) (j := 4) h (by decide) rfl fk_X9_22 dX9_snapshot_2 rfl fun M_2 h_2 => ?_
  refine r_aload_n (q := 6) dX9_snapshot_5 rfl rfl ?_
  refine r_get (q := 9) (kk := 0) h_2.m rfl wi_RX9 (by decide) rfl fk_X9_7 rfl dX9_snapshot_6 rfl ?_
  refine r_iconst (v := nI 0) (q := 10) dX9_snapshot_9 (by decide) rfl ?_
  refine r_aload_n (q := 11) dX9_snapshot_10 rfl rfl ?_
  refine r_get (q := 14) (kk := 2) h_2.m rfl wi_RX9 (by decide) rfl fk_X9_16 rfl dX9_snapshot_11 rfl ?_
  refine r_iconst (v := nI 0) (q := 15) dX9_snapshot_14 (by decide) rfl ?_
  refine r_cS (q := 18) (As := [.ref _, .int _, .ref _, .int _]) wc_X9_100 st_X9_copies rfl (Nat.le_of_ble_eq_true rfl) (Nat.le_of_eq (Nat.zero_add _)) (Nat.le_of_eq (Nat.zero_add _)) dX9_snapshot_15 rfl rfl (x_cp h_2 (by decide) (by decide) (by decide) fun M_15 h_15 => ?_)
  refine r_aload_n (q := 19) dX9_snapshot_18 rfl rfl ?_
  refine r_iconst (v := nI 1) (q := 20) dX9_snapshot_19 (by decide) rfl ?_
  refine r_p9b (q := 23) (b := true) (kk := 12) h_15 (by decide) rfl fk_X9_47 dX9_snapshot_20 fun M_20 h_20 => ?_
  refine r_aload_n (q := 24) dX9_snapshot_23 rfl rfl ?_
  refine r_cV (q := 27) (As := []) wc_X9_112 rfl im_X9_signs se_X9_signs h_20.m rfl rfl (Nat.le_of_ble_eq_true rfl) (Nat.le_of_eq (Nat.zero_add _)) (Nat.le_of_eq (Nat.zero_add _)) dX9_snapshot_24 rfl rfl (s_X9_signs h_20 ?_)
  rw [show gA (sN (sA (sN μ 4 (nI 0)) 2 (gA (sN μ 4 (nI 0)) 0)) 12 (bI true)) 0 = gA μ 0 by rw [gA_sNe, gA_n (by decide), gA_sNe]]
  refine r_iret dX9_snapshot_27 ?_
  exact hQ _ h_20
theorem s_X9_restore (h : RM G Λ ρ μ M) {b : Bool} (hb : gN μ 12 = bI b) (hQ : ∀ M', RM G Λ ρ (if b = true then mRst μ else sN μ 4 (nI 1)) M' → Q (some (.int (if b = true then nI (mCn (gA μ 2) 0 7) else 0))) M')  : MS G yX9_restore cX9_restore 1 (some .int) (d + 2) 0 0 [.ref (Λ (10, 0, 0))] M Q QX := by
  refine MS.of (by decide) (by simp [Value.category]) (Nat.le_of_ble_eq_true rfl) ?_
  show AW _ (_, _, _, _, _, _, _, _, _) _ _ _ _ [some _] _ _
  refine r_aload_n (q := 1) dX9_restore_0 rfl rfl ?_
  refine r_iconst (v := nI 0) (q := 2) dX9_restore_1 (by decide) rfl ?_
  refine r_p9 (q := 5) (kk := 4) (j := 4) h (by decide) rfl fk_X9_22 dX9_restore_2 rfl fun M_2 h_2 => ?_
  try simp only [sN_sN] at h_2
  refine r_aload_n (q := 6) dX9_restore_5 rfl rfl ?_
  refine r_get (q := 9) (kk := 12) h_2.m rfl wi_RX9 (by decide) rfl fk_X9_47 rfl dX9_restore_6 rfl ?_
  rw [gN_sNn (by decide), hb]
  refine r_if_ne (t := 18) (q := 12) dX9_restore_9 rfl rfl (fun c9 => ?_) (fun c9 => ?_)
  · rw [if_pos (bI_ne c9), if_pos (bI_ne c9)] at hQ
    refine r_aload_n (q := 19) dX9_restore_18 rfl rfl ?_
    refine r_get (q := 22) (kk := 2) h_2.m rfl wi_RX9 (by decide) rfl fk_X9_16 rfl dX9_restore_19 rfl ?_
    refine r_iconst (v := nI 0) (q := 23) dX9_restore_22 (by decide) rfl ?_
    refine r_aload_n (q := 24) dX9_restore_23 rfl rfl ?_
    refine r_get (q := 27) (kk := 0) h_2.m rfl wi_RX9 (by decide) rfl fk_X9_7 rfl dX9_restore_24 rfl ?_
    refine r_iconst (v := nI 0) (q := 28) dX9_restore_27 (by decide) rfl ?_
    refine r_cS (q := 31) (As := [.ref _, .int _, .ref _, .int _]) wc_X9_100 st_X9_copies rfl (Nat.le_of_ble_eq_true rfl) (Nat.le_of_eq (Nat.zero_add _)) (Nat.le_of_eq (Nat.zero_add _)) dX9_restore_28 rfl rfl (x_cp h_2 (by decide) (by decide) (by decide) fun M_28 h_28 => ?_)
    try simp only [sN_sN] at h_28
    refine r_aload_n (q := 32) dX9_restore_31 rfl rfl ?_
    refine r_iconst (v := nI 0) (q := 33) dX9_restore_32 (by decide) rfl ?_
    refine r_p9 (q := 36) (kk := 5) (j := 5) h_28 (by decide) rfl fk_X9_26 dX9_restore_33 rfl fun M_33 h_33 => ?_
    try simp only [sN_sN] at h_33
    refine r_aload_n (q := 37) dX9_restore_36 rfl rfl ?_
    refine r_cV (q := 40) (As := []) wc_X9_112 rfl im_X9_signs se_X9_signs h_33.m rfl rfl (Nat.le_of_ble_eq_true rfl) (Nat.le_of_eq (Nat.zero_add _)) (Nat.le_of_eq (Nat.zero_add _)) dX9_restore_37 rfl rfl (s_X9_signs h_33 ?_)
    rw [show gA (sN (sA (sN μ 4 (nI 0)) 0 (gA (sN μ 4 (nI 0)) 2)) 5 (nI 0)) 0 = gA μ 2 by rw [gA_sNe, gA_s, gA_sNe]]
    refine r_iret dX9_restore_40 ?_
    exact hQ _ h_33
  · have cb : ¬ b = true := by rw [bI_eq0.mp c9]; decide
    rw [if_neg cb, if_neg cb] at hQ
    refine r_aload_n (q := 13) dX9_restore_12 rfl rfl ?_
    refine r_iconst (v := nI 1) (q := 14) dX9_restore_13 (by decide) rfl ?_
    refine r_cV (q := 17) (As := [.int _]) wc_X9_96 rfl im_X9_no se_X9_no h_2.m rfl rfl (Nat.le_of_ble_eq_true rfl) (Nat.le_of_eq (Nat.zero_add _)) (Nat.le_of_eq (Nat.zero_add _)) dX9_restore_14 rfl rfl (s_X9_no h_2 fun M_14 h_14 => ?_)
    try simp only [sN_sN] at h_14
    refine r_iret dX9_restore_17 ?_
    exact hQ _ h_14
def mqErr (μ : Mg) (k : Nat) : An := if gN μ k < 0 then (1, 0) else (0, gN μ k)
def mqRef (μ : Mg) (b : Bool) : An := if gN μ 8 = 0 then (1, 0) else if b = true then (0, gN μ 9) else (0, gN μ 8)
theorem s_X9_errorPosition (h : RM G Λ ρ μ M) (hQ : ∀ M', RM G Λ ρ (sN μ 4 (nI (mqErr μ 10).1)) M' → Q (some (.int (mqErr μ 10).2)) M')  : MS G yX9_errorPosition cX9_errorPosition 1 (some .int) (d + 1) 0 0 [.ref (Λ (10, 0, 0))] M Q QX := by
  refine MS.of (by decide) (by simp [Value.category]) (Nat.le_of_ble_eq_true rfl) ?_
  show AW _ (_, _, _, _, _, _, _, _, _) _ _ _ _ [some _] _ _
  refine r_aload_n (q := 1) dX9_errorPosition_0 rfl rfl ?_
  refine r_iconst (v := nI 0) (q := 2) dX9_errorPosition_1 (by decide) rfl ?_
  refine r_p9 (q := 5) (kk := 4) (j := 4) h (by decide) rfl fk_X9_22 dX9_errorPosition_2 rfl fun M_2 h_2 => ?_
  try simp only [sN_sN] at h_2
  refine r_aload_n (q := 6) dX9_errorPosition_5 rfl rfl ?_
  refine r_get (q := 9) (kk := 10) h_2.m rfl wi_RX9 (by decide) rfl fk_X9_41 rfl dX9_errorPosition_6 rfl ?_
  rw [gN_sNn (by decide)]
  refine r_if_ge (t := 20) (q := 12) dX9_errorPosition_9 rfl rfl (fun c9 => ?_) (fun c9 => ?_)
  · rw [show mqErr μ 10 = (0, gN μ 10) from if_neg (Int32.not_lt.mpr c9)] at hQ
    refine r_aload_n (q := 21) dX9_errorPosition_20 rfl rfl ?_
    refine r_get (q := 24) (kk := 10) h_2.m rfl wi_RX9 (by decide) rfl fk_X9_41 rfl dX9_errorPosition_21 rfl ?_
    rw [gN_sNn (by decide)]
    refine r_iret dX9_errorPosition_24 ?_
    exact hQ _ h_2
  · rw [show mqErr μ 10 = (1, 0) from if_pos (Int32.not_le.mp c9)] at hQ
    refine r_aload_n (q := 13) dX9_errorPosition_12 rfl rfl ?_
    refine r_iconst (v := nI 1) (q := 14) dX9_errorPosition_13 (by decide) rfl ?_
    refine r_cV (q := 17) (As := [.int _]) wc_X9_96 rfl im_X9_no se_X9_no h_2.m rfl rfl (Nat.le_of_ble_eq_true rfl) (Nat.le_of_eq (Nat.zero_add _)) (Nat.le_of_eq (Nat.zero_add _)) dX9_errorPosition_14 rfl rfl (s_X9_no h_2 fun M_14 h_14 => ?_)
    try simp only [sN_sN] at h_14
    refine r_goto (t := 24) dX9_errorPosition_17 rfl ?_
    refine r_iret dX9_errorPosition_24 ?_
    exact hQ _ h_14
theorem s_X9_refusedItem (h : RM G Λ ρ μ M) (hQ : ∀ M', RM G Λ ρ (sN μ 4 (nI (mqErr μ 11).1)) M' → Q (some (.int (mqErr μ 11).2)) M')  : MS G yX9_refusedItem cX9_refusedItem 1 (some .int) (d + 1) 0 0 [.ref (Λ (10, 0, 0))] M Q QX := by
  refine MS.of (by decide) (by simp [Value.category]) (Nat.le_of_ble_eq_true rfl) ?_
  show AW _ (_, _, _, _, _, _, _, _, _) _ _ _ _ [some _] _ _
  refine r_aload_n (q := 1) dX9_refusedItem_0 rfl rfl ?_
  refine r_iconst (v := nI 0) (q := 2) dX9_refusedItem_1 (by decide) rfl ?_
  refine r_p9 (q := 5) (kk := 4) (j := 4) h (by decide) rfl fk_X9_22 dX9_refusedItem_2 rfl fun M_2 h_2 => ?_
  try simp only [sN_sN] at h_2
  refine r_aload_n (q := 6) dX9_refusedItem_5 rfl rfl ?_
  refine r_get (q := 9) (kk := 11) h_2.m rfl wi_RX9 (by decide) rfl fk_X9_44 rfl dX9_refusedItem_6 rfl ?_
  rw [gN_sNn (by decide)]
  refine r_if_ge (t := 20) (q := 12) dX9_refusedItem_9 rfl rfl (fun c9 => ?_) (fun c9 => ?_)
  · rw [show mqErr μ 11 = (0, gN μ 11) from if_neg (Int32.not_lt.mpr c9)] at hQ
    refine r_aload_n (q := 21) dX9_refusedItem_20 rfl rfl ?_
    refine r_get (q := 24) (kk := 11) h_2.m rfl wi_RX9 (by decide) rfl fk_X9_44 rfl dX9_refusedItem_21 rfl ?_
    rw [gN_sNn (by decide)]
    refine r_iret dX9_refusedItem_24 ?_
    exact hQ _ h_2
  · rw [show mqErr μ 11 = (1, 0) from if_pos (Int32.not_le.mp c9)] at hQ
    refine r_aload_n (q := 13) dX9_refusedItem_12 rfl rfl ?_
    refine r_iconst (v := nI 1) (q := 14) dX9_refusedItem_13 (by decide) rfl ?_
    refine r_cV (q := 17) (As := [.int _]) wc_X9_96 rfl im_X9_no se_X9_no h_2.m rfl rfl (Nat.le_of_ble_eq_true rfl) (Nat.le_of_eq (Nat.zero_add _)) (Nat.le_of_eq (Nat.zero_add _)) dX9_refusedItem_14 rfl rfl (s_X9_no h_2 fun M_14 h_14 => ?_)
    try simp only [sN_sN] at h_14
    refine r_goto (t := 24) dX9_refusedItem_17 rfl ?_
    refine r_iret dX9_refusedItem_24 ?_
    exact hQ _ h_14
theorem s_X9_refusal (h : RM G Λ ρ μ M) {b : Bool} (hQ : ∀ M', RM G Λ ρ (sN μ 4 (nI (mqRef μ b).1)) M' → Q (some (.int (mqRef μ b).2)) M')  : MS G yX9_refusal cX9_refusal 2 (some .int) (d + 1) 0 0 [.ref (Λ (10, 0, 0)), .int (bI b)] M Q QX := by
  refine MS.of (by decide) (by simp [Value.category]) (Nat.le_of_ble_eq_true rfl) ?_
  show AW _ (_, _, _, _, _, _, _, _, _) _ _ _ _ [some _, some _] _ _
  refine r_aload_n (q := 1) dX9_refusal_0 rfl rfl ?_
  refine r_iconst (v := nI 0) (q := 2) dX9_refusal_1 (by decide) rfl ?_
  refine r_p9 (q := 5) (kk := 4) (j := 4) h (by decide) rfl fk_X9_22 dX9_refusal_2 rfl fun M_2 h_2 => ?_
  try simp only [sN_sN] at h_2
  refine r_aload_n (q := 6) dX9_refusal_5 rfl rfl ?_
  refine r_get (q := 9) (kk := 8) h_2.m rfl wi_RX9 (by decide) rfl fk_X9_35 rfl dX9_refusal_6 rfl ?_
  rw [gN_sNn (by decide)]
  refine r_if_ne (t := 18) (q := 12) dX9_refusal_9 rfl rfl (fun c9 => ?_) (fun c9 => ?_)
  · have e : mqRef μ b = if b = true then (0, gN μ 9) else (0, gN μ 8) := if_neg c9
    rw [e] at hQ
    refine r_iload_n (q := 19) dX9_refusal_18 rfl rfl ?_
    refine r_if_eq (t := 29) (q := 22) dX9_refusal_19 rfl rfl (fun c19 => ?_) (fun c19 => ?_)
    · rw [if_neg (by rw [bI_eq0.mp c19]; decide)] at hQ
      refine r_aload_n (q := 30) dX9_refusal_29 rfl rfl ?_
      refine r_get (q := 33) (kk := 8) h_2.m rfl wi_RX9 (by decide) rfl fk_X9_35 rfl dX9_refusal_30 rfl ?_
      rw [gN_sNn (by decide)]
      refine r_iret dX9_refusal_33 ?_
      exact hQ _ h_2
    · rw [if_pos (bI_ne c19)] at hQ
      refine r_aload_n (q := 23) dX9_refusal_22 rfl rfl ?_
      refine r_get (q := 26) (kk := 9) h_2.m rfl wi_RX9 (by decide) rfl fk_X9_38 rfl dX9_refusal_23 rfl ?_
      rw [gN_sNn (by decide)]
      refine r_goto (t := 33) dX9_refusal_26 rfl ?_
      refine r_iret dX9_refusal_33 ?_
      exact hQ _ h_2
  · rw [show mqRef μ b = (1, 0) from if_pos c9] at hQ
    refine r_aload_n (q := 13) dX9_refusal_12 rfl rfl ?_
    refine r_iconst (v := nI 1) (q := 14) dX9_refusal_13 (by decide) rfl ?_
    refine r_cV (q := 17) (As := [.int _]) wc_X9_96 rfl im_X9_no se_X9_no h_2.m rfl rfl (Nat.le_of_ble_eq_true rfl) (Nat.le_of_eq (Nat.zero_add _)) (Nat.le_of_eq (Nat.zero_add _)) dX9_refusal_14 rfl rfl (s_X9_no h_2 fun M_14 h_14 => ?_)
    try simp only [sN_sN] at h_14
    refine r_iret dX9_refusal_17 ?_
    exact hQ _ h_14
theorem s_X9_isRight (h : RM G Λ ρ μ M) (hQ : ∀ M', RM G Λ ρ (sN μ 4 (nI 0)) M' → Q (some (.int (nI 1))) M')  : MS G yX9_isRight cX9_isRight 1 (some .boolean) d 0 0 [.ref (Λ (10, 0, 0))] M Q QX := by
  refine MS.of (by decide) (by simp [Value.category]) (Nat.le_of_ble_eq_true rfl) ?_
  show AW _ (_, _, _, _, _, _, _, _, _) _ _ _ _ [some _] _ _
  refine r_aload_n (q := 1) dX9_isRight_0 rfl rfl ?_
  refine r_iconst (v := nI 0) (q := 2) dX9_isRight_1 (by decide) rfl ?_
  refine r_p9 (q := 5) (kk := 4) (j := 4) h (by decide) rfl fk_X9_22 dX9_isRight_2 rfl fun M_2 h_2 => ?_
  refine r_iconst (v := nI 1) (q := 6) dX9_isRight_5 (by decide) rfl ?_
  refine r_zret dX9_isRight_6 (by first | rfl | exact narrow_bI _) ?_
  exact hQ _ h_2
theorem s_X9_way (h : RM G Λ ρ μ M) (hk : HOK (gA μ 0)) (hQ : ∀ M', RM G Λ ρ (sN μ 4 (nI 0)) M' → Q (some (.int (mWv (gA μ 0) (mBest (gA μ 0))))) M')  : MS G yX9_way cX9_way 1 (some .int) (d + 2) 0 0 [.ref (Λ (10, 0, 0))] M Q QX := by
  refine MS.of (by decide) (by simp [Value.category]) (Nat.le_of_ble_eq_true rfl) ?_
  show AW _ (_, _, _, _, _, _, _, _, _) _ _ _ _ [some _] _ _
  refine r_aload_n (q := 1) dX9_way_0 rfl rfl ?_
  refine r_iconst (v := nI 0) (q := 2) dX9_way_1 (by decide) rfl ?_
  refine r_p9 (q := 5) (kk := 4) (j := 4) h (by decide) rfl fk_X9_22 dX9_way_2 rfl fun M_2 h_2 => ?_
  refine r_aload_n (q := 6) dX9_way_5 rfl rfl ?_
  refine r_aload_n (q := 7) dX9_way_6 rfl rfl ?_
  refine r_cV (q := 10) (As := []) wc_X9_238 rfl im_X9_wayAt se_X9_wayAt h_2.m rfl rfl (Nat.le_of_ble_eq_true rfl) (Nat.le_of_eq (Nat.zero_add _)) (Nat.le_of_eq (Nat.zero_add _)) dX9_way_7 rfl rfl (s_X9_wayAt (F := gA μ 0) (μ := sN μ 4 (nI 0)) (RM.toA h_2 0) hk.2.1 hk.2.2.1 ?_)
  refine r_cV (q := 13) (As := [.int _]) wc_X9_241 rfl im_X9_wayOf se_X9_wayOf h_2.m rfl rfl (Nat.le_of_ble_eq_true rfl) (Nat.le_of_eq (Nat.zero_add _)) (Nat.le_of_eq (Nat.zero_add _)) dX9_way_10 rfl rfl (s_X9_wayOf (F := gA μ 0) (μ := sN μ 4 (nI 0)) (RM.toA h_2 0) (Nat.le_trans mBest_le (by have := hk.2.1; omega)) ?_)
  refine r_iret dX9_way_13 ?_
  exact hQ _ h_2
def mSn (s k : Nat) : Int32 := if k = 0 then nI (s / 32768 % 8) else if k = 1 then nI (s / 4096 % 8) else if k = 2 then eI (s / 512 % 8) else if k = 3 then nI (s / 64 % 8) else nI (s % 64)
def mqHd (F : Nat → Nat) (p k : Int32) : An := if inI p (nI 0) (nI (F 1) - nI 1) = false then (1, 0) else if k < 0 then (2, 0) else if nI 4 < k then (2, 0) else (0, mSn (F (110 + p.toNatClampNeg)) k.toNatClampNeg)
theorem inI_tl {v : Int32} {n : Nat} (hn : n < 2 ^ 30) (h : inI v (nI 0) (nI n - nI 1) = true) : ∃ k, k < n ∧ v = nI k := by
  cases n with
  | zero =>
    rw [inI, Bool.and_eq_true, decide_eq_true_eq, decide_eq_true_eq] at h
    obtain ⟨k, hk, rfl⟩ := nI_nat h.1
    exact absurd (show nI 0 - nI 1 < nI k from Int32.lt_of_lt_of_le (b := nI 0) (by decide) (by rw [nI_leI (by decide) hk]; omega)) h.2
  | succ n =>
    rw [n_sub (by omega), Nat.add_sub_cancel] at h
    obtain ⟨k, -, hk, e⟩ := inI_t (by decide) (by omega) h
    exact ⟨k, by omega, e⟩
def mqLn (F : Nat → Nat) (l k : Int32) : An := if isL l = false then (1, 0) else if inI k (nI 0) (nI 9) = false then (2, 0) else (0, if k.toNatClampNeg < 9 then nI (lF F l.toNatClampNeg k.toNatClampNeg) else if 0 < lF F l.toNatClampNeg 9 then nI 1 else nI 0)
def mCt (F : Nat → Nat) (p k : Nat) : Nat := (List.range k).countP fun i => decide (F (280 + i) % 1000000 / 512 % 8 = p + 1)
theorem mCt_s {F : Nat → Nat} {p k : Nat} : mCt F p (k + 1) = mCt F p k + if F (280 + k) % 1000000 / 512 % 8 = p + 1 then 1 else 0 := by
  rw [mCt, List.range_succ, List.countP_append, List.countP_cons, List.countP_nil]; simp [mCt]
def mqPl (F : Nat → Nat) (p k : Int32) : An := if isP p = false then (1, 0) else if inI k (nI 0) (nI 3) = false then (2, 0) else (0, if k.toNatClampNeg < 3 then nI (pF F p.toNatClampNeg k.toNatClampNeg) else nI (mCt F p.toNatClampNeg (F 2)))
theorem sw5 {k : Int32} (h : inI k (nI 0) (nI 4) = true) : k = nI 0 ∨ k = nI 1 ∨ k = nI 2 ∨ k = nI 3 ∨ k = nI 4 := by
  obtain ⟨j, -, hj, rfl⟩ := inI_t (by decide) (by decide) h
  have : j = 0 ∨ j = 1 ∨ j = 2 ∨ j = 3 ∨ j = 4 := by omega
  rcases this with rfl | rfl | rfl | rfl | rfl <;> simp
theorem sw5o {k : Int32} (h : ¬ inI k (nI 0) (nI 4) = true) : (k < 0 ∨ nI 4 < k) ∧ (k.toInt < 0 ∨ 4 < k.toInt) := by
  have h2 : k < 0 ∨ nI 4 < k := Decidable.byContradiction fun g => h (by
    rw [inI, decide_eq_true (show ¬ k < nI 0 from fun e => g (Or.inl e)), decide_eq_true (show ¬ nI 4 < k from fun e => g (Or.inr e))]; rfl)
  refine ⟨h2, ?_⟩
  rw [Int32.lt_iff_toInt_lt, Int32.lt_iff_toInt_lt, show (nI 4).toInt = 4 from rfl, show (0 : Int32).toInt = 0 from rfl] at h2
  exact h2
theorem s_X9_heard (h : RM G Λ ρ μ M) {p k : Int32} (hc1 : gA μ 0 1 < 170) (hQ : ∀ M', RM G Λ ρ (sN μ 4 (nI (mqHd (gA μ 0) p k).1)) M' → Q (some (.int (mqHd (gA μ 0) p k).2)) M')  : MS G yX9_heard cX9_heard 4 (some .int) (d + 1) 0 0 [.ref (Λ (10, 0, 0)), .int p, .int k] M Q QX := by
  refine MS.of (by decide) (by simp [Value.category]) (Nat.le_of_ble_eq_true rfl) ?_
  show AW _ (_, _, _, _, _, _, _, _, _) _ _ _ _ [some _, some _, some _, _] _ _
  refine r_aload_n (q := 1) dX9_heard_0 rfl rfl ?_
  refine r_iconst (v := nI 0) (q := 2) dX9_heard_1 (by decide) rfl ?_
  refine r_p9 (q := 5) (kk := 4) (j := 4) h (by decide) rfl fk_X9_22 dX9_heard_2 rfl fun M_2 h_2 => ?_
  try simp only [sN_sN] at h_2
  refine r_iload_n (q := 6) dX9_heard_5 rfl rfl ?_
  refine r_iconst (v := nI 0) (q := 7) dX9_heard_6 (by decide) rfl ?_
  refine r_aload_n (q := 8) dX9_heard_7 rfl rfl ?_
  refine r_get (q := 11) (kk := 0) h_2.m rfl wi_RX9 (by decide) rfl fk_X9_7 rfl dX9_heard_8 rfl ?_
  refine r_iconst (v := nI 1) (q := 12) dX9_heard_11 (by decide) rfl ?_
  refine r_ialdM (q := 13) h_2 (by decide) (by simp only [mLen]; omega) dX9_heard_12 rfl ?_
  rw [gA_sN]
  refine r_iconst (v := nI 1) (q := 14) dX9_heard_13 (by decide) rfl ?_
  refine r_isub (q := 15) dX9_heard_14 rfl ?_
  refine r_cS (q := 18) (As := [.int _, .int _, .int _]) wc_X9_116 st_X9_in rfl (Nat.le_of_ble_eq_true rfl) (Nat.le_of_eq (Nat.zero_add _)) (Nat.le_of_eq (Nat.zero_add _)) dX9_heard_15 rfl rfl (s_X9_in ?_)
  refine r_if_ne (t := 27) (q := 21) dX9_heard_18 rfl rfl (fun c18 => ?_) (fun c18 => ?_)
  · obtain ⟨j, hj, rfl⟩ := inI_tl (by omega) (bI_ne c18)
    have c15b : ¬ inI (nI j) (nI 0) (nI (gA μ 0 1) - nI 1) = false := fun g => c18 (bI_eq0.mpr g)
    refine r_aload_n (q := 28) dX9_heard_27 rfl rfl ?_
    refine r_get (q := 31) (kk := 0) h_2.m rfl wi_RX9 (by decide) rfl fk_X9_7 rfl dX9_heard_28 rfl ?_
    refine r_bipush (v := nI 110) (q := 33) dX9_heard_31 (by decide) rfl ?_
    refine r_iload_n (q := 34) dX9_heard_33 rfl rfl ?_
    refine r_iadd (q := 35) dX9_heard_34 rfl ?_
    rw [n_add]
    refine r_ialdM (q := 36) h_2 (by decide) (by simp only [mLen]; omega) dX9_heard_35 rfl ?_
    rw [gA_sN]
    have b35 : gA μ 0 (110 + j) < 2 ^ 31 := h.lt (by decide) (by show 110 + j < 640; omega)
    refine r_istore_n (q := 37) dX9_heard_36 (Nat.le_of_ble_eq_true rfl) rfl rfl ?_
    show AW _ (_, _, _, _, _, _, _, _, _) _ _ _ _ [some _, some _, some _, some _] _ _
    refine r_iload_n (q := 38) dX9_heard_37 rfl rfl ?_
    have hk5 : (k = nI 0 ∨ k = nI 1 ∨ k = nI 2 ∨ k = nI 3 ∨ k = nI 4) ∨ ((k < 0 ∨ nI 4 < k) ∧ (k.toInt < 0 ∨ 4 < k.toInt)) := by
      by_cases g : inI k (nI 0) (nI 4) = true
      · exact Or.inl (sw5 g)
      · exact Or.inr (sw5o g)
    rcases hk5 with (rfl | rfl | rfl | rfl | rfl) | ⟨g1, g2⟩
    · rw [show mqHd (gA μ 0) (nI j) (nI 0) = (0, mSn (gA μ 0 (110 + j)) 0) by rw [mqHd, if_neg c15b, if_neg (by decide), if_neg (by decide), nI_c7 (show j < 2 ^ 31 by omega)]; rfl] at hQ
      refine r_tableIn dX9_heard_38 (by decide) (by decide) rfl rfl ?_
      refine r_iload_n (q := 73) dX9_heard_72 rfl rfl ?_
      refine r_cS (q := 76) (As := [.int _]) wc_X9_235 st_X9_toldIn rfl (Nat.le_of_ble_eq_true rfl) (Nat.le_of_eq (Nat.zero_add _)) (Nat.le_of_eq (Nat.zero_add _)) dX9_heard_73 rfl rfl (s_X9_toldIn b35 ?_)
      refine r_iret dX9_heard_76 ?_
      exact hQ _ h_2
    · rw [show mqHd (gA μ 0) (nI j) (nI 1) = (0, mSn (gA μ 0 (110 + j)) 1) by rw [mqHd, if_neg c15b, if_neg (by decide), if_neg (by decide), nI_c7 (show j < 2 ^ 31 by omega)]; rfl] at hQ
      refine r_tableIn dX9_heard_38 (by decide) (by decide) rfl rfl ?_
      refine r_iload_n (q := 78) dX9_heard_77 rfl rfl ?_
      refine r_cS (q := 81) (As := [.int _]) wc_X9_205 st_X9_byIn rfl (Nat.le_of_ble_eq_true rfl) (Nat.le_of_eq (Nat.zero_add _)) (Nat.le_of_eq (Nat.zero_add _)) dX9_heard_78 rfl rfl (s_X9_byIn b35 ?_)
      refine r_iret dX9_heard_81 ?_
      exact hQ _ h_2
    · rw [show mqHd (gA μ 0) (nI j) (nI 2) = (0, mSn (gA μ 0 (110 + j)) 2) by rw [mqHd, if_neg c15b, if_neg (by decide), if_neg (by decide), nI_c7 (show j < 2 ^ 31 by omega)]; rfl] at hQ
      refine r_tableIn dX9_heard_38 (by decide) (by decide) rfl rfl ?_
      refine r_iload_n (q := 83) dX9_heard_82 rfl rfl ?_
      refine r_cS (q := 86) (As := [.int _]) wc_X9_208 st_X9_platformIn rfl (Nat.le_of_ble_eq_true rfl) (Nat.le_of_eq (Nat.zero_add _)) (Nat.le_of_eq (Nat.zero_add _)) dX9_heard_83 rfl rfl (s_X9_platformIn b35 ?_)
      refine r_iret dX9_heard_86 ?_
      exact hQ _ h_2
    · rw [show mqHd (gA μ 0) (nI j) (nI 3) = (0, mSn (gA μ 0 (110 + j)) 3) by rw [mqHd, if_neg c15b, if_neg (by decide), if_neg (by decide), nI_c7 (show j < 2 ^ 31 by omega)]; rfl] at hQ
      refine r_tableIn dX9_heard_38 (by decide) (by decide) rfl rfl ?_
      refine r_iload_n (q := 88) dX9_heard_87 rfl rfl ?_
      refine r_cS (q := 91) (As := [.int _]) wc_X9_178 st_X9_lengthIn rfl (Nat.le_of_ble_eq_true rfl) (Nat.le_of_eq (Nat.zero_add _)) (Nat.le_of_eq (Nat.zero_add _)) dX9_heard_88 rfl rfl (s_X9_lengthIn b35 ?_)
      refine r_iret dX9_heard_91 ?_
      exact hQ _ h_2
    · rw [show mqHd (gA μ 0) (nI j) (nI 4) = (0, mSn (gA μ 0 (110 + j)) 4) by rw [mqHd, if_neg c15b, if_neg (by decide), if_neg (by decide), nI_c7 (show j < 2 ^ 31 by omega)]; rfl] at hQ
      refine r_tableIn dX9_heard_38 (by decide) (by decide) rfl rfl ?_
      refine r_iload_n (q := 93) dX9_heard_92 rfl rfl ?_
      refine r_cS (q := 96) (As := [.int _]) wc_X9_181 st_X9_bitsIn rfl (Nat.le_of_ble_eq_true rfl) (Nat.le_of_eq (Nat.zero_add _)) (Nat.le_of_eq (Nat.zero_add _)) dX9_heard_93 rfl rfl (s_X9_bitsIn b35 ?_)
      refine r_iret dX9_heard_96 ?_
      exact hQ _ h_2
    · have e : mqHd (gA μ 0) (nI j) k = (2, 0) := by
        rw [mqHd, if_neg c15b]
        by_cases g : k < 0
        · exact if_pos g
        · rw [if_neg g, if_pos (g1.resolve_left g)]
      rw [e] at hQ
      refine r_tableOut dX9_heard_38 g2 rfl ?_
      refine r_aload_n (q := 98) dX9_heard_97 rfl rfl ?_
      refine r_iconst (v := nI 2) (q := 99) dX9_heard_98 (by decide) rfl ?_
      refine r_cV (q := 102) (As := [.int _]) wc_X9_96 rfl im_X9_no se_X9_no h_2.m rfl rfl (Nat.le_of_ble_eq_true rfl) (Nat.le_of_eq (Nat.zero_add _)) (Nat.le_of_eq (Nat.zero_add _)) dX9_heard_99 rfl rfl (s_X9_no h_2 fun M_99 h_99 => ?_)
      try simp only [sN_sN] at h_99
      refine r_iret dX9_heard_102 ?_
      exact hQ _ h_99
  · rw [show mqHd (gA μ 0) p k = (1, 0) from if_pos (bI_eq0.mp c18)] at hQ
    refine r_aload_n (q := 22) dX9_heard_21 rfl rfl ?_
    refine r_iconst (v := nI 1) (q := 23) dX9_heard_22 (by decide) rfl ?_
    refine r_cV (q := 26) (As := [.int _]) wc_X9_96 rfl im_X9_no se_X9_no h_2.m rfl rfl (Nat.le_of_ble_eq_true rfl) (Nat.le_of_eq (Nat.zero_add _)) (Nat.le_of_eq (Nat.zero_add _)) dX9_heard_23 rfl rfl (s_X9_no h_2 fun M_23 h_23 => ?_)
    try simp only [sN_sN] at h_23
    refine r_iret dX9_heard_26 ?_
    exact hQ _ h_23
theorem s_X9_lineOf (h : RM G Λ ρ μ M) {l k : Int32} (hQ : ∀ M', RM G Λ ρ (sN μ 4 (nI (mqLn (gA μ 0) l k).1)) M' → Q (some (.int (mqLn (gA μ 0) l k).2)) M')  : MS G yX9_lineOf cX9_lineOf 3 (some .int) (d + 2) 0 0 [.ref (Λ (10, 0, 0)), .int l, .int k] M Q QX := by
  refine MS.of (by decide) (by simp [Value.category]) (Nat.le_of_ble_eq_true rfl) ?_
  show AW _ (_, _, _, _, _, _, _, _, _) _ _ _ _ [some _, some _, some _] _ _
  refine r_aload_n (q := 1) dX9_lineOf_0 rfl rfl ?_
  refine r_iconst (v := nI 0) (q := 2) dX9_lineOf_1 (by decide) rfl ?_
  refine r_p9 (q := 5) (kk := 4) (j := 4) h (by decide) rfl fk_X9_22 dX9_lineOf_2 rfl fun M_2 h_2 => ?_
  try simp only [sN_sN] at h_2
  refine r_iload_n (q := 6) dX9_lineOf_5 rfl rfl ?_
  refine r_cS (q := 9) (As := [.int _]) wc_X9_133 st_X9_isLine rfl (Nat.le_of_ble_eq_true rfl) (Nat.le_of_eq (Nat.zero_add _)) (Nat.le_of_eq (Nat.zero_add _)) dX9_lineOf_6 rfl rfl (s_X9_isLine ?_)
  refine r_if_ne (t := 18) (q := 12) dX9_lineOf_9 rfl rfl (fun c9 => ?_) (fun c9 => ?_)
  · obtain ⟨j, hj, rfl⟩ := isL_t (bI_ne c9)
    have ij : ¬ isL (nI j) = false := fun g => c9 (bI_eq0.mpr g)
    refine r_iload_n (q := 19) dX9_lineOf_18 rfl rfl ?_
    refine r_iconst (v := nI 0) (q := 20) dX9_lineOf_19 (by decide) rfl ?_
    refine r_bipush (v := nI 9) (q := 22) dX9_lineOf_20 (by decide) rfl ?_
    refine r_cS (q := 25) (As := [.int _, .int _, .int _]) wc_X9_116 st_X9_in rfl (Nat.le_of_ble_eq_true rfl) (Nat.le_of_eq (Nat.zero_add _)) (Nat.le_of_eq (Nat.zero_add _)) dX9_lineOf_22 rfl rfl (s_X9_in ?_)
    refine r_if_ne (t := 34) (q := 28) dX9_lineOf_25 rfl rfl (fun c25 => ?_) (fun c25 => ?_)
    · obtain ⟨k9, -, hk9, rfl⟩ := inI_t (by decide) (by decide) (bI_ne c25)
      have ik : ¬ inI (nI k9) (nI 0) (nI 9) = false := fun g => c25 (bI_eq0.mpr g)
      have e : mqLn (gA μ 0) (nI j) (nI k9) = (0, if k9 < 9 then nI (lF (gA μ 0) j k9) else if 0 < lF (gA μ 0) j 9 then nI 1 else nI 0) := by rw [mqLn, if_neg ij, if_neg ik, nI_c7 (by omega), nI_c7 (by omega)]
      rw [e] at hQ
      refine r_iload_n (q := 35) dX9_lineOf_34 rfl rfl ?_
      refine r_bipush (v := nI 9) (q := 37) dX9_lineOf_35 (by decide) rfl ?_
      refine r_icmp_ge (t := 49) (q := 40) dX9_lineOf_37 rfl rfl (fun c37 => ?_) (fun c37 => ?_)
      · simp (disch := omega) only [nI_leI, nI_ltI, nI_eq, nI_lt0, nI_ge0, nI_gt0, nI_le0, nI_eq0] at c37
        rw [if_neg (by omega)] at hQ
        refine r_aload_n (q := 50) dX9_lineOf_49 rfl rfl ?_
        refine r_iload_n (q := 51) dX9_lineOf_50 rfl rfl ?_
        refine r_bipush (v := nI 9) (q := 53) dX9_lineOf_51 (by decide) rfl ?_
        refine r_cV (q := 56) (As := [.int _, .int _]) wc_X9_108 rfl im_X9_lv se_X9_lv h_2.m rfl rfl (Nat.le_of_ble_eq_true rfl) (Nat.le_of_eq (Nat.zero_add _)) (Nat.le_of_eq (Nat.zero_add _)) dX9_lineOf_53 rfl rfl (x_lv h_2 (by omega) (by omega) ?_)
        intro b53
        rw [gA_sNe] at b53 ⊢
        refine r_if_le (t := 63) (q := 59) dX9_lineOf_56 rfl rfl (fun c56 => ?_) (fun c56 => ?_)
        · simp (disch := omega) only [nI_leI, nI_ltI, nI_eq, nI_lt0, nI_ge0, nI_gt0, nI_le0, nI_eq0] at c56
          rw [if_neg (by omega)] at hQ
          refine r_iconst (v := nI 0) (q := 64) dX9_lineOf_63 (by decide) rfl ?_
          refine r_iret dX9_lineOf_64 ?_
          exact hQ _ h_2
        · simp (disch := omega) only [nI_leI, nI_ltI, nI_eq, nI_lt0, nI_ge0, nI_gt0, nI_le0, nI_eq0] at c56
          rw [if_pos (by omega)] at hQ
          refine r_iconst (v := nI 1) (q := 60) dX9_lineOf_59 (by decide) rfl ?_
          refine r_goto (t := 64) dX9_lineOf_60 rfl ?_
          refine r_iret dX9_lineOf_64 ?_
          exact hQ _ h_2
      · simp (disch := omega) only [nI_leI, nI_ltI, nI_eq, nI_lt0, nI_ge0, nI_gt0, nI_le0, nI_eq0] at c37
        rw [if_pos (by omega)] at hQ
        refine r_aload_n (q := 41) dX9_lineOf_40 rfl rfl ?_
        refine r_iload_n (q := 42) dX9_lineOf_41 rfl rfl ?_
        refine r_iload_n (q := 43) dX9_lineOf_42 rfl rfl ?_
        refine r_cV (q := 46) (As := [.int _, .int _]) wc_X9_108 rfl im_X9_lv se_X9_lv h_2.m rfl rfl (Nat.le_of_ble_eq_true rfl) (Nat.le_of_eq (Nat.zero_add _)) (Nat.le_of_eq (Nat.zero_add _)) dX9_lineOf_43 rfl rfl (x_lv h_2 (by omega) (by omega) ?_)
        intro b43
        rw [gA_sNe]
        refine r_goto (t := 64) dX9_lineOf_46 rfl ?_
        refine r_iret dX9_lineOf_64 ?_
        exact hQ _ h_2
    · have e : mqLn (gA μ 0) (nI j) k = (2, 0) := by rw [mqLn, if_neg ij, if_pos (bI_eq0.mp c25)]
      rw [e] at hQ
      refine r_aload_n (q := 29) dX9_lineOf_28 rfl rfl ?_
      refine r_iconst (v := nI 2) (q := 30) dX9_lineOf_29 (by decide) rfl ?_
      refine r_cV (q := 33) (As := [.int _]) wc_X9_96 rfl im_X9_no se_X9_no h_2.m rfl rfl (Nat.le_of_ble_eq_true rfl) (Nat.le_of_eq (Nat.zero_add _)) (Nat.le_of_eq (Nat.zero_add _)) dX9_lineOf_30 rfl rfl (s_X9_no h_2 fun M_30 h_30 => ?_)
      try simp only [sN_sN] at h_30
      refine r_iret dX9_lineOf_33 ?_
      exact hQ _ h_30
  · rw [show mqLn (gA μ 0) l k = (1, 0) from if_pos (bI_eq0.mp c9)] at hQ
    refine r_aload_n (q := 13) dX9_lineOf_12 rfl rfl ?_
    refine r_iconst (v := nI 1) (q := 14) dX9_lineOf_13 (by decide) rfl ?_
    refine r_cV (q := 17) (As := [.int _]) wc_X9_96 rfl im_X9_no se_X9_no h_2.m rfl rfl (Nat.le_of_ble_eq_true rfl) (Nat.le_of_eq (Nat.zero_add _)) (Nat.le_of_eq (Nat.zero_add _)) dX9_lineOf_14 rfl rfl (s_X9_no h_2 fun M_14 h_14 => ?_)
    try simp only [sN_sN] at h_14
    refine r_iret dX9_lineOf_17 ?_
    exact hQ _ h_14
theorem s_X9_comingTo (h : RM G Λ ρ (sA μ 0 F) M) {p : Nat} (hp : p < 4) (hc2 : F 2 ≤ 140) (hQ : Q (some (.int (nI (mCt F p (F 2))))) M)  : MS G yX9_comingTo cX9_comingTo 4 (some .int) (d + 1) 0 0 [.ref (Λ (10, 0, 0)), .int (nI p)] M Q QX := by
  have loop : ∀ (m : Nat) k, m = F 2 - k → k ≤ F 2 → AW G (wX G yX9_comingTo cX9_comingTo 4 (some .int) 0 0 Q QX) (d + 1) 0 0 4 [some (.ref (Λ (10, 0, 0))), some (.int (nI p)), some (.int (nI (mCt F p k))), some (.int (nI k))] [] M := by
    intro m
    induction m using Nat.strongRecOn with
    | _ m ih =>
    intro k hm hk
    subst hm
    refine r_iload_n (q := 5) dX9_comingTo_4 rfl rfl ?_
    refine r_aload_n (q := 6) dX9_comingTo_5 rfl rfl ?_
    refine r_get (q := 9) (kk := 0) h.m rfl wi_RX9 (by decide) rfl fk_X9_7 rfl dX9_comingTo_6 rfl ?_
    refine r_iconst (v := nI 2) (q := 10) dX9_comingTo_9 (by decide) rfl ?_
    refine r_ialdM (q := 11) h (by decide) (by simp only [mLen]; omega) dX9_comingTo_10 rfl ?_
    rw [gA_s]
    refine r_icmp_ge (t := 48) (q := 14) dX9_comingTo_11 rfl rfl (fun c11 => ?_) (fun c11 => ?_)
    · simp (disch := omega) only [nI_leI, nI_ltI, nI_eq, nI_lt0, nI_ge0, nI_gt0, nI_le0, nI_eq0] at c11
      obtain rfl : k = F 2 := by omega
      refine r_iload_n (q := 49) dX9_comingTo_48 rfl rfl ?_
      refine r_iret dX9_comingTo_49 ?_
      exact hQ
    · simp (disch := omega) only [nI_leI, nI_ltI, nI_eq, nI_lt0, nI_ge0, nI_gt0, nI_le0, nI_eq0] at c11
      refine r_iload_n (q := 15) dX9_comingTo_14 rfl rfl ?_
      refine r_aload_n (q := 16) dX9_comingTo_15 rfl rfl ?_
      refine r_get (q := 19) (kk := 0) h.m rfl wi_RX9 (by decide) rfl fk_X9_7 rfl dX9_comingTo_16 rfl ?_
      refine r_sipush (v := nI 280) (q := 22) dX9_comingTo_19 (by decide) rfl ?_
      refine r_iload_n (q := 23) dX9_comingTo_22 rfl rfl ?_
      refine r_iadd (q := 24) dX9_comingTo_23 rfl ?_
      rw [n_add]
      refine r_ialdM (q := 25) h (by decide) (by simp only [mLen]; omega) dX9_comingTo_24 rfl ?_
      rw [gA_s]
      have b24 : F (280 + k) < 2 ^ 31 := by have := h.lt (i := 0) (j := 280 + k) (by decide) (by show 280 + k < 640; omega); rw [gA_s] at this; exact this
      refine r_ldc (q := 27) dX9_comingTo_25 kc_X9_192 rfl ?_
      rw [show (1000000 : Int32) = nI 1000000 from rfl]
      refine r_irem (q := 28) dX9_comingTo_27 (by decide) rfl ?_
      rw [n_rem (by decide) (by omega) (by decide)]
      refine r_cS (q := 31) (As := [.int _]) wc_X9_208 st_X9_platformIn rfl (Nat.le_of_ble_eq_true rfl) (Nat.le_of_eq (Nat.zero_add _)) (Nat.le_of_eq (Nat.zero_add _)) dX9_comingTo_28 rfl rfl (s_X9_platformIn (by omega) ?_)
      refine r_iload_n (q := 32) dX9_comingTo_31 rfl rfl ?_
      refine r_icmp_ne (t := 39) (q := 35) dX9_comingTo_32 rfl rfl (fun c32 => ?_) (fun c32 => ?_)
      · rw [eI_eq (Nat.mod_lt _ (by decide)) (by omega)] at c32
        have e : mCt F p (k + 1) = mCt F p k + 0 := by rw [mCt_s, if_neg c32]
        refine r_iconst (v := nI 0) (q := 40) dX9_comingTo_39 (by decide) rfl ?_
        refine r_iadd (q := 41) dX9_comingTo_40 rfl ?_
        rw [n_add]
        refine r_istore_n (q := 42) dX9_comingTo_41 (Nat.le_of_ble_eq_true rfl) rfl rfl ?_
        show AW _ (_, _, _, _, _, _, _, _, _) _ _ _ _ [some _, some _, some _, some _] _ _
        refine r_inc1 (q := 45) dX9_comingTo_42 rfl (Nat.le_of_ble_eq_true rfl) rfl rfl ?_
        show AW _ (_, _, _, _, _, _, _, _, _) _ _ _ _ [some _, some _, some _, some _] _ _
        refine r_goto (t := 4) dX9_comingTo_45 rfl ?_
        rw [← e]
        exact ih (F 2 - (k + 1)) (by omega) (k + 1) rfl (by omega)
      · rw [eI_eq (Nat.mod_lt _ (by decide)) (by omega)] at c32
        have e : mCt F p (k + 1) = mCt F p k + 1 := by rw [mCt_s, if_pos c32]
        refine r_iconst (v := nI 1) (q := 36) dX9_comingTo_35 (by decide) rfl ?_
        refine r_goto (t := 40) dX9_comingTo_36 rfl ?_
        refine r_iadd (q := 41) dX9_comingTo_40 rfl ?_
        rw [n_add]
        refine r_istore_n (q := 42) dX9_comingTo_41 (Nat.le_of_ble_eq_true rfl) rfl rfl ?_
        show AW _ (_, _, _, _, _, _, _, _, _) _ _ _ _ [some _, some _, some _, some _] _ _
        refine r_inc1 (q := 45) dX9_comingTo_42 rfl (Nat.le_of_ble_eq_true rfl) rfl rfl ?_
        show AW _ (_, _, _, _, _, _, _, _, _) _ _ _ _ [some _, some _, some _, some _] _ _
        refine r_goto (t := 4) dX9_comingTo_45 rfl ?_
        rw [← e]
        exact ih (F 2 - (k + 1)) (by omega) (k + 1) rfl (by omega)
  refine MS.of (by decide) (by simp [Value.category]) (Nat.le_of_ble_eq_true rfl) ?_
  show AW _ (_, _, _, _, _, _, _, _, _) _ _ _ _ [some _, some _, _, _] _ _
  refine r_iconst (v := nI 0) (q := 1) dX9_comingTo_0 (by decide) rfl ?_
  refine r_istore_n (q := 2) dX9_comingTo_1 (Nat.le_of_ble_eq_true rfl) rfl rfl ?_
  show AW _ (_, _, _, _, _, _, _, _, _) _ _ _ _ [some _, some _, some _, _] _ _
  refine r_iconst (v := nI 0) (q := 3) dX9_comingTo_2 (by decide) rfl ?_
  refine r_istore_n (q := 4) dX9_comingTo_3 (Nat.le_of_ble_eq_true rfl) rfl rfl ?_
  show AW _ (_, _, _, _, _, _, _, _, _) _ _ _ _ [some _, some _, some _, some _] _ _
  exact loop _ 0 rfl (Nat.zero_le _)
theorem s_X9_platformOf (h : RM G Λ ρ μ M) {l k : Int32} (hc2 : gA μ 0 2 ≤ 140) (hQ : ∀ M', RM G Λ ρ (sN μ 4 (nI (mqPl (gA μ 0) l k).1)) M' → Q (some (.int (mqPl (gA μ 0) l k).2)) M')  : MS G yX9_platformOf cX9_platformOf 3 (some .int) (d + 2) 0 0 [.ref (Λ (10, 0, 0)), .int l, .int k] M Q QX := by
  refine MS.of (by decide) (by simp [Value.category]) (Nat.le_of_ble_eq_true rfl) ?_
  show AW _ (_, _, _, _, _, _, _, _, _) _ _ _ _ [some _, some _, some _] _ _
  refine r_aload_n (q := 1) dX9_platformOf_0 rfl rfl ?_
  refine r_iconst (v := nI 0) (q := 2) dX9_platformOf_1 (by decide) rfl ?_
  refine r_p9 (q := 5) (kk := 4) (j := 4) h (by decide) rfl fk_X9_22 dX9_platformOf_2 rfl fun M_2 h_2 => ?_
  try simp only [sN_sN] at h_2
  refine r_iload_n (q := 6) dX9_platformOf_5 rfl rfl ?_
  refine r_cS (q := 9) (As := [.int _]) wc_X9_171 st_X9_isPlatform rfl (Nat.le_of_ble_eq_true rfl) (Nat.le_of_eq (Nat.zero_add _)) (Nat.le_of_eq (Nat.zero_add _)) dX9_platformOf_6 rfl rfl (s_X9_isPlatform ?_)
  refine r_if_ne (t := 18) (q := 12) dX9_platformOf_9 rfl rfl (fun c9 => ?_) (fun c9 => ?_)
  · obtain ⟨j, hj, rfl⟩ := isP_t (bI_ne c9)
    have ij : ¬ isP (nI j) = false := fun g => c9 (bI_eq0.mpr g)
    refine r_iload_n (q := 19) dX9_platformOf_18 rfl rfl ?_
    refine r_iconst (v := nI 0) (q := 20) dX9_platformOf_19 (by decide) rfl ?_
    refine r_iconst (v := nI 3) (q := 21) dX9_platformOf_20 (by decide) rfl ?_
    refine r_cS (q := 24) (As := [.int _, .int _, .int _]) wc_X9_116 st_X9_in rfl (Nat.le_of_ble_eq_true rfl) (Nat.le_of_eq (Nat.zero_add _)) (Nat.le_of_eq (Nat.zero_add _)) dX9_platformOf_21 rfl rfl (s_X9_in ?_)
    refine r_if_ne (t := 33) (q := 27) dX9_platformOf_24 rfl rfl (fun c24 => ?_) (fun c24 => ?_)
    · obtain ⟨k9, -, hk9, rfl⟩ := inI_t (by decide) (by decide) (bI_ne c24)
      have ik : ¬ inI (nI k9) (nI 0) (nI 3) = false := fun g => c24 (bI_eq0.mpr g)
      have e : mqPl (gA μ 0) (nI j) (nI k9) = (0, if k9 < 3 then nI (pF (gA μ 0) j k9) else nI (mCt (gA μ 0) j (gA μ 0 2))) := by rw [mqPl, if_neg ij, if_neg ik, nI_c7 (by omega), nI_c7 (by omega)]
      rw [e] at hQ
      refine r_iload_n (q := 34) dX9_platformOf_33 rfl rfl ?_
      refine r_iconst (v := nI 3) (q := 35) dX9_platformOf_34 (by decide) rfl ?_
      refine r_icmp_ge (t := 47) (q := 38) dX9_platformOf_35 rfl rfl (fun c35 => ?_) (fun c35 => ?_)
      · simp (disch := omega) only [nI_leI, nI_ltI, nI_eq, nI_lt0, nI_ge0, nI_gt0, nI_le0, nI_eq0] at c35
        rw [if_neg (by omega)] at hQ
        refine r_aload_n (q := 48) dX9_platformOf_47 rfl rfl ?_
        refine r_iload_n (q := 49) dX9_platformOf_48 rfl rfl ?_
        refine r_cV (q := 52) (As := [.int _]) wc_X9_250 rfl im_X9_comingTo se_X9_comingTo h_2.m rfl rfl (Nat.le_of_ble_eq_true rfl) (Nat.le_of_eq (Nat.zero_add _)) (Nat.le_of_eq (Nat.zero_add _)) dX9_platformOf_49 rfl rfl (s_X9_comingTo (F := gA μ 0) (μ := sN μ 4 (nI 0)) (RM.toA h_2 0) hj hc2 ?_)
        refine r_iret dX9_platformOf_52 ?_
        exact hQ _ h_2
      · simp (disch := omega) only [nI_leI, nI_ltI, nI_eq, nI_lt0, nI_ge0, nI_gt0, nI_le0, nI_eq0] at c35
        rw [if_pos (by omega)] at hQ
        refine r_aload_n (q := 39) dX9_platformOf_38 rfl rfl ?_
        refine r_iload_n (q := 40) dX9_platformOf_39 rfl rfl ?_
        refine r_iload_n (q := 41) dX9_platformOf_40 rfl rfl ?_
        refine r_cV (q := 44) (As := [.int _, .int _]) wc_X9_168 rfl im_X9_pv se_X9_pv h_2.m rfl rfl (Nat.le_of_ble_eq_true rfl) (Nat.le_of_eq (Nat.zero_add _)) (Nat.le_of_eq (Nat.zero_add _)) dX9_platformOf_41 rfl rfl (x_pv h_2 (by omega) (by omega) ?_)
        intro b41
        rw [gA_sNe]
        refine r_goto (t := 52) dX9_platformOf_44 rfl ?_
        refine r_iret dX9_platformOf_52 ?_
        exact hQ _ h_2
    · have e : mqPl (gA μ 0) (nI j) k = (2, 0) := by rw [mqPl, if_neg ij, if_pos (bI_eq0.mp c24)]
      rw [e] at hQ
      refine r_aload_n (q := 28) dX9_platformOf_27 rfl rfl ?_
      refine r_iconst (v := nI 2) (q := 29) dX9_platformOf_28 (by decide) rfl ?_
      refine r_cV (q := 32) (As := [.int _]) wc_X9_96 rfl im_X9_no se_X9_no h_2.m rfl rfl (Nat.le_of_ble_eq_true rfl) (Nat.le_of_eq (Nat.zero_add _)) (Nat.le_of_eq (Nat.zero_add _)) dX9_platformOf_29 rfl rfl (s_X9_no h_2 fun M_29 h_29 => ?_)
      try simp only [sN_sN] at h_29
      refine r_iret dX9_platformOf_32 ?_
      exact hQ _ h_29
  · rw [show mqPl (gA μ 0) l k = (1, 0) from if_pos (bI_eq0.mp c9)] at hQ
    refine r_aload_n (q := 13) dX9_platformOf_12 rfl rfl ?_
    refine r_iconst (v := nI 1) (q := 14) dX9_platformOf_13 (by decide) rfl ?_
    refine r_cV (q := 17) (As := [.int _]) wc_X9_96 rfl im_X9_no se_X9_no h_2.m rfl rfl (Nat.le_of_ble_eq_true rfl) (Nat.le_of_eq (Nat.zero_add _)) (Nat.le_of_eq (Nat.zero_add _)) dX9_platformOf_14 rfl rfl (s_X9_no h_2 fun M_14 h_14 => ?_)
    try simp only [sN_sN] at h_14
    refine r_iret dX9_platformOf_17 ?_
    exact hQ _ h_14
end W57
