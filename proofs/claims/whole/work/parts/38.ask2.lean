/-! THE CLASS ITSELF: questions, more -/
section W38
variable {G : En} {Λ : Ob → Nat} {ρ : Me} {σ : Sg} {M : Me} {d : Nat} {Q : Option Value → Me → Prop} {QX : String → Me → Prop} {S : St}
theorem gLet_lt2 {L : List Nat} : ∀ x ∈ gLet L, x < 2 := by
  intro x hx
  obtain ⟨s, -, hs⟩ := List.mem_flatMap.mp hx
  obtain ⟨j, -, rfl⟩ := List.mem_map.mp hs
  exact Nat.mod_lt _ (by decide)
def gWaysS (W Lt : List Nat) (b : Bool) : Nat := if b = true then (gES W Lt Lt.length).1.getD 0 0 else (gBS W Lt Lt.length).1.getD Lt.length 0
def qRead (σ : Sg) (p : Int32) : An := if gLA (gR σ 0 0) (gLet (gR σ 0 11)) p < 0 then (1, 0) else (0, gLA (gR σ 0 0) (gLet (gR σ 0 11)) p)
theorem s_X8_ranked (h : RX G Λ ρ (sS σ 0 S) M) (hs : Sm S) {m p : Int32} (hQ : (qRank S m p).1 = 0 → Q (some (.int (qRank S m p).2)) M) (hX : ∀ E, exL ["java/lang/IllegalArgumentException", "java/util/NoSuchElementException"] (qRank S m p).1 = some E → QX E M)  : MS G yX8_ranked cX8_ranked 3 (some .int) (d + 12) 1 6 [.ref (Λ (0, 0, 0)), .int m, .int p] M Q QX := by
  refine MS.of (by decide) (by simp [Value.category]) (Nat.le_of_ble_eq_true rfl) ?_
  show AW _ (_, _, _, _, _, _, _, _, _) _ _ _ _ [some _, some _, some _] _ _
  refine r_iload_n (q := 1) dX8_ranked_0 rfl rfl ?_
  refine r_if_lt (t := 9) (q := 4) dX8_ranked_1 rfl rfl (fun c1 => ?_) (fun c1 => ?_)
  · have e : qRank S m p = (1, 0) := if_pos c1
    exact r_throw (names := nm_IllegalArgumentException) (j := 22) (by decide +kernel) (by decide +kernel) ck_X8_130 ini_IllegalArgumentException rfl at_X8_134 og_X8_134 (by decide) (by omega) (Nat.le_of_ble_eq_true rfl) (Nat.le_refl _) (Nat.le_refl _) dX8_ranked_9 dX8_ranked_12 dX8_ranked_13 dX8_ranked_15 dX8_ranked_18 (hX _ (by rw [e]; rfl))
  · refine r_iload_n (q := 5) dX8_ranked_4 rfl rfl ?_
    refine r_iconst (v := nI 2) (q := 6) dX8_ranked_5 (by decide) rfl ?_
    refine r_icmp_le (t := 19) (q := 9) dX8_ranked_6 rfl rfl (fun c6 => ?_) (fun c6 => ?_)
    · obtain ⟨i, hi, rfl⟩ := lt_nI (by decide) c1 (Int32.not_lt.mpr c6)
      refine r_iload_n (q := 20) dX8_ranked_19 rfl rfl ?_
      refine r_cS (q := 23) (As := [.int _]) wc_X8_119 st_X8_isLine rfl (Nat.le_of_ble_eq_true rfl) (Nat.le_of_eq (Nat.zero_add _)) (Nat.le_of_eq (Nat.zero_add _)) dX8_ranked_20 rfl rfl (s_X8_isLine ?_)
      refine r_if_ne (t := 36) (q := 26) dX8_ranked_23 rfl rfl (fun c23 => ?_) (fun c23 => ?_)
      · obtain ⟨j, hj, rfl⟩ := isL_t (bI_ne c23)
        have e23 : ¬ isL (nI j) = false := by rw [isL_n hj]; decide
        have e : qRank S (nI i) (nI j) = (0, gRk (S.1 (rkRow (nI i))) j) := by rw [qRank, if_neg c1, if_neg (Int32.not_lt.mpr c6), if_neg e23, nI_c7 (by omega)]
        rw [e] at hQ
        refine r_iload_n (q := 37) dX8_ranked_36 rfl rfl ?_
        refine r_if_ne (t := 50) (q := 40) dX8_ranked_37 rfl rfl (fun c37 => ?_) (fun c37 => ?_)
        · rw [show rkRow (nI i) = (if nI i = nI 1 then 2 else 5) from if_neg c37] at hQ
          refine r_iload_n (q := 51) dX8_ranked_50 rfl rfl ?_
          refine r_iconst (v := nI 1) (q := 52) dX8_ranked_51 (by decide) rfl ?_
          refine r_icmp_ne (t := 65) (q := 55) dX8_ranked_52 rfl rfl (fun c52 => ?_) (fun c52 => ?_)
          · rw [if_neg c52] at hQ
            refine r_aload_n (q := 66) dX8_ranked_65 rfl rfl ?_
            refine r_get (q := 69) (kk := 0) h.x rfl wi_RX8 (by decide) rfl fk_X8_12 rfl dX8_ranked_66 rfl ?_
            refine r_get (q := 72) (kk := 5) (h.st (by decide)) rfl wi_RX5 (by decide) rfl fk_X8_254 rfl dX8_ranked_69 rfl ?_
            refine r_iload_n (q := 73) dX8_ranked_72 rfl rfl ?_
            refine r_cS (q := 76) (As := [.ref _, .int _]) wc_X8_257 st_X8_lineRanked rfl (Nat.le_of_ble_eq_true rfl) (Nat.le_of_eq (Nat.zero_add _)) (Nat.le_of_eq (Nat.zero_add _)) dX8_ranked_73 rfl rfl (s_X8_lineRanked (h.rwS (by decide)) (hs _ (by decide)) hj ?_)
            refine r_iret dX8_ranked_76 ?_
            exact hQ rfl
          · rw [if_pos c52] at hQ
            refine r_aload_n (q := 56) dX8_ranked_55 rfl rfl ?_
            refine r_get (q := 59) (kk := 0) h.x rfl wi_RX8 (by decide) rfl fk_X8_12 rfl dX8_ranked_56 rfl ?_
            refine r_get (q := 62) (kk := 2) (h.st (by decide)) rfl wi_RX5 (by decide) rfl fk_X8_251 rfl dX8_ranked_59 rfl ?_
            refine r_goto (t := 72) dX8_ranked_62 rfl ?_
            refine r_iload_n (q := 73) dX8_ranked_72 rfl rfl ?_
            refine r_cS (q := 76) (As := [.ref _, .int _]) wc_X8_257 st_X8_lineRanked rfl (Nat.le_of_ble_eq_true rfl) (Nat.le_of_eq (Nat.zero_add _)) (Nat.le_of_eq (Nat.zero_add _)) dX8_ranked_73 rfl rfl (s_X8_lineRanked (h.rwS (by decide)) (hs _ (by decide)) hj ?_)
            refine r_iret dX8_ranked_76 ?_
            exact hQ rfl
        · rw [show rkRow (nI i) = 1 from if_pos c37] at hQ
          refine r_aload_n (q := 41) dX8_ranked_40 rfl rfl ?_
          refine r_get (q := 44) (kk := 0) h.x rfl wi_RX8 (by decide) rfl fk_X8_12 rfl dX8_ranked_41 rfl ?_
          refine r_get (q := 47) (kk := 1) (h.st (by decide)) rfl wi_RX5 (by decide) rfl fk_X8_248 rfl dX8_ranked_44 rfl ?_
          refine r_goto (t := 72) dX8_ranked_47 rfl ?_
          refine r_iload_n (q := 73) dX8_ranked_72 rfl rfl ?_
          refine r_cS (q := 76) (As := [.ref _, .int _]) wc_X8_257 st_X8_lineRanked rfl (Nat.le_of_ble_eq_true rfl) (Nat.le_of_eq (Nat.zero_add _)) (Nat.le_of_eq (Nat.zero_add _)) dX8_ranked_73 rfl rfl (s_X8_lineRanked (h.rwS (by decide)) (hs _ (by decide)) hj ?_)
          refine r_iret dX8_ranked_76 ?_
          exact hQ rfl
      · have e : qRank S (nI i) p = (2, 0) := by rw [qRank, if_neg c1, if_neg (Int32.not_lt.mpr c6), if_pos (bI_eq0.mp c23)]
        exact r_throwN (names := nm_NoSuchElementException) (j := 23) rfl neB_0 neB_1 neB_2 neB_5 (by decide +kernel) (by decide +kernel) ck_X8_205 ini_NoSuchElementException rfl at_X8_209 og_X8_209 (by decide) (by omega) (Nat.le_of_ble_eq_true rfl) (Nat.le_refl _) (Nat.le_refl _) dX8_ranked_26 dX8_ranked_29 dX8_ranked_30 dX8_ranked_32 dX8_ranked_35 (hX _ (by rw [e]; rfl))
    · have e : qRank S m p = (1, 0) := by rw [qRank, if_neg c1, if_pos (Int32.not_le.mp c6)]
      exact r_throw (names := nm_IllegalArgumentException) (j := 22) (by decide +kernel) (by decide +kernel) ck_X8_130 ini_IllegalArgumentException rfl at_X8_134 og_X8_134 (by decide) (by omega) (Nat.le_of_ble_eq_true rfl) (Nat.le_refl _) (Nat.le_refl _) dX8_ranked_9 dX8_ranked_12 dX8_ranked_13 dX8_ranked_15 dX8_ranked_18 (hX _ (by rw [e]; rfl))
theorem s_X8_refusal (h : RX G Λ ρ σ M) {b : Bool} (hQ : (qRef σ b).1 = 0 → Q (some (.int (qRef σ b).2)) M) (hX : ∀ E, exL ["java/lang/IllegalStateException"] (qRef σ b).1 = some E → QX E M)  : MS G yX8_refusal cX8_refusal 2 (some .int) (d + 12) 1 6 [.ref (Λ (0, 0, 0)), .int (bI b)] M Q QX := by
  refine MS.of (by decide) (by simp [Value.category]) (Nat.le_of_ble_eq_true rfl) ?_
  show AW _ (_, _, _, _, _, _, _, _, _) _ _ _ _ [some _, some _] _ _
  refine r_aload_n (q := 1) dX8_refusal_0 rfl rfl ?_
  refine r_get (q := 4) (kk := 10) h.x rfl wi_RX8 (by decide) rfl fk_X8_61 rfl dX8_refusal_1 rfl ?_
  refine r_if_ne (t := 18) (q := 7) dX8_refusal_4 rfl rfl (fun c4 => ?_) (fun c4 => ?_)
  · refine r_iload_n (q := 19) dX8_refusal_18 rfl rfl ?_
    refine r_if_eq (t := 29) (q := 22) dX8_refusal_19 rfl rfl (fun c19 => ?_) (fun c19 => ?_)
    · obtain rfl : b = false := bI_eq0.mp c19
      have e : qRef σ false = (0, gM σ 3) := by rw [qRef, if_neg c4, if_neg (by decide)]
      rw [e] at hQ
      refine r_aload_n (q := 30) dX8_refusal_29 rfl rfl ?_
      refine r_get (q := 33) (kk := 10) h.x rfl wi_RX8 (by decide) rfl fk_X8_61 rfl dX8_refusal_30 rfl ?_
      refine r_iret dX8_refusal_33 ?_
      exact hQ rfl
    · obtain rfl : b = true := bI_ne c19
      have e : qRef σ true = (0, gM σ 4) := by rw [qRef, if_neg c4, if_pos rfl]
      rw [e] at hQ
      refine r_aload_n (q := 23) dX8_refusal_22 rfl rfl ?_
      refine r_get (q := 26) (kk := 11) h.x rfl wi_RX8 (by decide) rfl fk_X8_64 rfl dX8_refusal_23 rfl ?_
      refine r_goto (t := 33) dX8_refusal_26 rfl ?_
      refine r_iret dX8_refusal_33 ?_
      exact hQ rfl
  · have e : qRef σ b = (1, 0) := if_pos c4
    exact r_throwW (names := nm_IllegalStateException) (j := 25) (by decide +kernel) (by decide +kernel) ck_X8_291 ini_IllegalStateException rfl at_X8_295 og_X8_295 (by decide) (by omega) (Nat.le_of_ble_eq_true rfl) (Nat.le_refl _) (Nat.le_refl _) dX8_refusal_7 dX8_refusal_10 dX8_refusal_11 dX8_refusal_14 dX8_refusal_17 (hX _ (by rw [e]; rfl))
theorem s_X8_errorPosition (h : RX G Λ ρ σ M) (hQ : (qErr σ 1).1 = 0 → Q (some (.int (qErr σ 1).2)) M) (hX : ∀ E, exL ["java/util/NoSuchElementException"] (qErr σ 1).1 = some E → QX E M)  : MS G yX8_errorPosition cX8_errorPosition 1 (some .int) (d + 12) 1 6 [.ref (Λ (0, 0, 0))] M Q QX := by
  refine MS.of (by decide) (by simp [Value.category]) (Nat.le_of_ble_eq_true rfl) ?_
  show AW _ (_, _, _, _, _, _, _, _, _) _ _ _ _ [some _] _ _
  refine r_aload_n (q := 1) dX8_errorPosition_0 rfl rfl ?_
  refine r_get (q := 4) (kk := 8) h.x rfl wi_RX8 (by decide) rfl fk_X8_54 rfl dX8_errorPosition_1 rfl ?_
  refine r_if_ge (t := 18) (q := 7) dX8_errorPosition_4 rfl rfl (fun c4 => ?_) (fun c4 => ?_)
  · have e : qErr σ 1 = (0, gM σ 1) := if_neg (Int32.not_lt.mpr c4)
    rw [e] at hQ
    refine r_aload_n (q := 19) dX8_errorPosition_18 rfl rfl ?_
    refine r_get (q := 22) (kk := 8) h.x rfl wi_RX8 (by decide) rfl fk_X8_54 rfl dX8_errorPosition_19 rfl ?_
    refine r_iret dX8_errorPosition_22 ?_
    exact hQ rfl
  · have e : qErr σ 1 = (1, 0) := if_pos (Int32.not_le.mp c4)
    exact r_throwNW (names := nm_NoSuchElementException) (j := 33) rfl neB_0 neB_1 neB_2 neB_5 (by decide +kernel) (by decide +kernel) ck_X8_205 ini_NoSuchElementException rfl at_X8_209 og_X8_209 (by decide) (by omega) (Nat.le_of_ble_eq_true rfl) (Nat.le_refl _) (Nat.le_refl _) dX8_errorPosition_7 dX8_errorPosition_10 dX8_errorPosition_11 dX8_errorPosition_14 dX8_errorPosition_17 (hX _ (by rw [e]; rfl))
theorem s_X8_refusedItem (h : RX G Λ ρ σ M) (hQ : (qErr σ 2).1 = 0 → Q (some (.int (qErr σ 2).2)) M) (hX : ∀ E, exL ["java/util/NoSuchElementException"] (qErr σ 2).1 = some E → QX E M)  : MS G yX8_refusedItem cX8_refusedItem 1 (some .int) (d + 12) 1 6 [.ref (Λ (0, 0, 0))] M Q QX := by
  refine MS.of (by decide) (by simp [Value.category]) (Nat.le_of_ble_eq_true rfl) ?_
  show AW _ (_, _, _, _, _, _, _, _, _) _ _ _ _ [some _] _ _
  refine r_aload_n (q := 1) dX8_refusedItem_0 rfl rfl ?_
  refine r_get (q := 4) (kk := 9) h.x rfl wi_RX8 (by decide) rfl fk_X8_58 rfl dX8_refusedItem_1 rfl ?_
  refine r_if_ge (t := 18) (q := 7) dX8_refusedItem_4 rfl rfl (fun c4 => ?_) (fun c4 => ?_)
  · have e : qErr σ 2 = (0, gM σ 2) := if_neg (Int32.not_lt.mpr c4)
    rw [e] at hQ
    refine r_aload_n (q := 19) dX8_refusedItem_18 rfl rfl ?_
    refine r_get (q := 22) (kk := 9) h.x rfl wi_RX8 (by decide) rfl fk_X8_58 rfl dX8_refusedItem_19 rfl ?_
    refine r_iret dX8_refusedItem_22 ?_
    exact hQ rfl
  · have e : qErr σ 2 = (1, 0) := if_pos (Int32.not_le.mp c4)
    exact r_throwNW (names := nm_NoSuchElementException) (j := 34) rfl neB_0 neB_1 neB_2 neB_5 (by decide +kernel) (by decide +kernel) ck_X8_205 ini_NoSuchElementException rfl at_X8_209 og_X8_209 (by decide) (by omega) (Nat.le_of_ble_eq_true rfl) (Nat.le_refl _) (Nat.le_refl _) dX8_refusedItem_7 dX8_refusedItem_10 dX8_refusedItem_11 dX8_refusedItem_14 dX8_refusedItem_17 (hX _ (by rw [e]; rfl))
theorem s_X1_sizeO (h : RX G Λ ρ σ M) (hQ : Q (some (.int (nI (gR σ 11 0).length))) M)  : MS G yX1_size cX1_size 1 (some .int) (d + 1) 0 0 [.ref (Λ (6, 0, 0))] M Q QX := by
  refine MS.of (by decide) (by simp [Value.category]) (Nat.le_of_ble_eq_true rfl) ?_
  show AW _ (_, _, _, _, _, _, _, _, _) _ _ _ _ [some _] _ _
  refine r_aload_n (q := 1) dX1_size_0 rfl rfl ?_
  refine r_get (q := 4) (kk := 0) h.inp rfl wi_RX1 (by decide) rfl fk_X1_14 rfl dX1_size_1 rfl ?_
  refine r_cV (q := 7) (As := []) wc_X1_39 rfl im_X2_size se_X2_size (h.row (by decide)) rfl rfl (Nat.le_of_ble_eq_true rfl) (Nat.le_of_eq (Nat.zero_add _)) (Nat.le_of_eq (Nat.zero_add _)) dX1_size_4 rfl rfl (s_X2_size (h.rw (by decide)) ?_)
  refine r_iret dX1_size_7 ?_
  exact hQ
theorem s_X8_account (h : RX G Λ ρ σ M) {k : Int32} (hQ : (qAcc σ k).1 = 0 → Q (some (.int (qAcc σ k).2)) M) (hX : ∀ E, exL ["java/lang/IllegalArgumentException"] (qAcc σ k).1 = some E → QX E M)  : MS G yX8_account cX8_account 2 (some .int) (d + 12) 1 6 [.ref (Λ (0, 0, 0)), .int k] M Q QX := by
  refine MS.of (by decide) (by simp [Value.category]) (Nat.le_of_ble_eq_true rfl) ?_
  show AW _ (_, _, _, _, _, _, _, _, _) _ _ _ _ [some _, some _] _ _
  refine r_iload_n (q := 1) dX8_account_0 rfl rfl ?_
  refine r_if_lt (t := 10) (q := 4) dX8_account_1 rfl rfl (fun c1 => ?_) (fun c1 => ?_)
  · have e : qAcc σ k = (1, 0) := if_pos c1
    exact r_throwW (names := nm_IllegalArgumentException) (j := 26) (by decide +kernel) (by decide +kernel) ck_X8_130 ini_IllegalArgumentException rfl at_X8_134 og_X8_134 (by decide) (by omega) (Nat.le_of_ble_eq_true rfl) (Nat.le_refl _) (Nat.le_refl _) dX8_account_10 dX8_account_13 dX8_account_14 dX8_account_17 dX8_account_20 (hX _ (by rw [e]; rfl))
  · refine r_iload_n (q := 5) dX8_account_4 rfl rfl ?_
    refine r_bipush (v := nI 15) (q := 7) dX8_account_5 (by decide) rfl ?_
    refine r_icmp_le (t := 21) (q := 10) dX8_account_7 rfl rfl (fun c7 => ?_) (fun c7 => ?_)
    · obtain ⟨i, hi, rfl⟩ := lt_nI (by decide) c1 (Int32.not_lt.mpr c7)
      have e7 := Int32.not_lt.mpr c7
      refine r_iload_n (q := 22) dX8_account_21 rfl rfl ?_
      refine r_bipush (v := nI 14) (q := 24) dX8_account_22 (by decide) rfl ?_
      refine r_icmp_ne (t := 35) (q := 27) dX8_account_24 rfl rfl (fun c24 => ?_) (fun c24 => ?_)
      · have e : qAcc σ (nI i) = (if nI i = nI 15 then (0, gM σ 6) else (0, nI (gAcc (gS σ 0) (nI i).toNatClampNeg))) := by rw [qAcc, if_neg c1, if_neg e7, if_neg c24]
        rw [nI_eq (by omega) (by decide)] at c24
        refine r_iload_n (q := 36) dX8_account_35 rfl rfl ?_
        refine r_bipush (v := nI 15) (q := 38) dX8_account_36 (by decide) rfl ?_
        refine r_icmp_ne (t := 51) (q := 41) dX8_account_38 rfl rfl (fun c38 => ?_) (fun c38 => ?_)
        · rw [if_neg c38, nI_c7 (by omega)] at e
          rw [nI_eq (by omega) (by decide)] at c38
          rw [e] at hQ
          refine r_aload_n (q := 52) dX8_account_51 rfl rfl ?_
          refine r_get (q := 55) (kk := 0) h.x rfl wi_RX8 (by decide) rfl fk_X8_12 rfl dX8_account_52 rfl ?_
          refine r_iload_n (q := 56) dX8_account_55 rfl rfl ?_
          refine r_cV (q := 59) (As := [.int _]) wc_X8_300 rfl im_X5_accountOf se_X5_accountOf (h.st (by decide)) rfl rfl (Nat.le_of_ble_eq_true rfl) (Nat.le_of_eq (Nat.zero_add _)) (Nat.le_of_eq (Nat.zero_add _)) dX8_account_56 rfl rfl (s_X5_accountOf (h.toS 0) (by decide) (by omega) ?_)
          refine r_iret dX8_account_59 ?_
          exact hQ rfl
        · rw [if_pos c38] at e
          rw [e] at hQ
          refine r_aload_n (q := 42) dX8_account_41 rfl rfl ?_
          refine r_get (q := 45) (kk := 4) h.x rfl wi_RX8 (by decide) rfl fk_X8_29 rfl dX8_account_42 rfl ?_
          refine r_cV (q := 48) (As := []) wc_X8_299 rfl im_X0_size se_X0_size h.hi rfl rfl (Nat.le_of_ble_eq_true rfl) (Nat.le_of_eq (Nat.zero_add _)) (Nat.le_of_eq (Nat.zero_add _)) dX8_account_45 rfl rfl (s_X0_size h ?_)
          refine r_goto (t := 59) dX8_account_48 rfl ?_
          refine r_iret dX8_account_59 ?_
          exact hQ rfl
      · have e : qAcc σ (nI i) = (0, nI (gR σ 11 0).length) := by rw [qAcc, if_neg c1, if_neg e7, if_pos c24]
        rw [e] at hQ
        refine r_aload_n (q := 28) dX8_account_27 rfl rfl ?_
        refine r_get (q := 31) (kk := 5) h.x rfl wi_RX8 (by decide) rfl fk_X8_36 rfl dX8_account_28 rfl ?_
        refine r_cV (q := 34) (As := []) wc_X8_298 rfl im_X1_size se_X1_size h.inp rfl rfl (Nat.le_of_ble_eq_true rfl) (Nat.le_of_eq (Nat.zero_add _)) (Nat.le_of_eq (Nat.zero_add _)) dX8_account_31 rfl rfl (s_X1_sizeO h ?_)
        refine r_iret dX8_account_34 ?_
        exact hQ rfl
    · have e : qAcc σ k = (1, 0) := by rw [qAcc, if_neg c1, if_pos (Int32.not_le.mp c7)]
      exact r_throwW (names := nm_IllegalArgumentException) (j := 26) (by decide +kernel) (by decide +kernel) ck_X8_130 ini_IllegalArgumentException rfl at_X8_134 og_X8_134 (by decide) (by omega) (Nat.le_of_ble_eq_true rfl) (Nat.le_refl _) (Nat.le_refl _) dX8_account_10 dX8_account_13 dX8_account_14 dX8_account_17 dX8_account_20 (hX _ (by rw [e]; rfl))
theorem s_X8_undo (h : RX G Λ ρ σ M) (hv : Hv σ) (hQ : ∀ o z, o < 8 → z ≤ 8 → gM σ 5 = nI o → gM σ 6 = nI z → 0 < z → ∀ M', RX G Λ ρ (hPop σ o z 0) M' → Q (some (.int (nI (z - 1)))) M') (hX : gM σ 6 = 0 → QX "java/lang/IllegalStateException" M)  : MS G yX8_undo cX8_undo 1 (some .int) (d + 12) 1 6 [.ref (Λ (0, 0, 0))] M Q QX := by
  obtain ⟨o, z, ho8, hz8, ho, hz⟩ := hv
  refine MS.of (by decide) (by simp [Value.category]) (Nat.le_of_ble_eq_true rfl) ?_
  show AW _ (_, _, _, _, _, _, _, _, _) _ _ _ _ [some _] _ _
  refine r_aload_n (q := 1) dX8_undo_0 rfl rfl ?_
  refine r_get (q := 4) (kk := 4) h.x rfl wi_RX8 (by decide) rfl fk_X8_29 rfl dX8_undo_1 rfl ?_
  refine r_cV (q := 7) (As := []) wc_X8_299 rfl im_X0_size se_X0_size h.hi rfl rfl (Nat.le_of_ble_eq_true rfl) (Nat.le_of_eq (Nat.zero_add _)) (Nat.le_of_eq (Nat.zero_add _)) dX8_undo_4 rfl rfl (s_X0_size h ?_)
  rw [hz]
  refine r_if_ne (t := 21) (q := 10) dX8_undo_7 rfl rfl (fun c7 => ?_) (fun c7 => ?_)
  · have hz1 : 0 < z := by
      rcases Nat.eq_zero_or_pos z with e | e
      · exact absurd (by rw [e]; rfl) c7
      · exact e
    refine r_aload_n (q := 22) dX8_undo_21 rfl rfl ?_
    refine r_get (q := 25) (kk := 4) h.x rfl wi_RX8 (by decide) rfl fk_X8_29 rfl dX8_undo_22 rfl ?_
    refine r_aload_n (q := 26) dX8_undo_25 rfl rfl ?_
    refine r_get (q := 29) (kk := 0) h.x rfl wi_RX8 (by decide) rfl fk_X8_12 rfl dX8_undo_26 rfl ?_
    refine r_cV (q := 32) (As := [.ref _]) wc_X8_367 rfl im_X0_pop se_X0_pop h.hi rfl rfl (Nat.le_of_ble_eq_true rfl) (Nat.le_of_eq (Nat.zero_add _)) (Nat.le_of_eq (Nat.zero_add _)) dX8_undo_29 rfl rfl (s_X0_pop h ho ho8 hz hz8 hz1 (by decide) fun M_29 h_29 => ?_)
    refine r_aload_n (q := 33) dX8_undo_32 rfl rfl ?_
    refine r_get (q := 36) (kk := 4) h_29.x rfl wi_RX8 (by decide) rfl fk_X8_29 rfl dX8_undo_33 rfl ?_
    refine r_cV (q := 39) (As := []) wc_X8_299 rfl im_X0_size se_X0_size h_29.hi rfl rfl (Nat.le_of_ble_eq_true rfl) (Nat.le_of_eq (Nat.zero_add _)) (Nat.le_of_eq (Nat.zero_add _)) dX8_undo_36 rfl rfl (s_X0_size h_29 ?_)
    refine r_iret dX8_undo_39 ?_
    exact hQ o z ho8 hz8 ho hz hz1 _ h_29
  · exact r_throwW (names := nm_IllegalStateException) (j := 35) (by decide +kernel) (by decide +kernel) ck_X8_291 ini_IllegalStateException rfl at_X8_295 og_X8_295 (by decide) (by omega) (Nat.le_of_ble_eq_true rfl) (Nat.le_refl _) (Nat.le_refl _) dX8_undo_10 dX8_undo_13 dX8_undo_14 dX8_undo_17 dX8_undo_20 (hX (by rw [hz]; exact c7))
theorem s_X8_snapshot (h : RX G Λ ρ σ M) (hQ : ∀ M', RX G Λ ρ (sM (sS σ 2 (gS σ 0)) 0 (nI 1)) M' → Q (some (.int (nI ((gR σ 0 0).countP (0 < ·))))) M')  : MS G yX8_snapshot cX8_snapshot 1 (some .int) (d + 4) 0 0 [.ref (Λ (0, 0, 0))] M Q QX := by
  refine MS.of (by decide) (by simp [Value.category]) (Nat.le_of_ble_eq_true rfl) ?_
  show AW _ (_, _, _, _, _, _, _, _, _) _ _ _ _ [some _] _ _
  refine r_aload_n (q := 1) dX8_snapshot_0 rfl rfl ?_
  refine r_get (q := 4) (kk := 2) h.x rfl wi_RX8 (by decide) rfl fk_X8_19 rfl dX8_snapshot_1 rfl ?_
  refine r_aload_n (q := 5) dX8_snapshot_4 rfl rfl ?_
  refine r_get (q := 8) (kk := 0) h.x rfl wi_RX8 (by decide) rfl fk_X8_12 rfl dX8_snapshot_5 rfl ?_
  refine r_cV (q := 11) (As := [.ref _]) wc_X8_340 rfl im_X5_copyFrom se_X5_copyFrom (h.st (by decide)) rfl rfl (Nat.le_of_ble_eq_true rfl) (Nat.le_of_eq (Nat.zero_add _)) (Nat.le_of_eq (Nat.zero_add _)) dX8_snapshot_8 rfl rfl (s_X5_copyFrom (h.toS 2) (by decide) (by decide) (by decide) fun M_8 h_8 => ?_)
  refine r_aload_n (q := 12) dX8_snapshot_11 rfl rfl ?_
  refine r_iconst (v := nI 1) (q := 13) dX8_snapshot_12 (by decide) rfl ?_
  refine r_p8b (q := 16) h_8 rfl fk_X8_22 dX8_snapshot_13 rfl rfl fun M_13 h_13 => ?_
  refine r_aload_n (q := 17) dX8_snapshot_16 rfl rfl ?_
  refine r_get (q := 20) (kk := 0) h_13.x rfl wi_RX8 (by decide) rfl fk_X8_12 rfl dX8_snapshot_17 rfl ?_
  refine r_get (q := 23) (kk := 0) (h_13.st (by decide)) rfl wi_RX5 (by decide) rfl fk_X8_67 rfl dX8_snapshot_20 rfl ?_
  refine r_cS (q := 26) (As := [.ref _]) wc_X8_71 st_X3_number rfl (Nat.le_of_ble_eq_true rfl) (Nat.le_of_eq (Nat.zero_add _)) (Nat.le_of_eq (Nat.zero_add _)) dX8_snapshot_23 rfl rfl (s_X3_number (h_13.rw (by decide)) ?_)
  refine r_iret dX8_snapshot_26 ?_
  exact hQ _ h_13
theorem s_X8_restore (h : RX G Λ ρ σ M) (hQ : ¬ gM σ 0 = 0 → ∀ M', RX G Λ ρ (sM (sS σ 0 (gS σ 2)) 6 (nI 0)) M' → Q (some (.int (nI ((gR σ 2 0).countP (0 < ·))))) M') (hX : gM σ 0 = 0 → QX "java/lang/IllegalStateException" M)  : MS G yX8_restore cX8_restore 1 (some .int) (d + 12) 1 6 [.ref (Λ (0, 0, 0))] M Q QX := by
  refine MS.of (by decide) (by simp [Value.category]) (Nat.le_of_ble_eq_true rfl) ?_
  show AW _ (_, _, _, _, _, _, _, _, _) _ _ _ _ [some _] _ _
  refine r_aload_n (q := 1) dX8_restore_0 rfl rfl ?_
  refine r_get (q := 4) (kk := 3) h.x rfl wi_RX8 (by decide) rfl fk_X8_22 rfl dX8_restore_1 rfl ?_
  refine r_if_ne (t := 18) (q := 7) dX8_restore_4 rfl rfl (fun c4 => ?_) (fun c4 => ?_)
  · refine r_aload_n (q := 19) dX8_restore_18 rfl rfl ?_
    refine r_get (q := 22) (kk := 0) h.x rfl wi_RX8 (by decide) rfl fk_X8_12 rfl dX8_restore_19 rfl ?_
    refine r_aload_n (q := 23) dX8_restore_22 rfl rfl ?_
    refine r_get (q := 26) (kk := 2) h.x rfl wi_RX8 (by decide) rfl fk_X8_19 rfl dX8_restore_23 rfl ?_
    refine r_cV (q := 29) (As := [.ref _]) wc_X8_340 rfl im_X5_copyFrom se_X5_copyFrom (h.st (by decide)) rfl rfl (Nat.le_of_ble_eq_true rfl) (Nat.le_of_eq (Nat.zero_add _)) (Nat.le_of_eq (Nat.zero_add _)) dX8_restore_26 rfl rfl (s_X5_copyFrom (h.toS 0) (by decide) (by decide) (by decide) fun M_26 h_26 => ?_)
    refine r_aload_n (q := 30) dX8_restore_29 rfl rfl ?_
    refine r_get (q := 33) (kk := 4) h_26.x rfl wi_RX8 (by decide) rfl fk_X8_29 rfl dX8_restore_30 rfl ?_
    refine r_cV (q := 36) (As := []) wc_X8_80 rfl im_X0_forget se_X0_forget h_26.hi rfl rfl (Nat.le_of_ble_eq_true rfl) (Nat.le_of_eq (Nat.zero_add _)) (Nat.le_of_eq (Nat.zero_add _)) dX8_restore_33 rfl rfl (s_X0_forget h_26 fun M_33 h_33 => ?_)
    refine r_aload_n (q := 37) dX8_restore_36 rfl rfl ?_
    refine r_get (q := 40) (kk := 0) h_33.x rfl wi_RX8 (by decide) rfl fk_X8_12 rfl dX8_restore_37 rfl ?_
    refine r_get (q := 43) (kk := 0) (h_33.st (by decide)) rfl wi_RX5 (by decide) rfl fk_X8_67 rfl dX8_restore_40 rfl ?_
    refine r_cS (q := 46) (As := [.ref _]) wc_X8_71 st_X3_number rfl (Nat.le_of_ble_eq_true rfl) (Nat.le_of_eq (Nat.zero_add _)) (Nat.le_of_eq (Nat.zero_add _)) dX8_restore_43 rfl rfl (s_X3_number (h_33.rw (by decide)) ?_)
    refine r_iret dX8_restore_46 ?_
    exact hQ c4 _ h_33
  · exact r_throwW (names := nm_IllegalStateException) (j := 36) (by decide +kernel) (by decide +kernel) ck_X8_291 ini_IllegalStateException rfl at_X8_295 og_X8_295 (by decide) (by omega) (Nat.le_of_ble_eq_true rfl) (Nat.le_refl _) (Nat.le_refl _) dX8_restore_7 dX8_restore_10 dX8_restore_11 dX8_restore_14 dX8_restore_17 (hX c4)
theorem s_X8_ways (h : RX G Λ ρ σ M) (hwd : ∀ x ∈ gR σ 0 0, x < 448) (hlen : (gLet (gR σ 0 11)).length ≤ 882) {b : Bool} (hQ : ∀ S' M', RX G Λ ρ (sS σ 12 S') M' → Q (some (.int (nI (gWaysS (gR σ 0 0) (gLet (gR σ 0 11)) b)))) M')  : MS G yX8_ways cX8_ways 2 (some .int) (d + 5) 0 0 [.ref (Λ (0, 0, 0)), .int (bI b)] M Q QX := by
  refine MS.of (by decide) (by simp [Value.category]) (Nat.le_of_ble_eq_true rfl) ?_
  show AW _ (_, _, _, _, _, _, _, _, _) _ _ _ _ [some _, some _] _ _
  refine r_aload_n (q := 1) dX8_ways_0 rfl rfl ?_
  refine r_get (q := 4) (kk := 6) h.x rfl wi_RX8 (by decide) rfl fk_X8_43 rfl dX8_ways_1 rfl ?_
  refine r_aload_n (q := 5) dX8_ways_4 rfl rfl ?_
  refine r_get (q := 8) (kk := 0) h.x rfl wi_RX8 (by decide) rfl fk_X8_12 rfl dX8_ways_5 rfl ?_
  refine r_get (q := 11) (kk := 11) (h.st (by decide)) rfl wi_RX5 (by decide) rfl fk_X8_212 rfl dX8_ways_8 rfl ?_
  refine r_cV (q := 14) (As := [.ref _]) wc_X8_224 rfl im_X6_load se_X6_load h.sp rfl rfl (Nat.le_of_ble_eq_true rfl) (Nat.le_of_eq (Nat.zero_add _)) (Nat.le_of_eq (Nat.zero_add _)) dX8_ways_11 rfl rfl (s_X6_load (h.toS 12) hlen fun M_11 h_11 => ?_)
  refine r_iload_n (q := 15) dX8_ways_14 rfl rfl ?_
  refine r_if_eq (t := 35) (q := 18) dX8_ways_15 rfl rfl (fun c15 => ?_) (fun c15 => ?_)
  · obtain rfl : b = false := bI_eq0.mp c15
    refine r_aload_n (q := 36) dX8_ways_35 rfl rfl ?_
    refine r_get (q := 39) (kk := 6) h_11.x rfl wi_RX8 (by decide) rfl fk_X8_43 rfl dX8_ways_36 rfl ?_
    refine r_aload_n (q := 40) dX8_ways_39 rfl rfl ?_
    refine r_get (q := 43) (kk := 0) h_11.x rfl wi_RX8 (by decide) rfl fk_X8_12 rfl dX8_ways_40 rfl ?_
    refine r_get (q := 46) (kk := 0) (h_11.st (by decide)) rfl wi_RX5 (by decide) rfl fk_X8_67 rfl dX8_ways_43 rfl ?_
    refine r_cV (q := 49) (As := [.ref _]) wc_X8_231 rfl im_X6_waysFromBeginning se_X6_waysFromBeginning h_11.sp rfl rfl (Nat.le_of_ble_eq_true rfl) (Nat.le_of_eq (Nat.zero_add _)) (Nat.le_of_eq (Nat.zero_add _)) dX8_ways_46 rfl rfl (s_X6_waysFromBeginning h_11 hwd gLet_lt2 hlen fun M_46 h_46 => ?_)
    refine r_iret dX8_ways_49 ?_
    exact hQ _ _ h_46
  · obtain rfl : b = true := bI_ne c15
    refine r_aload_n (q := 19) dX8_ways_18 rfl rfl ?_
    refine r_get (q := 22) (kk := 6) h_11.x rfl wi_RX8 (by decide) rfl fk_X8_43 rfl dX8_ways_19 rfl ?_
    refine r_aload_n (q := 23) dX8_ways_22 rfl rfl ?_
    refine r_get (q := 26) (kk := 0) h_11.x rfl wi_RX8 (by decide) rfl fk_X8_12 rfl dX8_ways_23 rfl ?_
    refine r_get (q := 29) (kk := 0) (h_11.st (by decide)) rfl wi_RX5 (by decide) rfl fk_X8_67 rfl dX8_ways_26 rfl ?_
    refine r_cV (q := 32) (As := [.ref _]) wc_X8_228 rfl im_X6_waysFromEnd se_X6_waysFromEnd h_11.sp rfl rfl (Nat.le_of_ble_eq_true rfl) (Nat.le_of_eq (Nat.zero_add _)) (Nat.le_of_eq (Nat.zero_add _)) dX8_ways_29 rfl rfl (s_X6_waysFromEnd h_11 hwd gLet_lt2 hlen fun M_29 h_29 => ?_)
    refine r_goto (t := 49) dX8_ways_32 rfl ?_
    refine r_iret dX8_ways_49 ?_
    exact hQ _ _ h_29
theorem s_X8_reading (h : RX G Λ ρ σ M) (hwd : ∀ x ∈ gR σ 0 0, x < 448) (hlen : (gLet (gR σ 0 11)).length ≤ 882) {p : Int32} (hQ : (qRead σ p).1 = 0 → ∀ S' M', RX G Λ ρ (sS σ 12 S') M' → Q (some (.int (qRead σ p).2)) M') (hX : ∀ E, exL ["java/util/NoSuchElementException"] (qRead σ p).1 = some E → ∀ S' M', RX G Λ ρ (sS σ 12 S') M' → QX E M')  : MS G yX8_reading cX8_reading 3 (some .int) (d + 12) 1 6 [.ref (Λ (0, 0, 0)), .int p] M Q QX := by
  refine MS.of (by decide) (by simp [Value.category]) (Nat.le_of_ble_eq_true rfl) ?_
  show AW _ (_, _, _, _, _, _, _, _, _) _ _ _ _ [some _, some _, _] _ _
  refine r_aload_n (q := 1) dX8_reading_0 rfl rfl ?_
  refine r_get (q := 4) (kk := 6) h.x rfl wi_RX8 (by decide) rfl fk_X8_43 rfl dX8_reading_1 rfl ?_
  refine r_aload_n (q := 5) dX8_reading_4 rfl rfl ?_
  refine r_get (q := 8) (kk := 0) h.x rfl wi_RX8 (by decide) rfl fk_X8_12 rfl dX8_reading_5 rfl ?_
  refine r_get (q := 11) (kk := 11) (h.st (by decide)) rfl wi_RX5 (by decide) rfl fk_X8_212 rfl dX8_reading_8 rfl ?_
  refine r_cV (q := 14) (As := [.ref _]) wc_X8_224 rfl im_X6_load se_X6_load h.sp rfl rfl (Nat.le_of_ble_eq_true rfl) (Nat.le_of_eq (Nat.zero_add _)) (Nat.le_of_eq (Nat.zero_add _)) dX8_reading_11 rfl rfl (s_X6_load (h.toS 12) hlen fun M_11 h_11 => ?_)
  refine r_aload_n (q := 15) dX8_reading_14 rfl rfl ?_
  refine r_get (q := 18) (kk := 6) h_11.x rfl wi_RX8 (by decide) rfl fk_X8_43 rfl dX8_reading_15 rfl ?_
  refine r_aload_n (q := 19) dX8_reading_18 rfl rfl ?_
  refine r_get (q := 22) (kk := 0) h_11.x rfl wi_RX8 (by decide) rfl fk_X8_12 rfl dX8_reading_19 rfl ?_
  refine r_get (q := 25) (kk := 0) (h_11.st (by decide)) rfl wi_RX5 (by decide) rfl fk_X8_67 rfl dX8_reading_22 rfl ?_
  refine r_iload_n (q := 26) dX8_reading_25 rfl rfl ?_
  refine r_cV (q := 29) (As := [.ref _, .int _]) wc_X8_234 rfl im_X6_lineAt se_X6_lineAt h_11.sp rfl rfl (Nat.le_of_ble_eq_true rfl) (Nat.le_of_eq (Nat.zero_add _)) (Nat.le_of_eq (Nat.zero_add _)) dX8_reading_26 rfl rfl (s_X6_lineAt h_11 hwd gLet_lt2 hlen fun M_26 h_26 => ?_)
  refine r_istore_n (q := 30) dX8_reading_29 (Nat.le_of_ble_eq_true rfl) rfl rfl ?_
  show AW _ (_, _, _, _, _, _, _, _, _) _ _ _ _ [some _, some _, some _] _ _
  refine r_iload_n (q := 31) dX8_reading_30 rfl rfl ?_
  refine r_if_ge (t := 44) (q := 34) dX8_reading_31 rfl rfl (fun c31 => ?_) (fun c31 => ?_)
  · have e : qRead σ p = (0, gLA (gR σ 0 0) (gLet (gR σ 0 11)) p) := if_neg (Int32.not_lt.mpr c31)
    rw [e] at hQ
    refine r_iload_n (q := 45) dX8_reading_44 rfl rfl ?_
    refine r_iret dX8_reading_45 ?_
    exact hQ rfl _ _ h_26
  · have e : qRead σ p = (1, 0) := if_pos (Int32.not_le.mp c31)
    exact r_throwN (names := nm_NoSuchElementException) (j := 20) rfl neB_0 neB_1 neB_2 neB_5 (by decide +kernel) (by decide +kernel) ck_X8_205 ini_NoSuchElementException rfl at_X8_209 og_X8_209 (by decide) (by omega) (Nat.le_of_ble_eq_true rfl) (Nat.le_refl _) (Nat.le_refl _) dX8_reading_34 dX8_reading_37 dX8_reading_38 dX8_reading_40 dX8_reading_43 (hX _ (by rw [e]; rfl) _ _ h_26)
theorem s_X8_areFreeWordsRight (h : RX G Λ ρ σ M) (hwd : ∀ x ∈ gR σ 0 0, x < 448) (hF : ∀ n, 1 ≤ n → n ≤ 6 → gFreeW (gR σ 0 0) n + gBars (gR σ 0 0) n 7 = 2 ^ n) (hQ : Q (some (.int (nI 1))) M)  : MS G yX8_areFreeWordsRight cX8_areFreeWordsRight 2 (some .boolean) (d + 5) 0 0 [.ref (Λ (0, 0, 0))] M Q QX := by
  have loop : ∀ (m : Nat) n, m = 7 - n → 1 ≤ n → n ≤ 7 → AW G (wX G yX8_areFreeWordsRight cX8_areFreeWordsRight 2 (some .boolean) 0 0 Q QX) (d + 5) 0 0 2 [some (.ref (Λ (0, 0, 0))), some (.int (nI n))] [] M := by
    intro m
    induction m using Nat.strongRecOn with
    | _ m ih =>
    intro n hm hn1 hn
    subst hm
    refine r_iload_n (q := 3) dX8_areFreeWordsRight_2 rfl rfl ?_
    refine r_bipush (v := nI 6) (q := 5) dX8_areFreeWordsRight_3 (by decide) rfl ?_
    refine r_icmp_gt (t := 41) (q := 8) dX8_areFreeWordsRight_5 rfl rfl (fun c5 => ?_) (fun c5 => ?_)
    · simp (disch := omega) only [nI_leI, nI_ltI, nI_eq, nI_lt0, nI_ge0, nI_gt0, nI_le0, nI_eq0] at c5
      refine r_iconst (v := nI 1) (q := 42) dX8_areFreeWordsRight_41 (by decide) rfl ?_
      refine r_zret dX8_areFreeWordsRight_42 (by first | rfl | exact narrow_bI _) ?_
      exact hQ
    · simp (disch := omega) only [nI_leI, nI_ltI, nI_eq, nI_lt0, nI_ge0, nI_gt0, nI_le0, nI_eq0] at c5
      refine r_aload_n (q := 9) dX8_areFreeWordsRight_8 rfl rfl ?_
      refine r_get (q := 12) (kk := 0) h.x rfl wi_RX8 (by decide) rfl fk_X8_12 rfl dX8_areFreeWordsRight_9 rfl ?_
      refine r_get (q := 15) (kk := 0) (h.st (by decide)) rfl wi_RX5 (by decide) rfl fk_X8_67 rfl dX8_areFreeWordsRight_12 rfl ?_
      refine r_iload_n (q := 16) dX8_areFreeWordsRight_15 rfl rfl ?_
      refine r_cS (q := 19) (As := [.ref _, .int _]) wc_X8_165 st_X3_freeByWords rfl (Nat.le_of_ble_eq_true rfl) (Nat.le_of_eq (Nat.zero_add _)) (Nat.le_of_eq (Nat.zero_add _)) dX8_areFreeWordsRight_16 rfl rfl (s_X3_freeByWords (h.rw (by decide)) hwd (by omega) ?_)
      refine r_aload_n (q := 20) dX8_areFreeWordsRight_19 rfl rfl ?_
      refine r_get (q := 23) (kk := 0) h.x rfl wi_RX8 (by decide) rfl fk_X8_12 rfl dX8_areFreeWordsRight_20 rfl ?_
      refine r_get (q := 26) (kk := 0) (h.st (by decide)) rfl wi_RX5 (by decide) rfl fk_X8_67 rfl dX8_areFreeWordsRight_23 rfl ?_
      refine r_iload_n (q := 27) dX8_areFreeWordsRight_26 rfl rfl ?_
      refine r_cS (q := 30) (As := [.ref _, .int _]) wc_X8_161 st_X3_freeByBars rfl (Nat.le_of_ble_eq_true rfl) (Nat.le_of_eq (Nat.zero_add _)) (Nat.le_of_eq (Nat.zero_add _)) dX8_areFreeWordsRight_27 rfl rfl (s_X3_freeByBars (h.rw (by decide)) hwd (by omega) ?_)
      have hf := hF n hn1 (by omega)
      rw [show nI (2 ^ n) - nI (gBars (gR σ 0 0) n 7) = nI (gFreeW (gR σ 0 0) n) by rw [n_sub (by omega)]; congr 1; omega]
      refine r_icmp_eq (t := 35) (q := 33) dX8_areFreeWordsRight_30 rfl rfl (fun c30 => ?_) (fun c30 => ?_)
      · refine r_inc1 (q := 38) dX8_areFreeWordsRight_35 rfl (Nat.le_of_ble_eq_true rfl) rfl rfl ?_
        show AW _ (_, _, _, _, _, _, _, _, _) _ _ _ _ [some _, some _] _ _
        refine r_goto (t := 2) dX8_areFreeWordsRight_38 rfl ?_
        exact ih (7 - (n + 1)) (by omega) (n + 1) rfl (by omega) (by omega)
      · exact absurd rfl c30
  refine MS.of (by decide) (by simp [Value.category]) (Nat.le_of_ble_eq_true rfl) ?_
  show AW _ (_, _, _, _, _, _, _, _, _) _ _ _ _ [some _, _] _ _
  refine r_iconst (v := nI 1) (q := 1) dX8_areFreeWordsRight_0 (by decide) rfl ?_
  refine r_istore_n (q := 2) dX8_areFreeWordsRight_1 (Nat.le_of_ble_eq_true rfl) rfl rfl ?_
  show AW _ (_, _, _, _, _, _, _, _, _) _ _ _ _ [some _, some _] _ _
  exact loop _ 1 rfl (by omega) (by omega)
theorem s_X8_isRight (h : RX G Λ ρ σ M) (hwd : ∀ x ∈ gR σ 0 0, x < 448) (hlen : (gLet (gR σ 0 11)).length ≤ 882) (hF : ∀ n, 1 ≤ n → n ≤ 6 → gFreeW (gR σ 0 0) n + gBars (gR σ 0 0) n 7 = 2 ^ n) (hE : gWaysS (gR σ 0 0) (gLet (gR σ 0 11)) false = gWaysS (gR σ 0 0) (gLet (gR σ 0 11)) true) (hU : gClear (gR σ 0 0) = true → gWaysS (gR σ 0 0) (gLet (gR σ 0 11)) false ≤ 1) (hDi : gDist (gR σ 0 0) = true) (hQ : ∀ S' M', RX G Λ ρ (sS σ 12 S') M' → Q (some (.int (nI 1))) M')  : MS G yX8_isRight cX8_isRight 2 (some .boolean) (d + 7) 0 0 [.ref (Λ (0, 0, 0))] M Q QX := by
  refine MS.of (by decide) (by simp [Value.category]) (Nat.le_of_ble_eq_true rfl) ?_
  show AW _ (_, _, _, _, _, _, _, _, _) _ _ _ _ [some _, _] _ _
  refine r_aload_n (q := 1) dX8_isRight_0 rfl rfl ?_
  refine r_get (q := 4) (kk := 6) h.x rfl wi_RX8 (by decide) rfl fk_X8_43 rfl dX8_isRight_1 rfl ?_
  refine r_aload_n (q := 5) dX8_isRight_4 rfl rfl ?_
  refine r_get (q := 8) (kk := 0) h.x rfl wi_RX8 (by decide) rfl fk_X8_12 rfl dX8_isRight_5 rfl ?_
  refine r_get (q := 11) (kk := 11) (h.st (by decide)) rfl wi_RX5 (by decide) rfl fk_X8_212 rfl dX8_isRight_8 rfl ?_
  refine r_cV (q := 14) (As := [.ref _]) wc_X8_224 rfl im_X6_load se_X6_load h.sp rfl rfl (Nat.le_of_ble_eq_true rfl) (Nat.le_of_eq (Nat.zero_add _)) (Nat.le_of_eq (Nat.zero_add _)) dX8_isRight_11 rfl rfl (s_X6_load (h.toS 12) hlen fun M_11 h_11 => ?_)
  refine r_aload_n (q := 15) dX8_isRight_14 rfl rfl ?_
  refine r_get (q := 18) (kk := 6) h_11.x rfl wi_RX8 (by decide) rfl fk_X8_43 rfl dX8_isRight_15 rfl ?_
  refine r_aload_n (q := 19) dX8_isRight_18 rfl rfl ?_
  refine r_get (q := 22) (kk := 0) h_11.x rfl wi_RX8 (by decide) rfl fk_X8_12 rfl dX8_isRight_19 rfl ?_
  refine r_get (q := 25) (kk := 0) (h_11.st (by decide)) rfl wi_RX5 (by decide) rfl fk_X8_67 rfl dX8_isRight_22 rfl ?_
  refine r_cV (q := 28) (As := [.ref _]) wc_X8_231 rfl im_X6_waysFromBeginning se_X6_waysFromBeginning h_11.sp rfl rfl (Nat.le_of_ble_eq_true rfl) (Nat.le_of_eq (Nat.zero_add _)) (Nat.le_of_eq (Nat.zero_add _)) dX8_isRight_25 rfl rfl (s_X6_waysFromBeginning h_11 hwd gLet_lt2 hlen fun M_25 h_25 => ?_)
  refine r_istore_n (q := 29) dX8_isRight_28 (Nat.le_of_ble_eq_true rfl) rfl rfl ?_
  show AW _ (_, _, _, _, _, _, _, _, _) _ _ _ _ [some _, some _] _ _
  refine r_iload_n (q := 30) dX8_isRight_29 rfl rfl ?_
  refine r_aload_n (q := 31) dX8_isRight_30 rfl rfl ?_
  refine r_get (q := 34) (kk := 6) h_25.x rfl wi_RX8 (by decide) rfl fk_X8_43 rfl dX8_isRight_31 rfl ?_
  refine r_aload_n (q := 35) dX8_isRight_34 rfl rfl ?_
  refine r_get (q := 38) (kk := 0) h_25.x rfl wi_RX8 (by decide) rfl fk_X8_12 rfl dX8_isRight_35 rfl ?_
  refine r_get (q := 41) (kk := 0) (h_25.st (by decide)) rfl wi_RX5 (by decide) rfl fk_X8_67 rfl dX8_isRight_38 rfl ?_
  refine r_cV (q := 44) (As := [.ref _]) wc_X8_228 rfl im_X6_waysFromEnd se_X6_waysFromEnd h_25.sp rfl rfl (Nat.le_of_ble_eq_true rfl) (Nat.le_of_eq (Nat.zero_add _)) (Nat.le_of_eq (Nat.zero_add _)) dX8_isRight_41 rfl rfl (s_X6_waysFromEnd h_25 hwd gLet_lt2 hlen fun M_41 h_41 => ?_)
  have hlt : (gES (gR σ 0 0) (gLet (gR σ 0 11)) (gLet (gR σ 0 11)).length).1.getD 0 0 < 10000 := getD_all (by decide) (gES_ok _).2.1 0
  have hE2 : (gBS (gR σ 0 0) (gLet (gR σ 0 11)) (gLet (gR σ 0 11)).length).1.getD (gLet (gR σ 0 11)).length 0 = (gES (gR σ 0 0) (gLet (gR σ 0 11)) (gLet (gR σ 0 11)).length).1.getD 0 0 := hE
  refine r_icmp_ne (t := 89) (q := 47) dX8_isRight_44 rfl rfl (fun c44 => ?_) (fun c44 => ?_)
  · exact absurd (congrArg nI hE2) c44
  · refine r_iload_n (q := 48) dX8_isRight_47 rfl rfl ?_
    refine r_iconst (v := nI 1) (q := 49) dX8_isRight_48 (by decide) rfl ?_
    refine r_icmp_le (t := 65) (q := 52) dX8_isRight_49 rfl rfl (fun c49 => ?_) (fun c49 => ?_)
    · refine r_aload_n (q := 66) dX8_isRight_65 rfl rfl ?_
      refine r_get (q := 69) (kk := 0) h_41.x rfl wi_RX8 (by decide) rfl fk_X8_12 rfl dX8_isRight_66 rfl ?_
      refine r_get (q := 72) (kk := 0) (h_41.st (by decide)) rfl wi_RX5 (by decide) rfl fk_X8_67 rfl dX8_isRight_69 rfl ?_
      refine r_cS (q := 75) (As := [.ref _]) wc_X8_260 st_X3_areDistinct rfl (Nat.le_of_ble_eq_true rfl) (Nat.le_of_eq (Nat.zero_add _)) (Nat.le_of_eq (Nat.zero_add _)) dX8_isRight_72 rfl rfl (s_X3_areDistinct (h_41.rw (by decide)) ?_)
      refine r_if_eq (t := 89) (q := 78) dX8_isRight_75 rfl rfl (fun c75 => ?_) (fun c75 => ?_)
      · have e9 : gDist (gR σ 0 0) = false := bI_eq0.mp c75
        rw [hDi] at e9
        cases e9
      · refine r_aload_n (q := 79) dX8_isRight_78 rfl rfl ?_
        refine r_cV (q := 82) (As := []) wc_X8_263 rfl im_X8_areFreeWordsRight se_X8_areFreeWordsRight h_41.x rfl rfl (Nat.le_of_ble_eq_true rfl) (Nat.le_of_eq (Nat.zero_add _)) (Nat.le_of_eq (Nat.zero_add _)) dX8_isRight_79 rfl rfl (s_X8_areFreeWordsRight h_41 hwd hF ?_)
        refine r_if_eq (t := 89) (q := 85) dX8_isRight_82 rfl rfl (fun c82 => ?_) (fun c82 => ?_)
        · exact absurd c82 (by decide)
        · refine r_iconst (v := nI 1) (q := 86) dX8_isRight_85 (by decide) rfl ?_
          refine r_goto (t := 90) dX8_isRight_86 rfl ?_
          refine r_zret dX8_isRight_90 (by first | rfl | exact narrow_bI _) ?_
          exact hQ _ _ h_41
    · refine r_aload_n (q := 53) dX8_isRight_52 rfl rfl ?_
      refine r_get (q := 56) (kk := 0) h_41.x rfl wi_RX8 (by decide) rfl fk_X8_12 rfl dX8_isRight_53 rfl ?_
      refine r_get (q := 59) (kk := 0) (h_41.st (by decide)) rfl wi_RX5 (by decide) rfl fk_X8_67 rfl dX8_isRight_56 rfl ?_
      refine r_cS (q := 62) (As := [.ref _]) wc_X8_152 st_X3_areClear rfl (Nat.le_of_ble_eq_true rfl) (Nat.le_of_eq (Nat.zero_add _)) (Nat.le_of_eq (Nat.zero_add _)) dX8_isRight_59 rfl rfl (s_X3_areClear (h_41.rw (by decide)) hwd ?_)
      refine r_if_ne (t := 89) (q := 65) dX8_isRight_62 rfl rfl (fun c62 => ?_) (fun c62 => ?_)
      · have e9 : gWaysS (gR σ 0 0) (gLet (gR σ 0 11)) false ≤ 1 := hU (bI_ne c62)
        exact absurd (nI_le (show (gBS (gR σ 0 0) (gLet (gR σ 0 11)) (gLet (gR σ 0 11)).length).1.getD (gLet (gR σ 0 11)).length 0 ≤ 1 from e9) (by decide)) c49
      · refine r_aload_n (q := 66) dX8_isRight_65 rfl rfl ?_
        refine r_get (q := 69) (kk := 0) h_41.x rfl wi_RX8 (by decide) rfl fk_X8_12 rfl dX8_isRight_66 rfl ?_
        refine r_get (q := 72) (kk := 0) (h_41.st (by decide)) rfl wi_RX5 (by decide) rfl fk_X8_67 rfl dX8_isRight_69 rfl ?_
        refine r_cS (q := 75) (As := [.ref _]) wc_X8_260 st_X3_areDistinct rfl (Nat.le_of_ble_eq_true rfl) (Nat.le_of_eq (Nat.zero_add _)) (Nat.le_of_eq (Nat.zero_add _)) dX8_isRight_72 rfl rfl (s_X3_areDistinct (h_41.rw (by decide)) ?_)
        refine r_if_eq (t := 89) (q := 78) dX8_isRight_75 rfl rfl (fun c75 => ?_) (fun c75 => ?_)
        · have e9 : gDist (gR σ 0 0) = false := bI_eq0.mp c75
          rw [hDi] at e9
          cases e9
        · refine r_aload_n (q := 79) dX8_isRight_78 rfl rfl ?_
          refine r_cV (q := 82) (As := []) wc_X8_263 rfl im_X8_areFreeWordsRight se_X8_areFreeWordsRight h_41.x rfl rfl (Nat.le_of_ble_eq_true rfl) (Nat.le_of_eq (Nat.zero_add _)) (Nat.le_of_eq (Nat.zero_add _)) dX8_isRight_79 rfl rfl (s_X8_areFreeWordsRight h_41 hwd hF ?_)
          refine r_if_eq (t := 89) (q := 85) dX8_isRight_82 rfl rfl (fun c82 => ?_) (fun c82 => ?_)
          · exact absurd c82 (by decide)
          · refine r_iconst (v := nI 1) (q := 86) dX8_isRight_85 (by decide) rfl ?_
            refine r_goto (t := 90) dX8_isRight_86 rfl ?_
            refine r_zret dX8_isRight_90 (by first | rfl | exact narrow_bI _) ?_
            exact hQ _ _ h_41
theorem n64_quot {x y : Int32} (hy : ¬ y = 0) : vf_n64 (FP.ddiv (FP.i2d x) (FP.i2d y)) := by
  have hx : FP.Core.dIsNaN (FP.Core.i2d x) = false := by
    cases e : FP.Core.dIsNaN (FP.Core.i2d x) with
    | false => rfl
    | true =>
      obtain ⟨s, c, q, h1⟩ := FP.Core.i2d_fin x
      rw [FP.Core.dIsNaN_iff, h1] at e
      cases e
  have h4 : FP.Core.dIsNaN (FP.Core.ddiv (FP.Core.i2d x) (FP.Core.i2d y)) = false := FP.Core.ddiv_out hx (FP.Core.i2d_fin y) fun z => FP.Core.i2d_ne_zero hy ((FP.Core.zero_bits2 _).mp z)
  show FP.Core.ddiv (FP.Core.i2d x) (FP.Core.i2d y) &&& 0x7fffffffffffffff ≤ 0x7ff0000000000000
  generalize FP.Core.ddiv (FP.Core.i2d x) (FP.Core.i2d y) = r at h4 ⊢
  refine UInt64.le_iff_toNat_le.mpr ?_
  rw [FP.Core.mask_toNat]
  refine Nat.le_of_not_lt fun h5 => ?_
  have h6 : FP.Core.val64 r = .nan := (FP.Core.decode_nan (f := FP.Core.b64) r.toNat).mpr (by rw [FP.Core.mag_toNat64, FP.Core.infBits_b64]; exact h5)
  rw [(FP.Core.dIsNaN_iff r).mpr h6] at h4
  cases h4
theorem n32_quot {x y : Int32} (hy : ¬ y = 0) : vf_n32 (FP.fdiv (FP.i2f x) (FP.i2f y)) := by
  have hx : FP.Core.fIsNaN (FP.Core.i2f x) = false := by
    cases e : FP.Core.fIsNaN (FP.Core.i2f x) with
    | false => rfl
    | true =>
      obtain ⟨s, c, q, h1⟩ := FP.Core.i2f_fin x
      rw [FP.Core.fIsNaN_iff, h1] at e
      cases e
  have h4 : FP.Core.fIsNaN (FP.Core.fdiv (FP.Core.i2f x) (FP.Core.i2f y)) = false := FP.Core.fdiv_out hx (FP.Core.i2f_fin y) fun z => FP.Core.i2f_ne_zero hy ((FP.Core.zero_bits232 _).mp z)
  show FP.Core.fdiv (FP.Core.i2f x) (FP.Core.i2f y) &&& 0x7fffffff ≤ 0x7f800000
  generalize FP.Core.fdiv (FP.Core.i2f x) (FP.Core.i2f y) = r at h4 ⊢
  refine UInt32.le_iff_toNat_le.mpr ?_
  have hm : (r &&& 0x7fffffff).toNat = r.toNat % 2 ^ 31 := by
    rw [UInt32.toNat_and]
    exact Nat.and_two_pow_sub_one_eq_mod r.toNat 31
  rw [hm]
  refine Nat.le_of_not_lt fun h5 => ?_
  have h6 : FP.Core.val32 r = .nan := (FP.Core.decode_nan (f := FP.Core.b32) r.toNat).mpr (by rw [FP.Core.mag_toNat32, FP.Core.infBits_b32]; exact h5)
  rw [(FP.Core.fIsNaN_iff r).mpr h6] at h4
  cases h4
theorem s_X8_meanLength (h : RX G Λ ρ σ M) (hQ : ¬ (gR σ 0 0).countP (0 < ·) = 0 → Q (some (.double (FP.ddiv (FP.i2d (nI (gLens (gR σ 0 0) 7))) (FP.i2d (nI ((gR σ 0 0).countP (0 < ·))))))) M) (hX : (gR σ 0 0).countP (0 < ·) = 0 → QX "java/lang/ArithmeticException" M)  : MS G yX8_meanLength cX8_meanLength 2 (some .double) (d + 12) 1 6 [.ref (Λ (0, 0, 0))] M Q QX := by
  have hcl : (gR σ 0 0).countP (0 < ·) ≤ 883 := Nat.le_trans List.countP_le_length (Nat.le_trans (h.rw (by decide : wR 0 0 = true)).2.1 (wLen_lt 0 0))
  refine MS.of (by decide) (by simp [Value.category]) (Nat.le_of_ble_eq_true rfl) ?_
  show AW _ (_, _, _, _, _, _, _, _, _) _ _ _ _ [some _, _] _ _
  refine r_aload_n (q := 1) dX8_meanLength_0 rfl rfl ?_
  refine r_get (q := 4) (kk := 0) h.x rfl wi_RX8 (by decide) rfl fk_X8_12 rfl dX8_meanLength_1 rfl ?_
  refine r_get (q := 7) (kk := 0) (h.st (by decide)) rfl wi_RX5 (by decide) rfl fk_X8_67 rfl dX8_meanLength_4 rfl ?_
  refine r_cS (q := 10) (As := [.ref _]) wc_X8_71 st_X3_number rfl (Nat.le_of_ble_eq_true rfl) (Nat.le_of_eq (Nat.zero_add _)) (Nat.le_of_eq (Nat.zero_add _)) dX8_meanLength_7 rfl rfl (s_X3_number (h.rw (by decide)) ?_)
  refine r_istore_n (q := 11) dX8_meanLength_10 (Nat.le_of_ble_eq_true rfl) rfl rfl ?_
  show AW _ (_, _, _, _, _, _, _, _, _) _ _ _ _ [some _, some _] _ _
  refine r_iload_n (q := 12) dX8_meanLength_11 rfl rfl ?_
  refine r_if_ne (t := 26) (q := 15) dX8_meanLength_12 rfl rfl (fun c12 => ?_) (fun c12 => ?_)
  · simp (disch := omega) only [nI_leI, nI_ltI, nI_eq, nI_lt0, nI_ge0, nI_gt0, nI_le0, nI_eq0] at c12
    refine r_aload_n (q := 27) dX8_meanLength_26 rfl rfl ?_
    refine r_get (q := 30) (kk := 0) h.x rfl wi_RX8 (by decide) rfl fk_X8_12 rfl dX8_meanLength_27 rfl ?_
    refine r_get (q := 33) (kk := 0) (h.st (by decide)) rfl wi_RX5 (by decide) rfl fk_X8_67 rfl dX8_meanLength_30 rfl ?_
    refine r_cS (q := 36) (As := [.ref _]) wc_X8_308 st_X3_sumOfLengths rfl (Nat.le_of_ble_eq_true rfl) (Nat.le_of_eq (Nat.zero_add _)) (Nat.le_of_eq (Nat.zero_add _)) dX8_meanLength_33 rfl rfl (s_X3_sumOfLengths (h.rw (by decide)) ?_)
    refine r_i2d (q := 37) dX8_meanLength_36 rfl ?_
    refine r_iload_n (q := 38) dX8_meanLength_37 rfl rfl ?_
    refine r_i2d (q := 39) dX8_meanLength_38 rfl ?_
    refine r_ddiv (q := 40) dX8_meanLength_39 (n64_quot (fun z => c12 ((nI_eq (b := 0) (by omega) (by decide)).mp z))) rfl ?_
    refine r_dret dX8_meanLength_40 ?_
    exact hQ c12
  · simp (disch := omega) only [nI_leI, nI_ltI, nI_eq, nI_lt0, nI_ge0, nI_gt0, nI_le0, nI_eq0] at c12
    exact r_throwW (names := nm_ArithmeticException) (j := 27) (by decide +kernel) (by decide +kernel) ck_X8_303 ini_ArithmeticException rfl at_X8_307 og_X8_307 (by decide) (by omega) (Nat.le_of_ble_eq_true rfl) (Nat.le_refl _) (Nat.le_refl _) dX8_meanLength_15 dX8_meanLength_18 dX8_meanLength_19 dX8_meanLength_22 dX8_meanLength_25 (hX c12)
theorem s_X8_lieShare (h : RX G Λ ρ σ M) (hw31 : gI σ 0 1 < 2 ^ 31) (hQ : ¬ gI σ 0 1 = 0 → Q (some (.float (FP.fdiv (FP.i2f (nI (gR σ 0 6).sum)) (FP.i2f (nI (gI σ 0 1)))))) M) (hX : gI σ 0 1 = 0 → QX "java/lang/ArithmeticException" M)  : MS G yX8_lieShare cX8_lieShare 1 (some .float) (d + 12) 1 6 [.ref (Λ (0, 0, 0))] M Q QX := by
  refine MS.of (by decide) (by simp [Value.category]) (Nat.le_of_ble_eq_true rfl) ?_
  show AW _ (_, _, _, _, _, _, _, _, _) _ _ _ _ [some _] _ _
  refine r_aload_n (q := 1) dX8_lieShare_0 rfl rfl ?_
  refine r_get (q := 4) (kk := 0) h.x rfl wi_RX8 (by decide) rfl fk_X8_12 rfl dX8_lieShare_1 rfl ?_
  refine r_get (q := 7) (kk := 14) (h.st (by decide)) rfl wi_RX5 (by decide) rfl fk_X8_311 rfl dX8_lieShare_4 rfl ?_
  refine r_if_ne (t := 21) (q := 10) dX8_lieShare_7 rfl rfl (fun c7 => ?_) (fun c7 => ?_)
  · simp (disch := omega) only [nI_leI, nI_ltI, nI_eq, nI_lt0, nI_ge0, nI_gt0, nI_le0, nI_eq0] at c7
    refine r_aload_n (q := 22) dX8_lieShare_21 rfl rfl ?_
    refine r_get (q := 25) (kk := 0) h.x rfl wi_RX8 (by decide) rfl fk_X8_12 rfl dX8_lieShare_22 rfl ?_
    refine r_get (q := 28) (kk := 6) (h.st (by decide)) rfl wi_RX5 (by decide) rfl fk_X8_316 rfl dX8_lieShare_25 rfl ?_
    refine r_cV (q := 31) (As := []) wc_X8_319 rfl im_X2_total se_X2_total (h.row (by decide)) rfl rfl (Nat.le_of_ble_eq_true rfl) (Nat.le_of_eq (Nat.zero_add _)) (Nat.le_of_eq (Nat.zero_add _)) dX8_lieShare_28 rfl rfl (s_X2_total (h.rw (by decide)) ?_)
    refine r_i2f (q := 32) dX8_lieShare_31 rfl ?_
    refine r_aload_n (q := 33) dX8_lieShare_32 rfl rfl ?_
    refine r_get (q := 36) (kk := 0) h.x rfl wi_RX8 (by decide) rfl fk_X8_12 rfl dX8_lieShare_33 rfl ?_
    refine r_get (q := 39) (kk := 14) (h.st (by decide)) rfl wi_RX5 (by decide) rfl fk_X8_311 rfl dX8_lieShare_36 rfl ?_
    refine r_i2f (q := 40) dX8_lieShare_39 rfl ?_
    refine r_fdiv (q := 41) dX8_lieShare_40 (n32_quot (fun z => c7 ((nI_eq (b := 0) (by omega) (by decide)).mp z))) rfl ?_
    refine r_fret dX8_lieShare_41 ?_
    exact hQ c7
  · simp (disch := omega) only [nI_leI, nI_ltI, nI_eq, nI_lt0, nI_ge0, nI_gt0, nI_le0, nI_eq0] at c7
    exact r_throwW (names := nm_ArithmeticException) (j := 28) (by decide +kernel) (by decide +kernel) ck_X8_303 ini_ArithmeticException rfl at_X8_307 og_X8_307 (by decide) (by omega) (Nat.le_of_ble_eq_true rfl) (Nat.le_refl _) (Nat.le_refl _) dX8_lieShare_10 dX8_lieShare_13 dX8_lieShare_14 dX8_lieShare_17 dX8_lieShare_20 (hX c7)
end W38
