/-! THE CLASS ITSELF: changes -/
section W36
variable {G : En} {Λ : Ob → Nat} {ρ : Me} {σ : Sg} {M : Me} {d : Nat} {Q : Option Value → Me → Prop} {QX : String → Me → Prop} {S : St}
def Hv (σ : Sg) : Prop := ∃ o z : Nat, o < 8 ∧ z ≤ 8 ∧ gM σ 5 = nI o ∧ gM σ 6 = nI z
theorem Hv.fR {r : Option (Int32 × Int32)} (h : Hv σ) : Hv (fR σ r) := by
  cases r with
  | none => exact h
  | some r => exact h
def pN (σ : Sg) (S : St) : Sg := hPush (sS σ 0 S) (gM σ 5).toNatClampNeg (gM σ 6).toNatClampNeg 0
theorem gS_hPush {o z a b : Nat} (hb : b < 3) : gS (hPush σ o z a) b = gS σ b := by
  unfold hPush
  split
  · rw [gS_sM, gS_ne (by omega)]; rfl
  · rw [gS_sM, gS_ne (by omega)]
theorem pN_s : sS (pN σ S) 0 S = pN σ S := by
  have h : gS (pN σ S) 0 = S := by rw [pN, gS_hPush (by decide), gS_sS]
  have e := sS_gS (σ := pN σ S) (a := 0)
  rw [h] at e
  exact e
def flE : Nat → Option String
  | 1 => some "java/lang/IndexOutOfBoundsException"
  | 2 => some "java/lang/IllegalArgumentException"
  | 3 => some "java/lang/UnsupportedOperationException"
  | _ => none
theorem isL_f {l : Int32} (h : ¬ isL l = false) : ∃ j : Nat, j < 7 ∧ l = nI j := isL_t (by cases e : isL l with | false => exact absurd e h | true => rfl)
theorem isP_f {l : Int32} (h : ¬ isP l = false) : ∃ j : Nat, j < 4 ∧ l = nI j := isP_t (by cases e : isP l with | false => exact absurd e h | true => rfl)
theorem isN_f {l : Int32} (h : ¬ isN l = false) : ∃ j : Nat, 1 ≤ j ∧ j ≤ 6 ∧ l = nI j := isN_t (by cases e : isN l with | false => exact absurd e h | true => rfl)
theorem lt_nI {p : Int32} {m : Nat} (hm : m < 2 ^ 31) (h1 : ¬ p < 0) (h2 : ¬ nI m < p) : ∃ i : Nat, i ≤ m ∧ p = nI i := by
  obtain ⟨i, hi, rfl⟩ := nI_nat h1
  rw [nI_ltI hm hi] at h2
  exact ⟨i, by omega, rfl⟩
theorem fUns_0 {l : Int32} (h : (fUns S l).1 = 0) : ∃ j : Nat, j < 7 ∧ l = nI j := by
  unfold fUns at h
  split at h
  · exact absurd h (by decide)
  · rename_i e; exact isL_f e
theorem fBl_0 {l t : Nat} (h : (fBl S l t).1 = 0) : cost S l t ≤ (S.1 2).getD l 0 := by
  unfold fBl at h
  split at h
  · exact absurd h (by simp [bad])
  · split at h
    · exact absurd h (by simp [bad])
    · split at h
      · exact absurd h (by simp [bad])
      · split at h
        · exact absurd h (by simp [bad])
        · omega
theorem fSign_0 {l n b : Int32} (h : (fSign S l n b).1 = 0) : ∃ j m i : Nat, j < 7 ∧ 1 ≤ m ∧ m ≤ 6 ∧ i < 64 ∧ i < 2 ^ m ∧ l = nI j ∧ n = nI m ∧ b = nI i := by
  unfold fSign at h
  split at h
  · exact absurd h (by decide)
  · rename_i e1
    split at h
    · exact absurd h (by decide)
    · rename_i e2
      split at h
      · exact absurd h (by decide)
      · rename_i e3
        split at h
        · exact absurd h (by decide)
        · rename_i e4
          obtain ⟨j, hj, rfl⟩ := isL_f e1
          obtain ⟨m, hm1, hm6, rfl⟩ := isN_f e2
          rw [nI_c7 (by omega)] at e4
          have hp6 : 2 ^ m ≤ 2 ^ 6 := Nat.pow_le_pow_right (by decide) hm6
          have hp0 : 0 < 2 ^ m := Nat.pow_pos (by decide)
          obtain ⟨i, hi, rfl⟩ := lt_nI (by omega) e3 e4
          exact ⟨j, m, i, hj, hm1, hm6, by omega, by omega, rfl, rfl, rfl⟩
theorem fPri_0 {l p : Int32} (h : (fPri S l p).1 = 0) : ∃ j i : Nat, j < 7 ∧ i < 10 ∧ l = nI j ∧ p = nI i := by
  unfold fPri at h
  split at h
  · exact absurd h (by decide)
  · rename_i e1
    split at h
    · exact absurd h (by decide)
    · rename_i e2
      split at h
      · exact absurd h (by decide)
      · rename_i e3
        obtain ⟨j, hj, rfl⟩ := isL_f e1
        obtain ⟨i, hi, rfl⟩ := lt_nI (by decide) e2 e3
        exact ⟨j, i, hj, by omega, rfl, rfl⟩
theorem fPla_0 {p dl m : Int32} (h : (fPla p dl m).1 = 0) : ∃ j i k : Nat, j < 4 ∧ i < 6 ∧ k < 128 ∧ p = nI j ∧ dl = nI i ∧ m = nI k := by
  unfold fPla at h
  split at h
  · exact absurd h (by decide)
  · rename_i e1
    split at h
    · exact absurd h (by decide)
    · rename_i e2
      split at h
      · exact absurd h (by decide)
      · rename_i e3
        split at h
        · exact absurd h (by decide)
        · rename_i e4
          split at h
          · exact absurd h (by decide)
          · rename_i e5
            obtain ⟨j, hj, rfl⟩ := isP_f e1
            obtain ⟨i, hi, rfl⟩ := lt_nI (by decide) e2 e3
            obtain ⟨k, hk, rfl⟩ := lt_nI (by decide) e4 e5
            exact ⟨j, i, k, hj, by omega, by omega, rfl, rfl, rfl⟩
theorem fWhi_0 {l : Int32} (h : (fWhi S l).1 = 0) : ∃ j : Nat, j < 7 ∧ l = nI j ∧ cost S j j ≤ (S.1 2).getD j 0 := by
  unfold fWhi at h
  split at h
  · exact absurd h (by decide)
  · rename_i e
    obtain ⟨j, hj, rfl⟩ := isL_f e
    rw [nI_c7 (by omega)] at h
    exact ⟨j, hj, rfl, fBl_0 h⟩
theorem fLi_0 {l t : Int32} (h : (fLi S l t).1 = 0) : ∃ j i : Nat, j < 7 ∧ i < 7 ∧ l = nI j ∧ t = nI i ∧ cost S j i ≤ (S.1 2).getD j 0 := by
  unfold fLi at h
  split at h
  · exact absurd h (by decide)
  · rename_i e
    split at h
    · exact absurd h (by decide)
    · rename_i e2
      split at h
      · exact absurd h (by decide)
      · obtain ⟨j, hj, rfl⟩ := isL_f e
        obtain ⟨i, hi, rfl⟩ := isL_f e2
        rw [nI_c7 (by omega), nI_c7 (by omega)] at h
        exact ⟨j, i, hj, hi, rfl, rfl, fBl_0 h⟩
theorem fXp_0 {l : Int32} (h : (fXp S l).1 = 0) : ∃ j i : Nat, j < 7 ∧ l = nI j ∧ gLie (S.1 11) j = some i := by
  unfold fXp at h
  split at h
  · exact absurd h (by decide)
  · rename_i e
    obtain ⟨j, hj, rfl⟩ := isL_f e
    rw [nI_c7 (by omega)] at h
    split at h
    · exact absurd h (by simp [bad])
    · rename_i e2
      cases e3 : gLie (S.1 11) j with
      | none => exact absurd e3 e2
      | some i => exact ⟨j, i, hj, rfl, e3⟩
theorem fMu_0 {l m : Int32} (h : (fMu S l m).1 = 0) : ∃ j i : Nat, j < 7 ∧ i < 10 ∧ l = nI j ∧ m = nI i := by
  unfold fMu at h
  split at h
  · exact absurd h (by decide)
  · rename_i e
    split at h
    · exact absurd h (by decide)
    · rename_i e2
      split at h
      · exact absurd h (by decide)
      · rename_i e3
        obtain ⟨j, hj, rfl⟩ := isL_f e
        obtain ⟨i, hi, rfl⟩ := lt_nI (by decide) (fun g => e2 (Int32.lt_of_lt_of_le g (by decide))) e3
        exact ⟨j, i, hj, by omega, rfl, rfl⟩
theorem fFi_0 {l : Int32} (h : (fFi S l).1 = 0) : ∃ j : Nat, j < 7 ∧ l = nI j ∧ 2 * (S.1 4).getD j 0 ≤ (S.1 3).getD j 0 := by
  unfold fFi at h
  split at h
  · exact absurd h (by decide)
  · rename_i e
    obtain ⟨j, hj, rfl⟩ := isL_f e
    rw [nI_c7 (by omega)] at h
    split at h
    · exact absurd h (by simp [bad])
    · split at h
      · exact absurd h (by simp [bad])
      · exact ⟨j, hj, rfl, by omega⟩
theorem fl_3 {S : St} : ∀ f : Fl, f = (1, none) ∨ f = (2, none) ∨ f = no ∨ (∃ a b, f = bad a b) → f.1 < 4 := by
  rintro f (rfl | rfl | rfl | ⟨a, b, rfl⟩) <;> simp [no, bad]
theorem s_X8_startChange (h : RX G Λ ρ (sS σ 0 S) M) (hv : Hv σ) {f : Nat} (hf : f < 4) (hQ : f = 0 → ∀ M', RX G Λ ρ (sS (pN σ S) 0 S) M' → Q none M') (hX : ∀ E, flE f = some E → QX E M)  : MS G yX8_startChange cX8_startChange 2 none (d + 12) 1 6 [.ref (Λ (0, 0, 0)), .int (nI f)] M Q QX := by
  obtain ⟨o, z, ho8, hz8, ho, hz⟩ := hv
  refine MS.of (by decide) (by simp [Value.category]) (Nat.le_of_ble_eq_true rfl) ?_
  show AW _ (_, _, _, _, _, _, _, _, _) _ _ _ _ [some _, some _] _ _
  refine r_iload_n (q := 1) dX8_startChange_0 rfl rfl ?_
  refine r_iconst (v := nI 1) (q := 2) dX8_startChange_1 (by decide) rfl ?_
  refine r_icmp_ne (t := 16) (q := 5) dX8_startChange_2 rfl rfl (fun c2 => ?_) (fun c2 => ?_)
  · simp (disch := omega) only [nI_leI, nI_ltI, nI_eq, nI_lt0, nI_ge0, nI_gt0, nI_le0, nI_eq0] at c2
    refine r_iload_n (q := 17) dX8_startChange_16 rfl rfl ?_
    refine r_iconst (v := nI 2) (q := 18) dX8_startChange_17 (by decide) rfl ?_
    refine r_icmp_ne (t := 32) (q := 21) dX8_startChange_18 rfl rfl (fun c18 => ?_) (fun c18 => ?_)
    · simp (disch := omega) only [nI_leI, nI_ltI, nI_eq, nI_lt0, nI_ge0, nI_gt0, nI_le0, nI_eq0] at c18
      refine r_iload_n (q := 33) dX8_startChange_32 rfl rfl ?_
      refine r_iconst (v := nI 3) (q := 34) dX8_startChange_33 (by decide) rfl ?_
      refine r_icmp_ne (t := 48) (q := 37) dX8_startChange_34 rfl rfl (fun c34 => ?_) (fun c34 => ?_)
      · simp (disch := omega) only [nI_leI, nI_ltI, nI_eq, nI_lt0, nI_ge0, nI_gt0, nI_le0, nI_eq0] at c34
        refine r_aload_n (q := 49) dX8_startChange_48 rfl rfl ?_
        refine r_get (q := 52) (kk := 4) h.x rfl wi_RX8 (by decide) rfl fk_X8_29 rfl dX8_startChange_49 rfl ?_
        refine r_aload_n (q := 53) dX8_startChange_52 rfl rfl ?_
        refine r_get (q := 56) (kk := 0) h.x rfl wi_RX8 (by decide) rfl fk_X8_12 rfl dX8_startChange_53 rfl ?_
        refine r_cV (q := 59) (As := [.ref _]) wc_X8_358 rfl im_X0_push se_X0_push h.hi rfl rfl (Nat.le_of_ble_eq_true rfl) (Nat.le_of_eq (Nat.zero_add _)) (Nat.le_of_eq (Nat.zero_add _)) dX8_startChange_56 rfl rfl (s_X0_push h (σ := sS σ 0 S) ho ho8 hz hz8 (by decide) fun M_56 h_56 => ?_)
        refine r_vret dX8_startChange_59 ?_
        refine hQ (by omega) _ ?_
        rw [pN_s, pN, ho, hz, nI_c7 (by omega), nI_c7 (by omega)]
        exact h_56
      · simp (disch := omega) only [nI_leI, nI_ltI, nI_eq, nI_lt0, nI_ge0, nI_gt0, nI_le0, nI_eq0] at c34
        exact r_throwW (names := nm_UnsupportedOperationException) (j := 12) (by decide +kernel) (by decide +kernel) ck_X8_350 ini_UnsupportedOperationException rfl at_X8_354 og_X8_354 (by decide) (by omega) (Nat.le_of_ble_eq_true rfl) (Nat.le_refl _) (Nat.le_refl _) dX8_startChange_37 dX8_startChange_40 dX8_startChange_41 dX8_startChange_44 dX8_startChange_47 (hX _ (by rw [c34]; rfl))
    · simp (disch := omega) only [nI_leI, nI_ltI, nI_eq, nI_lt0, nI_ge0, nI_gt0, nI_le0, nI_eq0] at c18
      exact r_throwW (names := nm_IllegalArgumentException) (j := 11) (by decide +kernel) (by decide +kernel) ck_X8_130 ini_IllegalArgumentException rfl at_X8_134 og_X8_134 (by decide) (by omega) (Nat.le_of_ble_eq_true rfl) (Nat.le_refl _) (Nat.le_refl _) dX8_startChange_21 dX8_startChange_24 dX8_startChange_25 dX8_startChange_28 dX8_startChange_31 (hX _ (by rw [c18]; rfl))
  · simp (disch := omega) only [nI_leI, nI_ltI, nI_eq, nI_lt0, nI_ge0, nI_gt0, nI_le0, nI_eq0] at c2
    exact r_throwW (names := nm_IndexOutOfBoundsException) (j := 10) (by decide +kernel) (by decide +kernel) ck_X8_123 ini_IndexOutOfBoundsException rfl at_X8_127 og_X8_127 (by decide) (by omega) (Nat.le_of_ble_eq_true rfl) (Nat.le_refl _) (Nat.le_refl _) dX8_startChange_5 dX8_startChange_8 dX8_startChange_9 dX8_startChange_12 dX8_startChange_15 (hX _ (by rw [c2]; rfl))
theorem fNS_4 {l : Nat} : (fNS S l).1 < 4 := by unfold fNS; split <;> simp [no, bad]
theorem fMt_4 {l : Nat} : (fMt S l).1 < 4 := by unfold fMt; split <;> simp [no, bad]
theorem fBl_4 {l t : Nat} : (fBl S l t).1 < 4 := by
  unfold fBl
  repeat' split
  all_goals simp [no, bad]
theorem fSign_4 {l n b : Int32} : (fSign S l n b).1 < 4 := by
  unfold fSign
  repeat' split
  all_goals simp [no, bad]
theorem fUns_4 {l : Int32} : (fUns S l).1 < 4 := by
  unfold fUns
  split
  · decide
  · exact fNS_4
theorem fPri_4 {l p : Int32} : (fPri S l p).1 < 4 := by
  unfold fPri
  repeat' split
  all_goals simp [no, bad]
theorem fPla_4 {p dl m : Int32} : (fPla p dl m).1 < 4 := by
  unfold fPla
  repeat' split
  all_goals simp [no]
theorem fWhi_4 {l : Int32} : (fWhi S l).1 < 4 := by
  unfold fWhi
  split
  · decide
  · exact fBl_4
theorem fLi_4 {l t : Int32} : (fLi S l t).1 < 4 := by
  unfold fLi
  split
  · decide
  · split
    · decide
    · split
      · decide
      · exact fBl_4
theorem fXp_4 {l : Int32} : (fXp S l).1 < 4 := by
  unfold fXp
  repeat' split
  all_goals simp [no, bad]
theorem fMu_4 {l m : Int32} : (fMu S l m).1 < 4 := by
  unfold fMu
  split
  · decide
  · split
    · decide
    · split
      · decide
      · exact fMt_4
theorem fFi_4 {l : Int32} : (fFi S l).1 < 4 := by
  unfold fFi
  repeat' split
  all_goals simp [no, bad]
theorem s_X8_sign (h : RX G Λ ρ (sS σ 0 S) M) (hv : Hv σ) {l n b : Int32} (hQ : (fSign S l n b).1 = 0 → ∀ M', RX G Λ ρ (sS (pN (fR σ (fSign S l n b).2) S) 0 (uR S 0 ((S.1 0).set l.toNatClampNeg (n.toNatClampNeg * 64 + b.toNatClampNeg)))) M' → Q (some (.int (nI (stm (n.toNatClampNeg * 64 + b.toNatClampNeg))))) M') (hX : ∀ E, flE (fSign S l n b).1 = some E → ∀ M', RX G Λ ρ (sS (fR σ (fSign S l n b).2) 0 S) M' → QX E M')  : MS G yX8_sign cX8_sign 4 (some .int) (d + 13) 1 6 [.ref (Λ (0, 0, 0)), .int l, .int n, .int b] M Q QX := by
  refine MS.of (by decide) (by simp [Value.category]) (Nat.le_of_ble_eq_true rfl) ?_
  show AW _ (_, _, _, _, _, _, _, _, _) _ _ _ _ [some _, some _, some _, some _] _ _
  refine r_aload_n (q := 1) dX8_sign_0 rfl rfl ?_
  refine r_aload_n (q := 2) dX8_sign_1 rfl rfl ?_
  refine r_iload_n (q := 3) dX8_sign_2 rfl rfl ?_
  refine r_iload_n (q := 4) dX8_sign_3 rfl rfl ?_
  refine r_iload_n (q := 5) dX8_sign_4 rfl rfl ?_
  refine r_cV (q := 8) (As := [.int _, .int _, .int _]) wc_X8_83 rfl im_X8_faultOfSign se_X8_faultOfSign h.x rfl rfl (Nat.le_of_ble_eq_true rfl) (Nat.le_of_eq (Nat.zero_add _)) (Nat.le_of_eq (Nat.zero_add _)) dX8_sign_5 rfl rfl (s_X8_faultOfSign h fun M_5 h_5 => ?_)
  refine r_invVX (q := 11) (As := [.int _]) wc_X8_87 rfl im_X8_startChange se_X8_startChange h_5.x rfl rfl (Nat.le_of_ble_eq_true rfl) (Nat.le_of_eq (Nat.add_zero _)) (Nat.le_of_eq (Nat.add_zero _)) dX8_sign_8 rfl rfl (s_X8_startChange (σ := (fR σ (fSign S l n b).2)) h_5 hv.fR (fSign_4) (fun hz => fun M_8 h_8 => ?_) (fun E hE => hX E hE _ h_5))
  obtain ⟨j, m, i, hj, hm1, hm6, hi, -, rfl, rfl, rfl⟩ := fSign_0 hz
  replace hQ := hQ hz
  simp only [nI_c7 (show j < 2 ^ 31 by omega), nI_c7 (show m < 2 ^ 31 by omega), nI_c7 (show i < 2 ^ 31 by omega)] at hQ
  refine r_aload_n (q := 12) dX8_sign_11 rfl rfl ?_
  refine r_get (q := 15) (kk := 0) h_8.x rfl wi_RX8 (by decide) rfl fk_X8_12 rfl dX8_sign_12 rfl ?_
  refine r_iload_n (q := 16) dX8_sign_15 rfl rfl ?_
  refine r_iload_n (q := 17) dX8_sign_16 rfl rfl ?_
  refine r_iload_n (q := 18) dX8_sign_17 rfl rfl ?_
  refine r_cS (q := 21) (As := [.int _, .int _]) wc_X8_91 st_X7_of rfl (Nat.le_of_ble_eq_true rfl) (Nat.le_of_eq (Nat.zero_add _)) (Nat.le_of_eq (Nat.zero_add _)) dX8_sign_18 rfl rfl (s_X7_of (by omega) hi ?_)
  refine r_cV (q := 24) (As := [.int _, .int _]) wc_X8_97 rfl im_X5_giveSign se_X5_giveSign (h_8.st (by decide)) rfl rfl (Nat.le_of_ble_eq_true rfl) (Nat.le_of_eq (Nat.zero_add _)) (Nat.le_of_eq (Nat.zero_add _)) dX8_sign_21 rfl rfl (s_X5_giveSign h_8 (by decide) hj (show m * 64 + i < 448 by omega) fun M_21 h_21 => ?_)
  refine r_iret dX8_sign_24 ?_
  exact hQ _ h_21
theorem s_X8_unsign (h : RX G Λ ρ (sS σ 0 S) M) (hv : Hv σ) {l : Int32} (hQ : (fUns S l).1 = 0 → ∀ M', RX G Λ ρ (sS (pN (fR σ (fUns S l).2) S) 0 (uR S 0 ((S.1 0).set l.toNatClampNeg 0))) M' → Q (some (.int (nI (((S.1 0).set l.toNatClampNeg 0).countP (0 < ·))))) M') (hX : ∀ E, flE (fUns S l).1 = some E → ∀ M', RX G Λ ρ (sS (fR σ (fUns S l).2) 0 S) M' → QX E M')  : MS G yX8_unsign cX8_unsign 2 (some .int) (d + 13) 1 6 [.ref (Λ (0, 0, 0)), .int l] M Q QX := by
  refine MS.of (by decide) (by simp [Value.category]) (Nat.le_of_ble_eq_true rfl) ?_
  show AW _ (_, _, _, _, _, _, _, _, _) _ _ _ _ [some _, some _] _ _
  refine r_aload_n (q := 1) dX8_unsign_0 rfl rfl ?_
  refine r_aload_n (q := 2) dX8_unsign_1 rfl rfl ?_
  refine r_iload_n (q := 3) dX8_unsign_2 rfl rfl ?_
  refine r_cV (q := 6) (As := [.int _]) wc_X8_100 rfl im_X8_faultOfUnsign se_X8_faultOfUnsign h.x rfl rfl (Nat.le_of_ble_eq_true rfl) (Nat.le_of_eq (Nat.zero_add _)) (Nat.le_of_eq (Nat.zero_add _)) dX8_unsign_3 rfl rfl (s_X8_faultOfUnsign h fun M_3 h_3 => ?_)
  refine r_invVX (q := 9) (As := [.int _]) wc_X8_87 rfl im_X8_startChange se_X8_startChange h_3.x rfl rfl (Nat.le_of_ble_eq_true rfl) (Nat.le_of_eq (Nat.add_zero _)) (Nat.le_of_eq (Nat.add_zero _)) dX8_unsign_6 rfl rfl (s_X8_startChange (σ := (fR σ (fUns S l).2)) h_3 hv.fR (fUns_4) (fun hz => fun M_6 h_6 => ?_) (fun E hE => hX E hE _ h_3))
  obtain ⟨j, hj, rfl⟩ := fUns_0 hz
  replace hQ := hQ hz
  simp only [nI_c7 (show j < 2 ^ 31 by omega)] at hQ
  refine r_aload_n (q := 10) dX8_unsign_9 rfl rfl ?_
  refine r_get (q := 13) (kk := 0) h_6.x rfl wi_RX8 (by decide) rfl fk_X8_12 rfl dX8_unsign_10 rfl ?_
  refine r_iload_n (q := 14) dX8_unsign_13 rfl rfl ?_
  refine r_cV (q := 17) (As := [.int _]) wc_X8_104 rfl im_X5_takeSign se_X5_takeSign (h_6.st (by decide)) rfl rfl (Nat.le_of_ble_eq_true rfl) (Nat.le_of_eq (Nat.zero_add _)) (Nat.le_of_eq (Nat.zero_add _)) dX8_unsign_14 rfl rfl (s_X5_takeSign h_6 (by decide) hj fun M_14 h_14 => ?_)
  refine r_iret dX8_unsign_17 ?_
  exact hQ _ h_14
theorem s_X8_priority (h : RX G Λ ρ (sS σ 0 S) M) (hv : Hv σ) {l p : Int32} (hQ : (fPri S l p).1 = 0 → ∀ M', RX G Λ ρ (sS (pN (fR σ (fPri S l p).2) S) 0 (uR S 1 ((S.1 1).set l.toNatClampNeg p.toNatClampNeg))) M' → Q (some (.int (nI ((S.1 1).getD l.toNatClampNeg 0)))) M') (hX : ∀ E, flE (fPri S l p).1 = some E → ∀ M', RX G Λ ρ (sS (fR σ (fPri S l p).2) 0 S) M' → QX E M')  : MS G yX8_priority cX8_priority 3 (some .int) (d + 13) 1 6 [.ref (Λ (0, 0, 0)), .int l, .int p] M Q QX := by
  refine MS.of (by decide) (by simp [Value.category]) (Nat.le_of_ble_eq_true rfl) ?_
  show AW _ (_, _, _, _, _, _, _, _, _) _ _ _ _ [some _, some _, some _] _ _
  refine r_aload_n (q := 1) dX8_priority_0 rfl rfl ?_
  refine r_aload_n (q := 2) dX8_priority_1 rfl rfl ?_
  refine r_iload_n (q := 3) dX8_priority_2 rfl rfl ?_
  refine r_iload_n (q := 4) dX8_priority_3 rfl rfl ?_
  refine r_cV (q := 7) (As := [.int _, .int _]) wc_X8_107 rfl im_X8_faultOfPriority se_X8_faultOfPriority h.x rfl rfl (Nat.le_of_ble_eq_true rfl) (Nat.le_of_eq (Nat.zero_add _)) (Nat.le_of_eq (Nat.zero_add _)) dX8_priority_4 rfl rfl (s_X8_faultOfPriority h fun M_4 h_4 => ?_)
  refine r_invVX (q := 10) (As := [.int _]) wc_X8_87 rfl im_X8_startChange se_X8_startChange h_4.x rfl rfl (Nat.le_of_ble_eq_true rfl) (Nat.le_of_eq (Nat.add_zero _)) (Nat.le_of_eq (Nat.add_zero _)) dX8_priority_7 rfl rfl (s_X8_startChange (σ := (fR σ (fPri S l p).2)) h_4 hv.fR (fPri_4) (fun hz => fun M_7 h_7 => ?_) (fun E hE => hX E hE _ h_4))
  obtain ⟨j, i, hj, hi, rfl, rfl⟩ := fPri_0 hz
  replace hQ := hQ hz
  simp only [nI_c7 (show j < 2 ^ 31 by omega), nI_c7 (show i < 2 ^ 31 by omega)] at hQ
  refine r_aload_n (q := 11) dX8_priority_10 rfl rfl ?_
  refine r_get (q := 14) (kk := 0) h_7.x rfl wi_RX8 (by decide) rfl fk_X8_12 rfl dX8_priority_11 rfl ?_
  refine r_iload_n (q := 15) dX8_priority_14 rfl rfl ?_
  refine r_iload_n (q := 16) dX8_priority_15 rfl rfl ?_
  refine r_cV (q := 19) (As := [.int _, .int _]) wc_X8_110 rfl im_X5_givePriority se_X5_givePriority (h_7.st (by decide)) rfl rfl (Nat.le_of_ble_eq_true rfl) (Nat.le_of_eq (Nat.zero_add _)) (Nat.le_of_eq (Nat.zero_add _)) dX8_priority_16 rfl rfl (s_X5_givePriority h_7 (by decide) hj hi fun M_16 h_16 => ?_)
  refine r_iret dX8_priority_19 ?_
  exact hQ _ h_16
theorem s_X8_platform (h : RX G Λ ρ (sS σ 0 S) M) (hv : Hv σ) {p dl m : Int32} (hQ : (fPla p dl m).1 = 0 → ∀ M', RX G Λ ρ (sS (pN σ S) 0 (uR (uR S 8 ((S.1 8).set p.toNatClampNeg dl.toNatClampNeg)) 9 ((S.1 9).set p.toNatClampNeg m.toNatClampNeg))) M' → Q (some (.int (nI (((S.1 8).set p.toNatClampNeg dl.toNatClampNeg).countP (0 < ·))))) M') (hX : ∀ E, flE (fPla p dl m).1 = some E → ∀ M', RX G Λ ρ (sS σ 0 S) M' → QX E M')  : MS G yX8_platform cX8_platform 4 (some .int) (d + 13) 1 6 [.ref (Λ (0, 0, 0)), .int p, .int dl, .int m] M Q QX := by
  refine MS.of (by decide) (by simp [Value.category]) (Nat.le_of_ble_eq_true rfl) ?_
  show AW _ (_, _, _, _, _, _, _, _, _) _ _ _ _ [some _, some _, some _, some _] _ _
  refine r_aload_n (q := 1) dX8_platform_0 rfl rfl ?_
  refine r_aload_n (q := 2) dX8_platform_1 rfl rfl ?_
  refine r_iload_n (q := 3) dX8_platform_2 rfl rfl ?_
  refine r_iload_n (q := 4) dX8_platform_3 rfl rfl ?_
  refine r_iload_n (q := 5) dX8_platform_4 rfl rfl ?_
  refine r_cV (q := 8) (As := [.int _, .int _, .int _]) wc_X8_113 rfl im_X8_faultOfPlatform se_X8_faultOfPlatform h.x rfl rfl (Nat.le_of_ble_eq_true rfl) (Nat.le_of_eq (Nat.zero_add _)) (Nat.le_of_eq (Nat.zero_add _)) dX8_platform_5 rfl rfl (s_X8_faultOfPlatform h ?_)
  refine r_invVX (q := 11) (As := [.int _]) wc_X8_87 rfl im_X8_startChange se_X8_startChange h.x rfl rfl (Nat.le_of_ble_eq_true rfl) (Nat.le_of_eq (Nat.add_zero _)) (Nat.le_of_eq (Nat.add_zero _)) dX8_platform_8 rfl rfl (s_X8_startChange (σ := σ) h hv (fPla_4) (fun hz => fun M_8 h_8 => ?_) (fun E hE => hX E hE _ h))
  obtain ⟨j, i, k, hj, hi, hk, rfl, rfl, rfl⟩ := fPla_0 hz
  replace hQ := hQ hz
  simp only [nI_c7 (show j < 2 ^ 31 by omega), nI_c7 (show i < 2 ^ 31 by omega), nI_c7 (show k < 2 ^ 31 by omega)] at hQ
  refine r_aload_n (q := 12) dX8_platform_11 rfl rfl ?_
  refine r_get (q := 15) (kk := 0) h_8.x rfl wi_RX8 (by decide) rfl fk_X8_12 rfl dX8_platform_12 rfl ?_
  refine r_iload_n (q := 16) dX8_platform_15 rfl rfl ?_
  refine r_iload_n (q := 17) dX8_platform_16 rfl rfl ?_
  refine r_iload_n (q := 18) dX8_platform_17 rfl rfl ?_
  refine r_cV (q := 21) (As := [.int _, .int _, .int _]) wc_X8_116 rfl im_X5_tellPlatform se_X5_tellPlatform (h_8.st (by decide)) rfl rfl (Nat.le_of_ble_eq_true rfl) (Nat.le_of_eq (Nat.zero_add _)) (Nat.le_of_eq (Nat.zero_add _)) dX8_platform_18 rfl rfl (s_X5_tellPlatform h_8 (by decide) hj hi hk fun M_18 h_18 => ?_)
  refine r_iret dX8_platform_21 ?_
  exact hQ _ h_18
theorem s_X8_whistle (h : RX G Λ ρ (sS σ 0 S) M) (hv : Hv σ) (hs : Sm S) (hw : ∀ x ∈ S.1 0, x < 448) (hd : ∀ x ∈ S.1 8, x < 8) {l : Int32} (hQ : (fWhi S l).1 = 0 → ∀ M', RX G Λ ρ (sS (pN (fR σ (fWhi S l).2) S) 0 (fBlow S l.toNatClampNeg l.toNatClampNeg)) M' → Q (some (.int (nI (((S.1 2).set l.toNatClampNeg ((S.1 2).getD l.toNatClampNeg 0 - cost S l.toNatClampNeg l.toNatClampNeg)).getD l.toNatClampNeg 0)))) M') (hX : ∀ E, flE (fWhi S l).1 = some E → ∀ M', RX G Λ ρ (sS (fR σ (fWhi S l).2) 0 S) M' → QX E M')  : MS G yX8_whistle cX8_whistle 2 (some .int) (d + 13) 1 6 [.ref (Λ (0, 0, 0)), .int l] M Q QX := by
  refine MS.of (by decide) (by simp [Value.category]) (Nat.le_of_ble_eq_true rfl) ?_
  show AW _ (_, _, _, _, _, _, _, _, _) _ _ _ _ [some _, some _] _ _
  refine r_aload_n (q := 1) dX8_whistle_0 rfl rfl ?_
  refine r_aload_n (q := 2) dX8_whistle_1 rfl rfl ?_
  refine r_iload_n (q := 3) dX8_whistle_2 rfl rfl ?_
  refine r_cV (q := 6) (As := [.int _]) wc_X8_168 rfl im_X8_faultOfWhistle se_X8_faultOfWhistle h.x rfl rfl (Nat.le_of_ble_eq_true rfl) (Nat.le_of_eq (Nat.zero_add _)) (Nat.le_of_eq (Nat.zero_add _)) dX8_whistle_3 rfl rfl (s_X8_faultOfWhistle h hs hw fun M_3 h_3 => ?_)
  refine r_invVX (q := 9) (As := [.int _]) wc_X8_87 rfl im_X8_startChange se_X8_startChange h_3.x rfl rfl (Nat.le_of_ble_eq_true rfl) (Nat.le_of_eq (Nat.add_zero _)) (Nat.le_of_eq (Nat.add_zero _)) dX8_whistle_6 rfl rfl (s_X8_startChange (σ := (fR σ (fWhi S l).2)) h_3 hv.fR (fWhi_4) (fun hz => fun M_6 h_6 => ?_) (fun E hE => hX E hE _ h_3))
  obtain ⟨j, hj, rfl, hco⟩ := fWhi_0 hz
  replace hQ := hQ hz
  simp only [nI_c7 (show j < 2 ^ 31 by omega)] at hQ
  refine r_aload_n (q := 10) dX8_whistle_9 rfl rfl ?_
  refine r_get (q := 13) (kk := 0) h_6.x rfl wi_RX8 (by decide) rfl fk_X8_12 rfl dX8_whistle_10 rfl ?_
  refine r_iload_n (q := 14) dX8_whistle_13 rfl rfl ?_
  refine r_iload_n (q := 15) dX8_whistle_14 rfl rfl ?_
  refine r_cV (q := 18) (As := [.int _, .int _]) wc_X8_171 rfl im_X5_blow se_X5_blow (h_6.st (by decide)) rfl rfl (Nat.le_of_ble_eq_true rfl) (Nat.le_of_eq (Nat.zero_add _)) (Nat.le_of_eq (Nat.zero_add _)) dX8_whistle_15 rfl rfl (s_X5_blow h_6 (by decide) hs hd hw hj hj hco fun M_15 h_15 => ?_)
  refine r_iret dX8_whistle_18 ?_
  exact hQ _ h_15
theorem s_X8_lie (h : RX G Λ ρ (sS σ 0 S) M) (hv : Hv σ) (hs : Sm S) (hw : ∀ x ∈ S.1 0, x < 448) (hd : ∀ x ∈ S.1 8, x < 8) {l t : Int32} (hQ : (fLi S l t).1 = 0 → ∀ M', RX G Λ ρ (sS (pN (fR σ (fLi S l t).2) S) 0 (fBlow S l.toNatClampNeg t.toNatClampNeg)) M' → Q (some (.int (nI (((S.1 2).set l.toNatClampNeg ((S.1 2).getD l.toNatClampNeg 0 - cost S l.toNatClampNeg t.toNatClampNeg)).getD l.toNatClampNeg 0)))) M') (hX : ∀ E, flE (fLi S l t).1 = some E → ∀ M', RX G Λ ρ (sS (fR σ (fLi S l t).2) 0 S) M' → QX E M')  : MS G yX8_lie cX8_lie 3 (some .int) (d + 13) 1 6 [.ref (Λ (0, 0, 0)), .int l, .int t] M Q QX := by
  refine MS.of (by decide) (by simp [Value.category]) (Nat.le_of_ble_eq_true rfl) ?_
  show AW _ (_, _, _, _, _, _, _, _, _) _ _ _ _ [some _, some _, some _] _ _
  refine r_aload_n (q := 1) dX8_lie_0 rfl rfl ?_
  refine r_aload_n (q := 2) dX8_lie_1 rfl rfl ?_
  refine r_iload_n (q := 3) dX8_lie_2 rfl rfl ?_
  refine r_iload_n (q := 4) dX8_lie_3 rfl rfl ?_
  refine r_cV (q := 7) (As := [.int _, .int _]) wc_X8_174 rfl im_X8_faultOfLie se_X8_faultOfLie h.x rfl rfl (Nat.le_of_ble_eq_true rfl) (Nat.le_of_eq (Nat.zero_add _)) (Nat.le_of_eq (Nat.zero_add _)) dX8_lie_4 rfl rfl (s_X8_faultOfLie h hs hw fun M_4 h_4 => ?_)
  refine r_invVX (q := 10) (As := [.int _]) wc_X8_87 rfl im_X8_startChange se_X8_startChange h_4.x rfl rfl (Nat.le_of_ble_eq_true rfl) (Nat.le_of_eq (Nat.add_zero _)) (Nat.le_of_eq (Nat.add_zero _)) dX8_lie_7 rfl rfl (s_X8_startChange (σ := (fR σ (fLi S l t).2)) h_4 hv.fR (fLi_4) (fun hz => fun M_7 h_7 => ?_) (fun E hE => hX E hE _ h_4))
  obtain ⟨j, i, hj, hi, rfl, rfl, hco⟩ := fLi_0 hz
  replace hQ := hQ hz
  simp only [nI_c7 (show j < 2 ^ 31 by omega), nI_c7 (show i < 2 ^ 31 by omega)] at hQ
  refine r_aload_n (q := 11) dX8_lie_10 rfl rfl ?_
  refine r_get (q := 14) (kk := 0) h_7.x rfl wi_RX8 (by decide) rfl fk_X8_12 rfl dX8_lie_11 rfl ?_
  refine r_iload_n (q := 15) dX8_lie_14 rfl rfl ?_
  refine r_iload_n (q := 16) dX8_lie_15 rfl rfl ?_
  refine r_cV (q := 19) (As := [.int _, .int _]) wc_X8_171 rfl im_X5_blow se_X5_blow (h_7.st (by decide)) rfl rfl (Nat.le_of_ble_eq_true rfl) (Nat.le_of_eq (Nat.zero_add _)) (Nat.le_of_eq (Nat.zero_add _)) dX8_lie_16 rfl rfl (s_X5_blow h_7 (by decide) hs hd hw hj hi hco fun M_16 h_16 => ?_)
  refine r_iret dX8_lie_19 ?_
  exact hQ _ h_16
theorem s_X8_expose (h : RX G Λ ρ (sS σ 0 S) M) (hv : Hv σ) (hs : Sm S) {l : Int32} (hQ : (fXp S l).1 = 0 → ∀ M', RX G Λ ρ (sS (pN (fR σ (fXp S l).2) S) 0 (fExp S l.toNatClampNeg ((gLie (S.1 11) l.toNatClampNeg).getD 0))) M' → Q (some (.int (nI (((S.1 4).set l.toNatClampNeg ((S.1 4).getD l.toNatClampNeg 0 + 3)).getD l.toNatClampNeg 0)))) M') (hX : ∀ E, flE (fXp S l).1 = some E → ∀ M', RX G Λ ρ (sS (fR σ (fXp S l).2) 0 S) M' → QX E M')  : MS G yX8_expose cX8_expose 2 (some .int) (d + 13) 1 6 [.ref (Λ (0, 0, 0)), .int l] M Q QX := by
  refine MS.of (by decide) (by simp [Value.category]) (Nat.le_of_ble_eq_true rfl) ?_
  show AW _ (_, _, _, _, _, _, _, _, _) _ _ _ _ [some _, some _] _ _
  refine r_aload_n (q := 1) dX8_expose_0 rfl rfl ?_
  refine r_aload_n (q := 2) dX8_expose_1 rfl rfl ?_
  refine r_iload_n (q := 3) dX8_expose_2 rfl rfl ?_
  refine r_cV (q := 6) (As := [.int _]) wc_X8_177 rfl im_X8_faultOfExpose se_X8_faultOfExpose h.x rfl rfl (Nat.le_of_ble_eq_true rfl) (Nat.le_of_eq (Nat.zero_add _)) (Nat.le_of_eq (Nat.zero_add _)) dX8_expose_3 rfl rfl (s_X8_faultOfExpose h fun M_3 h_3 => ?_)
  refine r_invVX (q := 9) (As := [.int _]) wc_X8_87 rfl im_X8_startChange se_X8_startChange h_3.x rfl rfl (Nat.le_of_ble_eq_true rfl) (Nat.le_of_eq (Nat.add_zero _)) (Nat.le_of_eq (Nat.add_zero _)) dX8_expose_6 rfl rfl (s_X8_startChange (σ := (fR σ (fXp S l).2)) h_3 hv.fR (fXp_4) (fun hz => fun M_6 h_6 => ?_) (fun E hE => hX E hE _ h_3))
  obtain ⟨j, i, hj, rfl, hgl⟩ := fXp_0 hz
  replace hQ := hQ hz
  simp only [nI_c7 (show j < 2 ^ 31 by omega), hgl, Option.getD_some] at hQ
  refine r_aload_n (q := 10) dX8_expose_9 rfl rfl ?_
  refine r_get (q := 13) (kk := 0) h_6.x rfl wi_RX8 (by decide) rfl fk_X8_12 rfl dX8_expose_10 rfl ?_
  refine r_iload_n (q := 14) dX8_expose_13 rfl rfl ?_
  refine r_cV (q := 17) (As := [.int _]) wc_X8_180 rfl im_X5_exposeLiar se_X5_exposeLiar (h_6.st (by decide)) rfl rfl (Nat.le_of_ble_eq_true rfl) (Nat.le_of_eq (Nat.zero_add _)) (Nat.le_of_eq (Nat.zero_add _)) dX8_expose_14 rfl rfl (s_X5_exposeLiar h_6 (by decide) hs hj hgl fun M_14 h_14 => ?_)
  refine r_iret dX8_expose_17 ?_
  exact hQ _ h_14
theorem s_X8_mute (h : RX G Λ ρ (sS σ 0 S) M) (hv : Hv σ) {l m : Int32} (hQ : (fMu S l m).1 = 0 → ∀ M', RX G Λ ρ (sS (pN (fR σ (fMu S l m).2) S) 0 (uR S 4 ((S.1 4).set l.toNatClampNeg m.toNatClampNeg))) M' → Q (some (.int (nI (((S.1 4).set l.toNatClampNeg m.toNatClampNeg).countP (0 < ·))))) M') (hX : ∀ E, flE (fMu S l m).1 = some E → ∀ M', RX G Λ ρ (sS (fR σ (fMu S l m).2) 0 S) M' → QX E M')  : MS G yX8_mute cX8_mute 3 (some .int) (d + 13) 1 6 [.ref (Λ (0, 0, 0)), .int l, .int m] M Q QX := by
  refine MS.of (by decide) (by simp [Value.category]) (Nat.le_of_ble_eq_true rfl) ?_
  show AW _ (_, _, _, _, _, _, _, _, _) _ _ _ _ [some _, some _, some _] _ _
  refine r_aload_n (q := 1) dX8_mute_0 rfl rfl ?_
  refine r_aload_n (q := 2) dX8_mute_1 rfl rfl ?_
  refine r_iload_n (q := 3) dX8_mute_2 rfl rfl ?_
  refine r_iload_n (q := 4) dX8_mute_3 rfl rfl ?_
  refine r_cV (q := 7) (As := [.int _, .int _]) wc_X8_183 rfl im_X8_faultOfMute se_X8_faultOfMute h.x rfl rfl (Nat.le_of_ble_eq_true rfl) (Nat.le_of_eq (Nat.zero_add _)) (Nat.le_of_eq (Nat.zero_add _)) dX8_mute_4 rfl rfl (s_X8_faultOfMute h fun M_4 h_4 => ?_)
  refine r_invVX (q := 10) (As := [.int _]) wc_X8_87 rfl im_X8_startChange se_X8_startChange h_4.x rfl rfl (Nat.le_of_ble_eq_true rfl) (Nat.le_of_eq (Nat.add_zero _)) (Nat.le_of_eq (Nat.add_zero _)) dX8_mute_7 rfl rfl (s_X8_startChange (σ := (fR σ (fMu S l m).2)) h_4 hv.fR (fMu_4) (fun hz => fun M_7 h_7 => ?_) (fun E hE => hX E hE _ h_4))
  obtain ⟨j, i, hj, hi, rfl, rfl⟩ := fMu_0 hz
  replace hQ := hQ hz
  simp only [nI_c7 (show j < 2 ^ 31 by omega), nI_c7 (show i < 2 ^ 31 by omega)] at hQ
  refine r_aload_n (q := 11) dX8_mute_10 rfl rfl ?_
  refine r_get (q := 14) (kk := 0) h_7.x rfl wi_RX8 (by decide) rfl fk_X8_12 rfl dX8_mute_11 rfl ?_
  refine r_iload_n (q := 15) dX8_mute_14 rfl rfl ?_
  refine r_iload_n (q := 16) dX8_mute_15 rfl rfl ?_
  refine r_cV (q := 19) (As := [.int _, .int _]) wc_X8_186 rfl im_X5_silence se_X5_silence (h_7.st (by decide)) rfl rfl (Nat.le_of_ble_eq_true rfl) (Nat.le_of_eq (Nat.zero_add _)) (Nat.le_of_eq (Nat.zero_add _)) dX8_mute_16 rfl rfl (s_X5_silence h_7 (by decide) hj hi fun M_16 h_16 => ?_)
  refine r_iret dX8_mute_19 ?_
  exact hQ _ h_16
theorem s_X8_fine (h : RX G Λ ρ (sS σ 0 S) M) (hv : Hv σ) (hs : Sm S) (hm4 : ∀ x ∈ S.1 4, x < 2 ^ 29) {l : Int32} (hQ : (fFi S l).1 = 0 → ∀ M', RX G Λ ρ (sS (pN (fR σ (fFi S l).2) S) 0 (fPay S l.toNatClampNeg)) M' → Q (some (.int (nI (((S.1 3).set l.toNatClampNeg ((S.1 3).getD l.toNatClampNeg 0 - 2 * (S.1 4).getD l.toNatClampNeg 0)).getD l.toNatClampNeg 0)))) M') (hX : ∀ E, flE (fFi S l).1 = some E → ∀ M', RX G Λ ρ (sS (fR σ (fFi S l).2) 0 S) M' → QX E M')  : MS G yX8_fine cX8_fine 2 (some .int) (d + 13) 1 6 [.ref (Λ (0, 0, 0)), .int l] M Q QX := by
  refine MS.of (by decide) (by simp [Value.category]) (Nat.le_of_ble_eq_true rfl) ?_
  show AW _ (_, _, _, _, _, _, _, _, _) _ _ _ _ [some _, some _] _ _
  refine r_aload_n (q := 1) dX8_fine_0 rfl rfl ?_
  refine r_aload_n (q := 2) dX8_fine_1 rfl rfl ?_
  refine r_iload_n (q := 3) dX8_fine_2 rfl rfl ?_
  refine r_cV (q := 6) (As := [.int _]) wc_X8_189 rfl im_X8_faultOfFine se_X8_faultOfFine h.x rfl rfl (Nat.le_of_ble_eq_true rfl) (Nat.le_of_eq (Nat.zero_add _)) (Nat.le_of_eq (Nat.zero_add _)) dX8_fine_3 rfl rfl (s_X8_faultOfFine h hs hm4 fun M_3 h_3 => ?_)
  refine r_invVX (q := 9) (As := [.int _]) wc_X8_87 rfl im_X8_startChange se_X8_startChange h_3.x rfl rfl (Nat.le_of_ble_eq_true rfl) (Nat.le_of_eq (Nat.add_zero _)) (Nat.le_of_eq (Nat.add_zero _)) dX8_fine_6 rfl rfl (s_X8_startChange (σ := (fR σ (fFi S l).2)) h_3 hv.fR (fFi_4) (fun hz => fun M_6 h_6 => ?_) (fun E hE => hX E hE _ h_3))
  obtain ⟨j, hj, rfl, hco⟩ := fFi_0 hz
  replace hQ := hQ hz
  simp only [nI_c7 (show j < 2 ^ 31 by omega)] at hQ
  refine r_aload_n (q := 10) dX8_fine_9 rfl rfl ?_
  refine r_get (q := 13) (kk := 0) h_6.x rfl wi_RX8 (by decide) rfl fk_X8_12 rfl dX8_fine_10 rfl ?_
  refine r_iload_n (q := 14) dX8_fine_13 rfl rfl ?_
  refine r_cV (q := 17) (As := [.int _]) wc_X8_192 rfl im_X5_payFine se_X5_payFine (h_6.st (by decide)) rfl rfl (Nat.le_of_ble_eq_true rfl) (Nat.le_of_eq (Nat.zero_add _)) (Nat.le_of_eq (Nat.zero_add _)) dX8_fine_14 rfl rfl (s_X5_payFine h_6 (by decide) hj hco fun M_14 h_14 => ?_)
  refine r_iret dX8_fine_17 ?_
  exact hQ _ h_14
theorem s_X8_hour (h : RX G Λ ρ (sS σ 0 S) M) (hv : Hv σ) (hs : Sm S) (he : ∀ x ∈ S.1 12, 262144 ≤ x ∧ 1 ≤ dE x) (hQ : ∀ M', RX G Λ ρ (sS (pN σ S) 0 (fHour S)) M' → Q (some (.int (gWay S))) M')  : MS G yX8_hour cX8_hour 1 (some .int) (d + 13) 1 6 [.ref (Λ (0, 0, 0))] M Q QX := by
  refine MS.of (by decide) (by simp [Value.category]) (Nat.le_of_ble_eq_true rfl) ?_
  show AW _ (_, _, _, _, _, _, _, _, _) _ _ _ _ [some _] _ _
  refine r_aload_n (q := 1) dX8_hour_0 rfl rfl ?_
  refine r_iconst (v := nI 0) (q := 2) dX8_hour_1 (by decide) rfl ?_
  refine r_invVX (q := 5) (As := [.int _]) wc_X8_87 rfl im_X8_startChange se_X8_startChange h.x rfl rfl (Nat.le_of_ble_eq_true rfl) (Nat.le_of_eq (Nat.add_zero _)) (Nat.le_of_eq (Nat.add_zero _)) dX8_hour_2 rfl rfl (s_X8_startChange h hv (f := 0) (by decide) (fun _ => fun M_2 h_2 => ?_) (fun E hE => by cases hE))
  refine r_aload_n (q := 6) dX8_hour_5 rfl rfl ?_
  refine r_get (q := 9) (kk := 0) h_2.x rfl wi_RX8 (by decide) rfl fk_X8_12 rfl dX8_hour_6 rfl ?_
  refine r_cV (q := 12) (As := []) wc_X8_195 rfl im_X5_endHour se_X5_endHour (h_2.st (by decide)) rfl rfl (Nat.le_of_ble_eq_true rfl) (Nat.le_of_eq (Nat.zero_add _)) (Nat.le_of_eq (Nat.zero_add _)) dX8_hour_9 rfl rfl (s_X5_endHour h_2 (by decide) hs he fun M_9 h_9 => ?_)
  refine r_iret dX8_hour_12 ?_
  exact hQ _ h_9
theorem s_X8_clear (h : RX G Λ ρ (sS σ 0 S) M) (hQ : ∀ M', RX G Λ ρ (sM (sS σ 0 s0) 6 (nI 0)) M' → Q (some (.int (nI ((S.1 0).countP (0 < ·))))) M')  : MS G yX8_clear cX8_clear 2 (some .int) (d + 3) 0 0 [.ref (Λ (0, 0, 0))] M Q QX := by
  refine MS.of (by decide) (by simp [Value.category]) (Nat.le_of_ble_eq_true rfl) ?_
  show AW _ (_, _, _, _, _, _, _, _, _) _ _ _ _ [some _, _] _ _
  refine r_aload_n (q := 1) dX8_clear_0 rfl rfl ?_
  refine r_get (q := 4) (kk := 0) h.x rfl wi_RX8 (by decide) rfl fk_X8_12 rfl dX8_clear_1 rfl ?_
  refine r_get (q := 7) (kk := 0) (h.st (by decide)) rfl wi_RX5 (by decide) rfl fk_X8_67 rfl dX8_clear_4 rfl ?_
  refine r_cS (q := 10) (As := [.ref _]) wc_X8_71 st_X3_number rfl (Nat.le_of_ble_eq_true rfl) (Nat.le_of_eq (Nat.zero_add _)) (Nat.le_of_eq (Nat.zero_add _)) dX8_clear_7 rfl rfl (s_X3_number (h.rwS (by decide)) ?_)
  refine r_istore_n (q := 11) dX8_clear_10 (Nat.le_of_ble_eq_true rfl) rfl rfl ?_
  show AW _ (_, _, _, _, _, _, _, _, _) _ _ _ _ [some _, some _] _ _
  refine r_aload_n (q := 12) dX8_clear_11 rfl rfl ?_
  refine r_get (q := 15) (kk := 0) h.x rfl wi_RX8 (by decide) rfl fk_X8_12 rfl dX8_clear_12 rfl ?_
  refine r_cV (q := 18) (As := []) wc_X8_77 rfl im_X5_reset se_X5_reset (h.st (by decide)) rfl rfl (Nat.le_of_ble_eq_true rfl) (Nat.le_of_eq (Nat.zero_add _)) (Nat.le_of_eq (Nat.zero_add _)) dX8_clear_15 rfl rfl (s_X5_reset h (by decide) fun M_15 h_15 => ?_)
  refine r_aload_n (q := 19) dX8_clear_18 rfl rfl ?_
  refine r_get (q := 22) (kk := 4) h_15.x rfl wi_RX8 (by decide) rfl fk_X8_29 rfl dX8_clear_19 rfl ?_
  refine r_cV (q := 25) (As := []) wc_X8_80 rfl im_X0_forget se_X0_forget h_15.hi rfl rfl (Nat.le_of_ble_eq_true rfl) (Nat.le_of_eq (Nat.zero_add _)) (Nat.le_of_eq (Nat.zero_add _)) dX8_clear_22 rfl rfl (s_X0_forget h_15 fun M_22 h_22 => ?_)
  refine r_iload_n (q := 26) dX8_clear_25 rfl rfl ?_
  refine r_iret dX8_clear_26 ?_
  exact hQ _ h_22
end W36
