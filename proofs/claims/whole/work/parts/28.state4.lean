/-! A STATE'S METHODS: the hour, waiting, numbers -/
section W28
variable {G : En} {Λ : Ob → Nat} {ρ : Me} {σ : Sg} {M : Me} {d : Nat} {Q : Option Value → Me → Prop} {QX : String → Me → Prop} {a : Nat} {S : St}
def fWay (S : St) : St := if gWay S = -2 then uI S 2 (S.2 2 + 1) else if gWay S = -1 then S else uR (uR S 5 (rPut (S.1 5) (gWay S) ((S.1 5).getD (gWay S).toNatClampNeg 0 + 1))) 3 (rPut (S.1 3) (gWay S) ((S.1 3).getD (gWay S).toNatClampNeg 0 + 3))
def fRs (S : St) (n : Nat) : St := (List.range n).foldl fRest (fWay S)
def fHrs (S : St) : St := uI (fRs S 7) 0 ((fRs S 7).2 0 + 1)
def fHour (S : St) : St := fHear (fHrs S)
theorem fWay_r {b : Nat} (h5 : b ≠ 5) (h3 : b ≠ 3) : (fWay S).1 b = S.1 b := by
  unfold fWay
  split
  · rfl
  · split
    · rfl
    · rw [uR_1, if_neg h3, uR_1, if_neg h5]
theorem fRest_r {b l : Nat} (h4 : b ≠ 4) (h2 : b ≠ 2) : (fRest S l).1 b = S.1 b := by
  unfold fRest
  split
  · rw [uR_1, if_neg h4]
  · rw [uR_1, if_neg h2]
theorem fRs_s {n : Nat} : fRs S (n + 1) = fRest (fRs S n) n := foldr_s
theorem fRs_r {b : Nat} (h5 : b ≠ 5) (h3 : b ≠ 3) (h4 : b ≠ 4) (h2 : b ≠ 2) (n : Nat) : (fRs S n).1 b = S.1 b := by
  induction n with
  | zero => exact fWay_r h5 h3
  | succ n ih => rw [fRs_s, fRest_r h4 h2, ih]
theorem fRs_2 (h : ∀ x ∈ S.1 2, x < 2 ^ 30) (n : Nat) : ∀ x ∈ (fRs S n).1 2, x < 2 ^ 30 := by
  induction n with
  | zero => rw [show fRs S 0 = fWay S from rfl, fWay_r (by decide) (by decide)]; exact h
  | succ n ih =>
    rw [fRs_s, fRest]
    split
    · exact ih
    · exact set_lt ih (show min 20 _ < 2 ^ 30 by omega)
theorem s_X5_endHour (h : RX G Λ ρ (sS σ a S) M) (ha : a < 11) (hs : Sm S) (he : ∀ x ∈ S.1 12, 262144 ≤ x ∧ 1 ≤ dE x) (hQ : ∀ M', RX G Λ ρ (sS σ a (fHour S)) M' → Q (some (.int (gWay S))) M')  : MS G yX5_endHour cX5_endHour 3 (some .int) (d + 3) 0 0 [.ref (Λ (1, a, 0))] M Q QX := by
  have loop : ∀ (m : Nat) j (M1 : Me), m = 7 - j → j ≤ 7 → RX G Λ ρ (sS σ a (fRs S j)) M1 → AW G (wX G yX5_endHour cX5_endHour 3 (some .int) 0 0 Q QX) (d + 3) 0 0 49 [some (.ref (Λ (1, a, 0))), some (.int (gWay S)), some (.int (nI j))] [] M1 := by
    intro m
    induction m using Nat.strongRecOn with
    | _ m ih =>
    intro j M1 hm hj h1
    subst hm
    refine r_iload_n (q := 50) dX5_endHour_49 rfl rfl ?_
    refine r_bipush (v := nI 7) (q := 52) dX5_endHour_50 (by decide) rfl ?_
    refine r_icmp_ge (t := 66) (q := 55) dX5_endHour_52 rfl rfl (fun c52 => ?_) (fun c52 => ?_)
    · simp (disch := omega) only [nI_leI, nI_ltI, nI_eq, nI_lt0, nI_ge0, nI_gt0, nI_le0, nI_eq0] at c52
      obtain rfl : j = 7 := by omega
      refine r_aload_n (q := 67) dX5_endHour_66 rfl rfl ?_
      refine r_dup (q := 68) dX5_endHour_67 rfl rfl ?_
      refine r_get (q := 71) (kk := 13) (h1.st ha) rfl wi_RX5 (by decide) rfl fk_X5_56 rfl dX5_endHour_68 rfl ?_
      rw [gI_s]
      refine r_iconst (v := nI 1) (q := 72) dX5_endHour_71 (by decide) rfl ?_
      refine r_iadd (q := 73) dX5_endHour_72 rfl ?_
      rw [n_add]
      refine r_p5 (q := 76) (kk := 13) (j := 0) h1 ha (by decide) rfl fk_X5_56 dX5_endHour_73 rfl fun M_73 h1_73 => ?_
      refine r_aload_n (q := 77) dX5_endHour_76 rfl rfl ?_
      refine r_cV (q := 80) (As := []) wc_X5_135 rfl im_X5_hearEchoes se_X5_hearEchoes (h1_73.st ha) rfl rfl (Nat.le_of_ble_eq_true rfl) (Nat.le_of_eq (Nat.zero_add _)) (Nat.le_of_eq (Nat.zero_add _)) dX5_endHour_77 rfl rfl (s_X5_hearEchoes h1_73 ha (by rw [uI_1, fRs_r (by decide) (by decide) (by decide) (by decide)]; exact hs 10 (by decide)) (by rw [uI_1, fRs_r (by decide) (by decide) (by decide) (by decide)]; exact hs 12 (by decide)) (by rw [uI_1, fRs_r (by decide) (by decide) (by decide) (by decide)]; exact he) fun M_77 h1_77 => ?_)
      refine r_iload_n (q := 81) dX5_endHour_80 rfl rfl ?_
      refine r_iret dX5_endHour_81 ?_
      exact hQ _ h1_77
    · simp (disch := omega) only [nI_leI, nI_ltI, nI_eq, nI_lt0, nI_ge0, nI_gt0, nI_le0, nI_eq0] at c52
      refine r_aload_n (q := 56) dX5_endHour_55 rfl rfl ?_
      refine r_iload_n (q := 57) dX5_endHour_56 rfl rfl ?_
      refine r_cV (q := 60) (As := [.int _]) wc_X5_132 rfl im_X5_rest se_X5_rest (h1.st ha) rfl rfl (Nat.le_of_ble_eq_true rfl) (Nat.le_of_eq (Nat.zero_add _)) (Nat.le_of_eq (Nat.zero_add _)) dX5_endHour_57 rfl rfl (s_X5_rest h1 ha (getD_all (by decide) (fRs_2 (hs 2 (by decide)) j) j) (by omega) fun M_57 h1_57 => ?_)
      refine r_inc1 (q := 63) dX5_endHour_60 rfl (Nat.le_of_ble_eq_true rfl) rfl rfl ?_
      show AW _ (_, _, _, _, _, _, _, _, _) _ _ _ _ [some _, some _, some _] _ _
      refine r_goto (t := 49) dX5_endHour_63 rfl ?_
      exact ih (7 - (j + 1)) (by omega) (j + 1) M_57 rfl (by omega) (by rw [fRs_s]; exact h1_57)
  have join : ∀ (M1 : Me) (u : Option Value), RX G Λ ρ (sS σ a (fWay S)) M1 → AW G (wX G yX5_endHour cX5_endHour 3 (some .int) 0 0 Q QX) (d + 3) 0 0 47 [some (.ref (Λ (1, a, 0))), some (.int (gWay S)), u] [] M1 := by
    intro M1 u h1
    refine r_iconst (v := nI 0) (q := 48) dX5_endHour_47 (by decide) rfl ?_
    refine r_istore_n (q := 49) dX5_endHour_48 (Nat.le_of_ble_eq_true rfl) rfl rfl ?_
    show AW _ (_, _, _, _, _, _, _, _, _) _ _ _ _ [some _, some _, some _] _ _
    exact loop _ 0 M1 rfl (by omega) h1
  refine MS.of (by decide) (by simp [Value.category]) (Nat.le_of_ble_eq_true rfl) ?_
  show AW _ (_, _, _, _, _, _, _, _, _) _ _ _ _ [some _, _, _] _ _
  refine r_aload_n (q := 1) dX5_endHour_0 rfl rfl ?_
  refine r_cV (q := 4) (As := []) wc_X5_129 rfl im_X5_wayGoesTo se_X5_wayGoesTo (h.st ha) rfl rfl (Nat.le_of_ble_eq_true rfl) (Nat.le_of_eq (Nat.zero_add _)) (Nat.le_of_eq (Nat.zero_add _)) dX5_endHour_1 rfl rfl (s_X5_wayGoesTo h ha hs ?_)
  refine r_istore_n (q := 5) dX5_endHour_4 (Nat.le_of_ble_eq_true rfl) rfl rfl ?_
  show AW _ (_, _, _, _, _, _, _, _, _) _ _ _ _ [some _, some _, _] _ _
  refine r_iload_n (q := 6) dX5_endHour_5 rfl rfl ?_
  refine r_bipush (v := (-2)) (q := 8) dX5_endHour_6 (by decide) rfl ?_
  refine r_icmp_ne (t := 24) (q := 11) dX5_endHour_8 rfl rfl (fun c8 => ?_) (fun c8 => ?_)
  · refine r_iload_n (q := 25) dX5_endHour_24 rfl rfl ?_
    refine r_iconst (v := (-1)) (q := 26) dX5_endHour_25 (by decide) rfl ?_
    refine r_icmp_eq (t := 47) (q := 29) dX5_endHour_26 rfl rfl (fun c26 => ?_) (fun c26 => ?_)
    · refine join _ _ ?_
      rw [fWay, if_neg c8, if_pos c26]
      exact h
    · obtain ⟨p, hp, e⟩ : ∃ p, p < 8 ∧ gWay S = nI p := by
        rcases gWay_c (S := S) with e | e | e
        · exact absurd e c26
        · exact absurd e c8
        · exact e
      refine r_aload_n (q := 30) dX5_endHour_29 rfl rfl ?_
      refine r_get (q := 33) (kk := 5) (h.st ha) rfl wi_RX5 (by decide) rfl fk_X5_32 rfl dX5_endHour_30 rfl ?_
      refine r_iload_n (q := 34) dX5_endHour_33 rfl rfl ?_
      refine r_iconst (v := nI 1) (q := 35) dX5_endHour_34 (by decide) rfl ?_
      refine r_cV (q := 38) (As := [.int _, .int _]) wc_X5_105 rfl im_X2_raise se_X2_raise (h.row (wRs ha (by decide))) rfl rfl (Nat.le_of_ble_eq_true rfl) (Nat.le_of_eq (Nat.zero_add _)) (Nat.le_of_eq (Nat.zero_add _)) dX5_endHour_35 rfl rfl (t_raise h (wRs ha (by decide)) (x := (S.1 5).getD (gWay S).toNatClampNeg 0 + 1) (by rw [e, rAt_nI (by omega), nI_clamp (by omega)]; exact n_add _ 1) (by have := hs.lt (by decide : 5 < 13) (gWay S).toNatClampNeg; omega) fun M_35 h_35 => ?_)
      refine r_aload_n (q := 39) dX5_endHour_38 rfl rfl ?_
      refine r_get (q := 42) (kk := 3) (h_35.st ha) rfl wi_RX5 (by decide) rfl fk_X5_26 rfl dX5_endHour_39 rfl ?_
      refine r_iload_n (q := 43) dX5_endHour_42 rfl rfl ?_
      refine r_iconst (v := nI 3) (q := 44) dX5_endHour_43 (by decide) rfl ?_
      refine r_cV (q := 47) (As := [.int _, .int _]) wc_X5_105 rfl im_X2_raise se_X2_raise (h_35.row (wRs ha (by decide))) rfl rfl (Nat.le_of_ble_eq_true rfl) (Nat.le_of_eq (Nat.zero_add _)) (Nat.le_of_eq (Nat.zero_add _)) dX5_endHour_44 rfl rfl (t_raise h_35 (wRs ha (by decide)) (x := (S.1 3).getD (gWay S).toNatClampNeg 0 + 3) (by show rAt (S.1 3) (gWay S) + _ = _; rw [e, rAt_nI (by omega), nI_clamp (by omega)]; exact n_add _ 3) (by have := hs.lt (by decide : 3 < 13) (gWay S).toNatClampNeg; omega) fun M_44 h_44 => ?_)
      refine join _ _ ?_
      rw [fWay, if_neg c8, if_neg c26]
      exact h_44
  · refine r_aload_n (q := 12) dX5_endHour_11 rfl rfl ?_
    refine r_dup (q := 13) dX5_endHour_12 rfl rfl ?_
    refine r_get (q := 16) (kk := 15) (h.st ha) rfl wi_RX5 (by decide) rfl fk_X5_63 rfl dX5_endHour_13 rfl ?_
    rw [gI_s]
    refine r_iconst (v := nI 1) (q := 17) dX5_endHour_16 (by decide) rfl ?_
    refine r_iadd (q := 18) dX5_endHour_17 rfl ?_
    rw [n_add]
    refine r_p5 (q := 21) (kk := 15) (j := 2) h ha (by decide) rfl fk_X5_63 dX5_endHour_18 rfl fun M_18 h_18 => ?_
    refine r_goto (t := 47) dX5_endHour_21 rfl ?_
    refine join _ _ ?_
    rw [fWay, if_pos c8]
    exact h_18
theorem n_m1 {m : Nat} (h : 1 ≤ m) : nI m + Int32.ofInt (-1) = nI (m - 1) := by
  rw [show Int32.ofInt (-1) = -nI 1 by decide]; exact n_neg m 1 h
def gWt (need : Nat) : Nat → Nat → Nat → Bool → Nat
  | 0, _, _, _ => 0
  | f + 1, m, hd, dn => if dn = true ∨ 0 < m ∨ hd < need then gWt need f (m - 1) (if 0 < m then hd else min 20 (hd + 2)) false + 1 else 0
theorem gWt_f {need f m hd : Nat} {dn : Bool} (h : ¬ (dn = true ∨ 0 < m ∨ hd < need)) : gWt need f m hd dn = 0 := by
  cases f with
  | zero => rfl
  | succ f => rw [gWt, if_neg h]
theorem gWt_t {need w m hd : Nat} {dn : Bool} (hw : w < 1000) (h : dn = true ∨ 0 < m ∨ hd < need) : w + gWt need (1000 - w) m hd dn = (w + 1) + gWt need (1000 - (w + 1)) (m - 1) (if 0 < m then hd else min 20 (hd + 2)) false := by
  rw [show 1000 - w = (1000 - (w + 1)) + 1 by omega, gWt, if_pos h]
  omega
theorem s_X5_hoursToWait (h : RX G Λ ρ (sS σ a S) M) (ha : a < 11) (hs2 : ∀ x ∈ S.1 2, x < 2 ^ 30) (hw : ∀ x ∈ S.1 0, x < 448) {l : Nat} (hl : l < 7) (hQ : Q (some (.int (nI (gWt (stm (gWd S l)) 1000 ((S.1 4).getD l 0) ((S.1 2).getD l 0) (gWh (S.1 11) l).isSome)))) M)  : MS G yX5_hoursToWait cX5_hoursToWait 7 (some .int) (d + 3) 0 0 [.ref (Λ (1, a, 0)), .int (nI l)] M Q QX := by
  have hn : gWd S l < 448 := getD_all (by decide) hw l
  have hn2 := stm_lt hn
  generalize hneed : stm (gWd S l) = need at hQ hn2
  have loop : ∀ (m : Nat) (w mu hd : Nat) (dn : Bool), m = 1000 - w → w ≤ 1000 → mu < 2 ^ 31 → hd < 2 ^ 30 → Q (some (.int (nI (w + gWt need (1000 - w) mu hd dn)))) M → AW G (wX G yX5_hoursToWait cX5_hoursToWait 7 (some .int) 0 0 Q QX) (d + 3) 0 0 41 [some (.ref (Λ (1, a, 0))), some (.int (nI l)), some (.int (nI need)), some (.int (nI hd)), some (.int (nI mu)), some (.int (bI dn)), some (.int (nI w))] [] M := by
    intro m
    induction m using Nat.strongRecOn with
    | _ m ih =>
    intro w mu hd dn hm hw hmu hhd hq
    subst hm
    refine r_iload (q := 43) dX5_hoursToWait_41 rfl rfl ?_
    refine r_sipush (v := nI 1000) (q := 46) dX5_hoursToWait_43 (by decide) rfl ?_
    refine r_icmp_ge (t := 93) (q := 49) dX5_hoursToWait_46 rfl rfl (fun c46 => ?_) (fun c46 => ?_)
    · simp (disch := omega) only [nI_leI, nI_ltI, nI_eq, nI_lt0, nI_ge0, nI_gt0, nI_le0, nI_eq0] at c46
      obtain rfl : w = 1000 := by omega
      refine r_iload (q := 95) dX5_hoursToWait_93 rfl rfl ?_
      refine r_iret dX5_hoursToWait_95 ?_
      exact hq
    · simp (disch := omega) only [nI_leI, nI_ltI, nI_eq, nI_lt0, nI_ge0, nI_gt0, nI_le0, nI_eq0] at c46
      refine r_iload (q := 51) dX5_hoursToWait_49 rfl rfl ?_
      refine r_if_ne (t := 64) (q := 54) dX5_hoursToWait_51 rfl rfl (fun c51 => ?_) (fun c51 => ?_)
      · have hg : dn = true ∨ 0 < mu ∨ hd < need := Or.inl (bI_ne c51)
        refine r_iload (q := 66) dX5_hoursToWait_64 rfl rfl ?_
        refine r_if_le (t := 75) (q := 69) dX5_hoursToWait_66 rfl rfl (fun c66 => ?_) (fun c66 => ?_)
        · simp (disch := omega) only [nI_leI, nI_ltI, nI_eq, nI_lt0, nI_ge0, nI_gt0, nI_le0, nI_eq0] at c66
          rw [gWt_t (by omega) hg, if_neg (by omega)] at hq
          obtain rfl : mu = 0 := by omega
          refine r_bipush (v := nI 20) (q := 77) dX5_hoursToWait_75 (by decide) rfl ?_
          refine r_iload_n (q := 78) dX5_hoursToWait_77 rfl rfl ?_
          refine r_iconst (v := nI 2) (q := 79) dX5_hoursToWait_78 (by decide) rfl ?_
          refine r_iadd (q := 80) dX5_hoursToWait_79 rfl ?_
          rw [n_add]
          refine r_mmin (q := 83) ml_X5_138 dX5_hoursToWait_80 rfl (Nat.le_of_ble_eq_true rfl) ?_
          rw [min_nI (by omega) (by omega)]
          refine r_istore_n (q := 84) dX5_hoursToWait_83 (Nat.le_of_ble_eq_true rfl) rfl rfl ?_
          show AW _ (_, _, _, _, _, _, _, _, _) _ _ _ _ [some _, some _, some _, some _, some _, some _, some _] _ _
          refine r_iconst (v := nI 0) (q := 85) dX5_hoursToWait_84 (by decide) rfl ?_
          refine r_istore (q := 87) dX5_hoursToWait_85 (Nat.le_of_ble_eq_true rfl) rfl rfl ?_
          show AW _ (_, _, _, _, _, _, _, _, _) _ _ _ _ [some _, some _, some _, some _, some _, some _, some _] _ _
          refine r_inc1 (q := 90) dX5_hoursToWait_87 rfl (Nat.le_of_ble_eq_true rfl) rfl rfl ?_
          show AW _ (_, _, _, _, _, _, _, _, _) _ _ _ _ [some _, some _, some _, some _, some _, some _, some _] _ _
          refine r_goto (t := 41) dX5_hoursToWait_90 rfl ?_
          exact ih (1000 - (w + 1)) (by omega) (w + 1) _ _ false rfl (by omega) (by omega) (by omega) hq
        · simp (disch := omega) only [nI_leI, nI_ltI, nI_eq, nI_lt0, nI_ge0, nI_gt0, nI_le0, nI_eq0] at c66
          rw [gWt_t (by omega) hg, if_pos (by omega)] at hq
          refine r_iinc (q := 72) dX5_hoursToWait_69 rfl (n_m1 (by omega)) (Nat.le_of_ble_eq_true rfl) rfl rfl ?_
          show AW _ (_, _, _, _, _, _, _, _, _) _ _ _ _ [some _, some _, some _, some _, some _, some _, some _] _ _
          refine r_goto (t := 84) dX5_hoursToWait_72 rfl ?_
          refine r_iconst (v := nI 0) (q := 85) dX5_hoursToWait_84 (by decide) rfl ?_
          refine r_istore (q := 87) dX5_hoursToWait_85 (Nat.le_of_ble_eq_true rfl) rfl rfl ?_
          show AW _ (_, _, _, _, _, _, _, _, _) _ _ _ _ [some _, some _, some _, some _, some _, some _, some _] _ _
          refine r_inc1 (q := 90) dX5_hoursToWait_87 rfl (Nat.le_of_ble_eq_true rfl) rfl rfl ?_
          show AW _ (_, _, _, _, _, _, _, _, _) _ _ _ _ [some _, some _, some _, some _, some _, some _, some _] _ _
          refine r_goto (t := 41) dX5_hoursToWait_90 rfl ?_
          exact ih (1000 - (w + 1)) (by omega) (w + 1) _ _ false rfl (by omega) (by omega) (by omega) hq
      · replace c51 := bI_eq0.mp c51
        refine r_iload (q := 56) dX5_hoursToWait_54 rfl rfl ?_
        refine r_if_gt (t := 64) (q := 59) dX5_hoursToWait_56 rfl rfl (fun c56 => ?_) (fun c56 => ?_)
        · simp (disch := omega) only [nI_leI, nI_ltI, nI_eq, nI_lt0, nI_ge0, nI_gt0, nI_le0, nI_eq0] at c56
          have hg : dn = true ∨ 0 < mu ∨ hd < need := Or.inr (Or.inl c56)
          refine r_iload (q := 66) dX5_hoursToWait_64 rfl rfl ?_
          refine r_if_le (t := 75) (q := 69) dX5_hoursToWait_66 rfl rfl (fun c66 => ?_) (fun c66 => ?_)
          · simp (disch := omega) only [nI_leI, nI_ltI, nI_eq, nI_lt0, nI_ge0, nI_gt0, nI_le0, nI_eq0] at c66
            rw [gWt_t (by omega) hg, if_neg (by omega)] at hq
            obtain rfl : mu = 0 := by omega
            refine r_bipush (v := nI 20) (q := 77) dX5_hoursToWait_75 (by decide) rfl ?_
            refine r_iload_n (q := 78) dX5_hoursToWait_77 rfl rfl ?_
            refine r_iconst (v := nI 2) (q := 79) dX5_hoursToWait_78 (by decide) rfl ?_
            refine r_iadd (q := 80) dX5_hoursToWait_79 rfl ?_
            rw [n_add]
            refine r_mmin (q := 83) ml_X5_138 dX5_hoursToWait_80 rfl (Nat.le_of_ble_eq_true rfl) ?_
            rw [min_nI (by omega) (by omega)]
            refine r_istore_n (q := 84) dX5_hoursToWait_83 (Nat.le_of_ble_eq_true rfl) rfl rfl ?_
            show AW _ (_, _, _, _, _, _, _, _, _) _ _ _ _ [some _, some _, some _, some _, some _, some _, some _] _ _
            refine r_iconst (v := nI 0) (q := 85) dX5_hoursToWait_84 (by decide) rfl ?_
            refine r_istore (q := 87) dX5_hoursToWait_85 (Nat.le_of_ble_eq_true rfl) rfl rfl ?_
            show AW _ (_, _, _, _, _, _, _, _, _) _ _ _ _ [some _, some _, some _, some _, some _, some _, some _] _ _
            refine r_inc1 (q := 90) dX5_hoursToWait_87 rfl (Nat.le_of_ble_eq_true rfl) rfl rfl ?_
            show AW _ (_, _, _, _, _, _, _, _, _) _ _ _ _ [some _, some _, some _, some _, some _, some _, some _] _ _
            refine r_goto (t := 41) dX5_hoursToWait_90 rfl ?_
            exact ih (1000 - (w + 1)) (by omega) (w + 1) _ _ false rfl (by omega) (by omega) (by omega) hq
          · simp (disch := omega) only [nI_leI, nI_ltI, nI_eq, nI_lt0, nI_ge0, nI_gt0, nI_le0, nI_eq0] at c66
            rw [gWt_t (by omega) hg, if_pos (by omega)] at hq
            refine r_iinc (q := 72) dX5_hoursToWait_69 rfl (n_m1 (by omega)) (Nat.le_of_ble_eq_true rfl) rfl rfl ?_
            show AW _ (_, _, _, _, _, _, _, _, _) _ _ _ _ [some _, some _, some _, some _, some _, some _, some _] _ _
            refine r_goto (t := 84) dX5_hoursToWait_72 rfl ?_
            refine r_iconst (v := nI 0) (q := 85) dX5_hoursToWait_84 (by decide) rfl ?_
            refine r_istore (q := 87) dX5_hoursToWait_85 (Nat.le_of_ble_eq_true rfl) rfl rfl ?_
            show AW _ (_, _, _, _, _, _, _, _, _) _ _ _ _ [some _, some _, some _, some _, some _, some _, some _] _ _
            refine r_inc1 (q := 90) dX5_hoursToWait_87 rfl (Nat.le_of_ble_eq_true rfl) rfl rfl ?_
            show AW _ (_, _, _, _, _, _, _, _, _) _ _ _ _ [some _, some _, some _, some _, some _, some _, some _] _ _
            refine r_goto (t := 41) dX5_hoursToWait_90 rfl ?_
            exact ih (1000 - (w + 1)) (by omega) (w + 1) _ _ false rfl (by omega) (by omega) (by omega) hq
        · simp (disch := omega) only [nI_leI, nI_ltI, nI_eq, nI_lt0, nI_ge0, nI_gt0, nI_le0, nI_eq0] at c56
          refine r_iload_n (q := 60) dX5_hoursToWait_59 rfl rfl ?_
          refine r_iload_n (q := 61) dX5_hoursToWait_60 rfl rfl ?_
          refine r_icmp_ge (t := 93) (q := 64) dX5_hoursToWait_61 rfl rfl (fun c61 => ?_) (fun c61 => ?_)
          · simp (disch := omega) only [nI_leI, nI_ltI, nI_eq, nI_lt0, nI_ge0, nI_gt0, nI_le0, nI_eq0] at c61
            have hg : ¬ (dn = true ∨ 0 < mu ∨ hd < need) := fun g => by
              rcases g with g | g | g
              · rw [c51] at g; cases g
              · omega
              · omega
            rw [gWt_f hg, Nat.add_zero] at hq
            refine r_iload (q := 95) dX5_hoursToWait_93 rfl rfl ?_
            refine r_iret dX5_hoursToWait_95 ?_
            exact hq
          · simp (disch := omega) only [nI_leI, nI_ltI, nI_eq, nI_lt0, nI_ge0, nI_gt0, nI_le0, nI_eq0] at c61
            have hg : dn = true ∨ 0 < mu ∨ hd < need := Or.inr (Or.inr (by omega))
            refine r_iload (q := 66) dX5_hoursToWait_64 rfl rfl ?_
            refine r_if_le (t := 75) (q := 69) dX5_hoursToWait_66 rfl rfl (fun c66 => ?_) (fun c66 => ?_)
            · simp (disch := omega) only [nI_leI, nI_ltI, nI_eq, nI_lt0, nI_ge0, nI_gt0, nI_le0, nI_eq0] at c66
              rw [gWt_t (by omega) hg, if_neg (by omega)] at hq
              obtain rfl : mu = 0 := by omega
              refine r_bipush (v := nI 20) (q := 77) dX5_hoursToWait_75 (by decide) rfl ?_
              refine r_iload_n (q := 78) dX5_hoursToWait_77 rfl rfl ?_
              refine r_iconst (v := nI 2) (q := 79) dX5_hoursToWait_78 (by decide) rfl ?_
              refine r_iadd (q := 80) dX5_hoursToWait_79 rfl ?_
              rw [n_add]
              refine r_mmin (q := 83) ml_X5_138 dX5_hoursToWait_80 rfl (Nat.le_of_ble_eq_true rfl) ?_
              rw [min_nI (by omega) (by omega)]
              refine r_istore_n (q := 84) dX5_hoursToWait_83 (Nat.le_of_ble_eq_true rfl) rfl rfl ?_
              show AW _ (_, _, _, _, _, _, _, _, _) _ _ _ _ [some _, some _, some _, some _, some _, some _, some _] _ _
              refine r_iconst (v := nI 0) (q := 85) dX5_hoursToWait_84 (by decide) rfl ?_
              refine r_istore (q := 87) dX5_hoursToWait_85 (Nat.le_of_ble_eq_true rfl) rfl rfl ?_
              show AW _ (_, _, _, _, _, _, _, _, _) _ _ _ _ [some _, some _, some _, some _, some _, some _, some _] _ _
              refine r_inc1 (q := 90) dX5_hoursToWait_87 rfl (Nat.le_of_ble_eq_true rfl) rfl rfl ?_
              show AW _ (_, _, _, _, _, _, _, _, _) _ _ _ _ [some _, some _, some _, some _, some _, some _, some _] _ _
              refine r_goto (t := 41) dX5_hoursToWait_90 rfl ?_
              exact ih (1000 - (w + 1)) (by omega) (w + 1) _ _ false rfl (by omega) (by omega) (by omega) hq
            · simp (disch := omega) only [nI_leI, nI_ltI, nI_eq, nI_lt0, nI_ge0, nI_gt0, nI_le0, nI_eq0] at c66
              rw [gWt_t (by omega) hg, if_pos (by omega)] at hq
              refine r_iinc (q := 72) dX5_hoursToWait_69 rfl (n_m1 (by omega)) (Nat.le_of_ble_eq_true rfl) rfl rfl ?_
              show AW _ (_, _, _, _, _, _, _, _, _) _ _ _ _ [some _, some _, some _, some _, some _, some _, some _] _ _
              refine r_goto (t := 84) dX5_hoursToWait_72 rfl ?_
              refine r_iconst (v := nI 0) (q := 85) dX5_hoursToWait_84 (by decide) rfl ?_
              refine r_istore (q := 87) dX5_hoursToWait_85 (Nat.le_of_ble_eq_true rfl) rfl rfl ?_
              show AW _ (_, _, _, _, _, _, _, _, _) _ _ _ _ [some _, some _, some _, some _, some _, some _, some _] _ _
              refine r_inc1 (q := 90) dX5_hoursToWait_87 rfl (Nat.le_of_ble_eq_true rfl) rfl rfl ?_
              show AW _ (_, _, _, _, _, _, _, _, _) _ _ _ _ [some _, some _, some _, some _, some _, some _, some _] _ _
              refine r_goto (t := 41) dX5_hoursToWait_90 rfl ?_
              exact ih (1000 - (w + 1)) (by omega) (w + 1) _ _ false rfl (by omega) (by omega) (by omega) hq
  refine MS.of (by decide) (by simp [Value.category]) (Nat.le_of_ble_eq_true rfl) ?_
  show AW _ (_, _, _, _, _, _, _, _, _) _ _ _ _ [some _, some _, _, _, _, _, _] _ _
  have h2 : (S.1 2).getD l 0 < 2 ^ 30 := getD_all (by decide) hs2 l
  have h4 := t_lt h (wRs ha (by decide : 4 < 13)) l
  refine r_aload_n (q := 1) dX5_hoursToWait_0 rfl rfl ?_
  refine r_get (q := 4) (kk := 0) (h.st ha) rfl wi_RX5 (by decide) rfl fk_X5_14 rfl dX5_hoursToWait_1 rfl ?_
  refine r_iload_n (q := 5) dX5_hoursToWait_4 rfl rfl ?_
  refine r_cV (q := 8) (As := [.int _]) wc_X5_94 rfl im_X2_at se_X2_at (h.row (wRs ha (by decide))) rfl rfl (Nat.le_of_ble_eq_true rfl) (Nat.le_of_eq (Nat.zero_add _)) (Nat.le_of_eq (Nat.zero_add _)) dX5_hoursToWait_5 rfl rfl (t_atN h (wRs ha (by decide)) (by omega) ?_)
  refine r_cS (q := 11) (As := [.int _]) wc_X5_83 st_X7_steam rfl (Nat.le_of_ble_eq_true rfl) (Nat.le_of_eq (Nat.zero_add _)) (Nat.le_of_eq (Nat.zero_add _)) dX5_hoursToWait_8 rfl rfl (s_X7_steam (t_lt h (wRs ha (by decide)) _) ?_)
  rw [show nI ((S.1 0).getD l 0 / 64 + pop6 ((S.1 0).getD l 0 % 64)) = nI need from congrArg nI hneed]
  refine r_istore_n (q := 12) dX5_hoursToWait_11 (Nat.le_of_ble_eq_true rfl) rfl rfl ?_
  show AW _ (_, _, _, _, _, _, _, _, _) _ _ _ _ [some _, some _, some _, _, _, _, _] _ _
  refine r_aload_n (q := 13) dX5_hoursToWait_12 rfl rfl ?_
  refine r_get (q := 16) (kk := 2) (h.st ha) rfl wi_RX5 (by decide) rfl fk_X5_23 rfl dX5_hoursToWait_13 rfl ?_
  refine r_iload_n (q := 17) dX5_hoursToWait_16 rfl rfl ?_
  refine r_cV (q := 20) (As := [.int _]) wc_X5_94 rfl im_X2_at se_X2_at (h.row (wRs ha (by decide))) rfl rfl (Nat.le_of_ble_eq_true rfl) (Nat.le_of_eq (Nat.zero_add _)) (Nat.le_of_eq (Nat.zero_add _)) dX5_hoursToWait_17 rfl rfl (t_atN h (wRs ha (by decide)) (by omega) ?_)
  refine r_istore_n (q := 21) dX5_hoursToWait_20 (Nat.le_of_ble_eq_true rfl) rfl rfl ?_
  show AW _ (_, _, _, _, _, _, _, _, _) _ _ _ _ [some _, some _, some _, some _, _, _, _] _ _
  refine r_aload_n (q := 22) dX5_hoursToWait_21 rfl rfl ?_
  refine r_get (q := 25) (kk := 4) (h.st ha) rfl wi_RX5 (by decide) rfl fk_X5_29 rfl dX5_hoursToWait_22 rfl ?_
  refine r_iload_n (q := 26) dX5_hoursToWait_25 rfl rfl ?_
  refine r_cV (q := 29) (As := [.int _]) wc_X5_94 rfl im_X2_at se_X2_at (h.row (wRs ha (by decide))) rfl rfl (Nat.le_of_ble_eq_true rfl) (Nat.le_of_eq (Nat.zero_add _)) (Nat.le_of_eq (Nat.zero_add _)) dX5_hoursToWait_26 rfl rfl (t_atN h (wRs ha (by decide)) (by omega) ?_)
  refine r_istore (q := 31) dX5_hoursToWait_29 (Nat.le_of_ble_eq_true rfl) rfl rfl ?_
  show AW _ (_, _, _, _, _, _, _, _, _) _ _ _ _ [some _, some _, some _, some _, some _, _, _] _ _
  refine r_aload_n (q := 32) dX5_hoursToWait_31 rfl rfl ?_
  refine r_iload_n (q := 33) dX5_hoursToWait_32 rfl rfl ?_
  refine r_cV (q := 36) (As := [.int _]) wc_X5_171 rfl im_X5_hasWhistled se_X5_hasWhistled (h.st ha) rfl rfl (Nat.le_of_ble_eq_true rfl) (Nat.le_of_eq (Nat.zero_add _)) (Nat.le_of_eq (Nat.zero_add _)) dX5_hoursToWait_33 rfl rfl (s_X5_hasWhistled h ha hl ?_)
  refine r_istore (q := 38) dX5_hoursToWait_36 (Nat.le_of_ble_eq_true rfl) rfl rfl ?_
  show AW _ (_, _, _, _, _, _, _, _, _) _ _ _ _ [some _, some _, some _, some _, some _, some _, _] _ _
  refine r_iconst (v := nI 0) (q := 39) dX5_hoursToWait_38 (by decide) rfl ?_
  refine r_istore (q := 41) dX5_hoursToWait_39 (Nat.le_of_ble_eq_true rfl) rfl rfl ?_
  show AW _ (_, _, _, _, _, _, _, _, _) _ _ _ _ [some _, some _, some _, some _, some _, some _, some _] _ _
  exact loop _ 0 _ _ _ rfl (by omega) (by omega) (by omega) (by rw [Nat.zero_add]; exact hQ)
def gLine (S : St) (l k : Nat) : Nat := if k = 0 then gWd S l / 64 else if k = 1 then gWd S l % 64 else if k < 9 then (S.1 (k - 1)).getD l 0 else if (gWh (S.1 11) l).isSome = true then 1 else 0
def gPlat (S : St) (p k : Nat) : Nat := if k < 3 then (S.1 (8 + k)).getD p 0 else (S.1 12).countP fun s => decide (dE s = p + 1)
def gAcc (S : St) (k : Nat) : Nat := if k = 0 then S.2 0 else if k = 1 then (S.1 0).countP (0 < ·) else if k = 2 then (S.1 4).countP (0 < ·) else if k = 3 then (S.1 11).countP (fun s => !dX s) else if k = 4 then ((S.1 11).map fun s => dD s / 64).sum else if k = 5 then (S.1 12).length else if k = 6 then S.2 1 else if k = 7 then (S.1 6).sum else if k = 8 then (S.1 7).sum else if k = 9 then (S.1 5).sum else if k = 10 then S.2 2 else if k = 11 then (S.1 2).sum else if k = 12 then (S.1 3).sum else S.2 3
theorem s_X5_numberOfLine (h : RX G Λ ρ (sS σ a S) M) (ha : a < 11) {l k : Nat} (hl : l < 7) (hk : k < 10) (hQ : Q (some (.int (nI (gLine S l k)))) M)  : MS G yX5_numberOfLine cX5_numberOfLine 3 (some .int) (d + 3) 0 0 [.ref (Λ (1, a, 0)), .int (nI l), .int (nI k)] M Q QX := by
  refine MS.of (by decide) (by simp [Value.category]) (Nat.le_of_ble_eq_true rfl) ?_
  show AW _ (_, _, _, _, _, _, _, _, _) _ _ _ _ [some _, some _, some _] _ _
  refine r_iload_n (q := 1) dX5_numberOfLine_0 rfl rfl ?_
  have hc : k = 0 ∨ k = 1 ∨ k = 2 ∨ k = 3 ∨ k = 4 ∨ k = 5 ∨ k = 6 ∨ k = 7 ∨ k = 8 ∨ k = 9 := by omega
  rcases hc with rfl | rfl | rfl | rfl | rfl | rfl | rfl | rfl | rfl | rfl
  · refine r_tableIn dX5_numberOfLine_1 (by decide) (by decide) rfl rfl ?_
    refine r_aload_n (q := 53) dX5_numberOfLine_52 rfl rfl ?_
    refine r_get (q := 56) (kk := 0) (h.st ha) rfl wi_RX5 (by decide) rfl fk_X5_14 rfl dX5_numberOfLine_53 rfl ?_
    refine r_iload_n (q := 57) dX5_numberOfLine_56 rfl rfl ?_
    refine r_cV (q := 60) (As := [.int _]) wc_X5_94 rfl im_X2_at se_X2_at (h.row (wRs ha (by decide))) rfl rfl (Nat.le_of_ble_eq_true rfl) (Nat.le_of_eq (Nat.zero_add _)) (Nat.le_of_eq (Nat.zero_add _)) dX5_numberOfLine_57 rfl rfl (t_atN h (wRs ha (by decide)) (by omega) ?_)
    refine r_cS (q := 63) (As := [.int _]) wc_X5_174 st_X7_length rfl (Nat.le_of_ble_eq_true rfl) (Nat.le_of_eq (Nat.zero_add _)) (Nat.le_of_eq (Nat.zero_add _)) dX5_numberOfLine_60 rfl rfl (s_X7_length (t_lt h (wRs ha (by decide)) _) ?_)
    refine r_iret dX5_numberOfLine_63 ?_
    exact hQ
  · refine r_tableIn dX5_numberOfLine_1 (by decide) (by decide) rfl rfl ?_
    refine r_aload_n (q := 65) dX5_numberOfLine_64 rfl rfl ?_
    refine r_get (q := 68) (kk := 0) (h.st ha) rfl wi_RX5 (by decide) rfl fk_X5_14 rfl dX5_numberOfLine_65 rfl ?_
    refine r_iload_n (q := 69) dX5_numberOfLine_68 rfl rfl ?_
    refine r_cV (q := 72) (As := [.int _]) wc_X5_94 rfl im_X2_at se_X2_at (h.row (wRs ha (by decide))) rfl rfl (Nat.le_of_ble_eq_true rfl) (Nat.le_of_eq (Nat.zero_add _)) (Nat.le_of_eq (Nat.zero_add _)) dX5_numberOfLine_69 rfl rfl (t_atN h (wRs ha (by decide)) (by omega) ?_)
    refine r_cS (q := 75) (As := [.int _]) wc_X5_177 st_X7_bits rfl (Nat.le_of_ble_eq_true rfl) (Nat.le_of_eq (Nat.zero_add _)) (Nat.le_of_eq (Nat.zero_add _)) dX5_numberOfLine_72 rfl rfl (s_X7_bits (t_lt h (wRs ha (by decide)) _) ?_)
    refine r_iret dX5_numberOfLine_75 ?_
    exact hQ
  · refine r_tableIn dX5_numberOfLine_1 (by decide) (by decide) rfl rfl ?_
    refine r_aload_n (q := 77) dX5_numberOfLine_76 rfl rfl ?_
    refine r_get (q := 80) (kk := 1) (h.st ha) rfl wi_RX5 (by decide) rfl fk_X5_20 rfl dX5_numberOfLine_77 rfl ?_
    refine r_iload_n (q := 81) dX5_numberOfLine_80 rfl rfl ?_
    refine r_cV (q := 84) (As := [.int _]) wc_X5_94 rfl im_X2_at se_X2_at (h.row (wRs ha (by decide))) rfl rfl (Nat.le_of_ble_eq_true rfl) (Nat.le_of_eq (Nat.zero_add _)) (Nat.le_of_eq (Nat.zero_add _)) dX5_numberOfLine_81 rfl rfl (t_atN h (wRs ha (by decide)) (by omega) ?_)
    refine r_iret dX5_numberOfLine_84 ?_
    exact hQ
  · refine r_tableIn dX5_numberOfLine_1 (by decide) (by decide) rfl rfl ?_
    refine r_aload_n (q := 86) dX5_numberOfLine_85 rfl rfl ?_
    refine r_get (q := 89) (kk := 2) (h.st ha) rfl wi_RX5 (by decide) rfl fk_X5_23 rfl dX5_numberOfLine_86 rfl ?_
    refine r_iload_n (q := 90) dX5_numberOfLine_89 rfl rfl ?_
    refine r_cV (q := 93) (As := [.int _]) wc_X5_94 rfl im_X2_at se_X2_at (h.row (wRs ha (by decide))) rfl rfl (Nat.le_of_ble_eq_true rfl) (Nat.le_of_eq (Nat.zero_add _)) (Nat.le_of_eq (Nat.zero_add _)) dX5_numberOfLine_90 rfl rfl (t_atN h (wRs ha (by decide)) (by omega) ?_)
    refine r_iret dX5_numberOfLine_93 ?_
    exact hQ
  · refine r_tableIn dX5_numberOfLine_1 (by decide) (by decide) rfl rfl ?_
    refine r_aload_n (q := 95) dX5_numberOfLine_94 rfl rfl ?_
    refine r_get (q := 98) (kk := 3) (h.st ha) rfl wi_RX5 (by decide) rfl fk_X5_26 rfl dX5_numberOfLine_95 rfl ?_
    refine r_iload_n (q := 99) dX5_numberOfLine_98 rfl rfl ?_
    refine r_cV (q := 102) (As := [.int _]) wc_X5_94 rfl im_X2_at se_X2_at (h.row (wRs ha (by decide))) rfl rfl (Nat.le_of_ble_eq_true rfl) (Nat.le_of_eq (Nat.zero_add _)) (Nat.le_of_eq (Nat.zero_add _)) dX5_numberOfLine_99 rfl rfl (t_atN h (wRs ha (by decide)) (by omega) ?_)
    refine r_iret dX5_numberOfLine_102 ?_
    exact hQ
  · refine r_tableIn dX5_numberOfLine_1 (by decide) (by decide) rfl rfl ?_
    refine r_aload_n (q := 104) dX5_numberOfLine_103 rfl rfl ?_
    refine r_get (q := 107) (kk := 4) (h.st ha) rfl wi_RX5 (by decide) rfl fk_X5_29 rfl dX5_numberOfLine_104 rfl ?_
    refine r_iload_n (q := 108) dX5_numberOfLine_107 rfl rfl ?_
    refine r_cV (q := 111) (As := [.int _]) wc_X5_94 rfl im_X2_at se_X2_at (h.row (wRs ha (by decide))) rfl rfl (Nat.le_of_ble_eq_true rfl) (Nat.le_of_eq (Nat.zero_add _)) (Nat.le_of_eq (Nat.zero_add _)) dX5_numberOfLine_108 rfl rfl (t_atN h (wRs ha (by decide)) (by omega) ?_)
    refine r_iret dX5_numberOfLine_111 ?_
    exact hQ
  · refine r_tableIn dX5_numberOfLine_1 (by decide) (by decide) rfl rfl ?_
    refine r_aload_n (q := 113) dX5_numberOfLine_112 rfl rfl ?_
    refine r_get (q := 116) (kk := 5) (h.st ha) rfl wi_RX5 (by decide) rfl fk_X5_32 rfl dX5_numberOfLine_113 rfl ?_
    refine r_iload_n (q := 117) dX5_numberOfLine_116 rfl rfl ?_
    refine r_cV (q := 120) (As := [.int _]) wc_X5_94 rfl im_X2_at se_X2_at (h.row (wRs ha (by decide))) rfl rfl (Nat.le_of_ble_eq_true rfl) (Nat.le_of_eq (Nat.zero_add _)) (Nat.le_of_eq (Nat.zero_add _)) dX5_numberOfLine_117 rfl rfl (t_atN h (wRs ha (by decide)) (by omega) ?_)
    refine r_iret dX5_numberOfLine_120 ?_
    exact hQ
  · refine r_tableIn dX5_numberOfLine_1 (by decide) (by decide) rfl rfl ?_
    refine r_aload_n (q := 122) dX5_numberOfLine_121 rfl rfl ?_
    refine r_get (q := 125) (kk := 6) (h.st ha) rfl wi_RX5 (by decide) rfl fk_X5_35 rfl dX5_numberOfLine_122 rfl ?_
    refine r_iload_n (q := 126) dX5_numberOfLine_125 rfl rfl ?_
    refine r_cV (q := 129) (As := [.int _]) wc_X5_94 rfl im_X2_at se_X2_at (h.row (wRs ha (by decide))) rfl rfl (Nat.le_of_ble_eq_true rfl) (Nat.le_of_eq (Nat.zero_add _)) (Nat.le_of_eq (Nat.zero_add _)) dX5_numberOfLine_126 rfl rfl (t_atN h (wRs ha (by decide)) (by omega) ?_)
    refine r_iret dX5_numberOfLine_129 ?_
    exact hQ
  · refine r_tableIn dX5_numberOfLine_1 (by decide) (by decide) rfl rfl ?_
    refine r_aload_n (q := 131) dX5_numberOfLine_130 rfl rfl ?_
    refine r_get (q := 134) (kk := 7) (h.st ha) rfl wi_RX5 (by decide) rfl fk_X5_38 rfl dX5_numberOfLine_131 rfl ?_
    refine r_iload_n (q := 135) dX5_numberOfLine_134 rfl rfl ?_
    refine r_cV (q := 138) (As := [.int _]) wc_X5_94 rfl im_X2_at se_X2_at (h.row (wRs ha (by decide))) rfl rfl (Nat.le_of_ble_eq_true rfl) (Nat.le_of_eq (Nat.zero_add _)) (Nat.le_of_eq (Nat.zero_add _)) dX5_numberOfLine_135 rfl rfl (t_atN h (wRs ha (by decide)) (by omega) ?_)
    refine r_iret dX5_numberOfLine_138 ?_
    exact hQ
  · refine r_tableOut dX5_numberOfLine_1 (Or.inr (by decide)) rfl ?_
    refine r_aload_n (q := 140) dX5_numberOfLine_139 rfl rfl ?_
    refine r_iload_n (q := 141) dX5_numberOfLine_140 rfl rfl ?_
    refine r_cV (q := 144) (As := [.int _]) wc_X5_171 rfl im_X5_hasWhistled se_X5_hasWhistled (h.st ha) rfl rfl (Nat.le_of_ble_eq_true rfl) (Nat.le_of_eq (Nat.zero_add _)) (Nat.le_of_eq (Nat.zero_add _)) dX5_numberOfLine_141 rfl rfl (s_X5_hasWhistled h ha hl ?_)
    refine r_if_eq (t := 151) (q := 147) dX5_numberOfLine_144 rfl rfl (fun c144 => ?_) (fun c144 => ?_)
    · rw [gLine, if_neg (by decide), if_neg (by decide), if_neg (by decide), if_neg (by rw [bI_eq0.mp c144]; decide)] at hQ
      refine r_iconst (v := nI 0) (q := 152) dX5_numberOfLine_151 (by decide) rfl ?_
      refine r_iret dX5_numberOfLine_152 ?_
      exact hQ
    · rw [gLine, if_neg (by decide), if_neg (by decide), if_neg (by decide), if_pos (bI_ne c144)] at hQ
      refine r_iconst (v := nI 1) (q := 148) dX5_numberOfLine_147 (by decide) rfl ?_
      refine r_goto (t := 152) dX5_numberOfLine_148 rfl ?_
      refine r_iret dX5_numberOfLine_152 ?_
      exact hQ
theorem s_X5_numberOfPlatform (h : RX G Λ ρ (sS σ a S) M) (ha : a < 11) {p k : Nat} (hp : p < 4) (hk : k < 4) (hQ : Q (some (.int (nI (gPlat S p k)))) M)  : MS G yX5_numberOfPlatform cX5_numberOfPlatform 3 (some .int) (d + 2) 0 0 [.ref (Λ (1, a, 0)), .int (nI p), .int (nI k)] M Q QX := by
  refine MS.of (by decide) (by simp [Value.category]) (Nat.le_of_ble_eq_true rfl) ?_
  show AW _ (_, _, _, _, _, _, _, _, _) _ _ _ _ [some _, some _, some _] _ _
  refine r_iload_n (q := 1) dX5_numberOfPlatform_0 rfl rfl ?_
  have hc : k = 0 ∨ k = 1 ∨ k = 2 ∨ k = 3 := by omega
  rcases hc with rfl | rfl | rfl | rfl
  · refine r_tableIn dX5_numberOfPlatform_1 (by decide) (by decide) rfl rfl ?_
    refine r_aload_n (q := 29) dX5_numberOfPlatform_28 rfl rfl ?_
    refine r_get (q := 32) (kk := 8) (h.st ha) rfl wi_RX5 (by decide) rfl fk_X5_41 rfl dX5_numberOfPlatform_29 rfl ?_
    refine r_iload_n (q := 33) dX5_numberOfPlatform_32 rfl rfl ?_
    refine r_cV (q := 36) (As := [.int _]) wc_X5_94 rfl im_X2_at se_X2_at (h.row (wRs ha (by decide))) rfl rfl (Nat.le_of_ble_eq_true rfl) (Nat.le_of_eq (Nat.zero_add _)) (Nat.le_of_eq (Nat.zero_add _)) dX5_numberOfPlatform_33 rfl rfl (t_atN h (wRs ha (by decide)) (by omega) ?_)
    refine r_iret dX5_numberOfPlatform_36 ?_
    exact hQ
  · refine r_tableIn dX5_numberOfPlatform_1 (by decide) (by decide) rfl rfl ?_
    refine r_aload_n (q := 38) dX5_numberOfPlatform_37 rfl rfl ?_
    refine r_get (q := 41) (kk := 9) (h.st ha) rfl wi_RX5 (by decide) rfl fk_X5_44 rfl dX5_numberOfPlatform_38 rfl ?_
    refine r_iload_n (q := 42) dX5_numberOfPlatform_41 rfl rfl ?_
    refine r_cV (q := 45) (As := [.int _]) wc_X5_94 rfl im_X2_at se_X2_at (h.row (wRs ha (by decide))) rfl rfl (Nat.le_of_ble_eq_true rfl) (Nat.le_of_eq (Nat.zero_add _)) (Nat.le_of_eq (Nat.zero_add _)) dX5_numberOfPlatform_42 rfl rfl (t_atN h (wRs ha (by decide)) (by omega) ?_)
    refine r_iret dX5_numberOfPlatform_45 ?_
    exact hQ
  · refine r_tableIn dX5_numberOfPlatform_1 (by decide) (by decide) rfl rfl ?_
    refine r_aload_n (q := 47) dX5_numberOfPlatform_46 rfl rfl ?_
    refine r_get (q := 50) (kk := 10) (h.st ha) rfl wi_RX5 (by decide) rfl fk_X5_47 rfl dX5_numberOfPlatform_47 rfl ?_
    refine r_iload_n (q := 51) dX5_numberOfPlatform_50 rfl rfl ?_
    refine r_cV (q := 54) (As := [.int _]) wc_X5_94 rfl im_X2_at se_X2_at (h.row (wRs ha (by decide))) rfl rfl (Nat.le_of_ble_eq_true rfl) (Nat.le_of_eq (Nat.zero_add _)) (Nat.le_of_eq (Nat.zero_add _)) dX5_numberOfPlatform_51 rfl rfl (t_atN h (wRs ha (by decide)) (by omega) ?_)
    refine r_iret dX5_numberOfPlatform_54 ?_
    exact hQ
  · refine r_tableOut dX5_numberOfPlatform_1 (Or.inr (by decide)) rfl ?_
    refine r_aload_n (q := 56) dX5_numberOfPlatform_55 rfl rfl ?_
    refine r_iload_n (q := 57) dX5_numberOfPlatform_56 rfl rfl ?_
    refine r_cV (q := 60) (As := [.int _]) wc_X5_180 rfl im_X5_echoesToCome se_X5_echoesToCome (h.st ha) rfl rfl (Nat.le_of_ble_eq_true rfl) (Nat.le_of_eq (Nat.zero_add _)) (Nat.le_of_eq (Nat.zero_add _)) dX5_numberOfPlatform_57 rfl rfl (s_X5_echoesToCome h ha hp ?_)
    refine r_iret dX5_numberOfPlatform_60 ?_
    exact hQ
theorem s_X5_accountOf (h : RX G Λ ρ (sS σ a S) M) (ha : a < 11) {k : Nat} (hk : k < 14) (hQ : Q (some (.int (nI (gAcc S k)))) M)  : MS G yX5_accountOf cX5_accountOf 2 (some .int) (d + 2) 0 0 [.ref (Λ (1, a, 0)), .int (nI k)] M Q QX := by
  refine MS.of (by decide) (by simp [Value.category]) (Nat.le_of_ble_eq_true rfl) ?_
  show AW _ (_, _, _, _, _, _, _, _, _) _ _ _ _ [some _, some _] _ _
  refine r_iload_n (q := 1) dX5_accountOf_0 rfl rfl ?_
  have hc : k = 0 ∨ k = 1 ∨ k = 2 ∨ k = 3 ∨ k = 4 ∨ k = 5 ∨ k = 6 ∨ k = 7 ∨ k = 8 ∨ k = 9 ∨ k = 10 ∨ k = 11 ∨ k = 12 ∨ k = 13 := by omega
  rcases hc with rfl | rfl | rfl | rfl | rfl | rfl | rfl | rfl | rfl | rfl | rfl | rfl | rfl | rfl
  · refine r_tableIn dX5_accountOf_1 (by decide) (by decide) rfl rfl ?_
    refine r_aload_n (q := 69) dX5_accountOf_68 rfl rfl ?_
    refine r_get (q := 72) (kk := 13) (h.st ha) rfl wi_RX5 (by decide) rfl fk_X5_56 rfl dX5_accountOf_69 rfl ?_
    rw [gI_s]
    refine r_iret dX5_accountOf_72 ?_
    exact hQ
  · refine r_tableIn dX5_accountOf_1 (by decide) (by decide) rfl rfl ?_
    refine r_aload_n (q := 74) dX5_accountOf_73 rfl rfl ?_
    refine r_get (q := 77) (kk := 0) (h.st ha) rfl wi_RX5 (by decide) rfl fk_X5_14 rfl dX5_accountOf_74 rfl ?_
    refine r_cS (q := 80) (As := [.ref _]) wc_X5_88 st_X3_number rfl (Nat.le_of_ble_eq_true rfl) (Nat.le_of_eq (Nat.zero_add _)) (Nat.le_of_eq (Nat.zero_add _)) dX5_accountOf_77 rfl rfl (s_X3_number (h.rwS (wRs ha (by decide))) ?_)
    refine r_iret dX5_accountOf_80 ?_
    exact hQ
  · refine r_tableIn dX5_accountOf_1 (by decide) (by decide) rfl rfl ?_
    refine r_aload_n (q := 82) dX5_accountOf_81 rfl rfl ?_
    refine r_get (q := 85) (kk := 4) (h.st ha) rfl wi_RX5 (by decide) rfl fk_X5_29 rfl dX5_accountOf_82 rfl ?_
    refine r_cV (q := 88) (As := []) wc_X5_97 rfl im_X2_numberAboveZero se_X2_numberAboveZero (h.row (wRs ha (by decide))) rfl rfl (Nat.le_of_ble_eq_true rfl) (Nat.le_of_eq (Nat.zero_add _)) (Nat.le_of_eq (Nat.zero_add _)) dX5_accountOf_85 rfl rfl (t_many h (wRs ha (by decide)) ?_)
    refine r_iret dX5_accountOf_88 ?_
    exact hQ
  · refine r_tableIn dX5_accountOf_1 (by decide) (by decide) rfl rfl ?_
    refine r_aload_n (q := 90) dX5_accountOf_89 rfl rfl ?_
    refine r_cV (q := 93) (As := []) wc_X5_186 rfl im_X5_numberHeard se_X5_numberHeard (h.st ha) rfl rfl (Nat.le_of_ble_eq_true rfl) (Nat.le_of_eq (Nat.zero_add _)) (Nat.le_of_eq (Nat.zero_add _)) dX5_accountOf_90 rfl rfl (s_X5_numberHeard h ha ?_)
    refine r_iret dX5_accountOf_93 ?_
    exact hQ
  · refine r_tableIn dX5_accountOf_1 (by decide) (by decide) rfl rfl ?_
    refine r_aload_n (q := 95) dX5_accountOf_94 rfl rfl ?_
    refine r_cV (q := 98) (As := []) wc_X5_189 rfl im_X5_lettersOnStrip se_X5_lettersOnStrip (h.st ha) rfl rfl (Nat.le_of_ble_eq_true rfl) (Nat.le_of_eq (Nat.zero_add _)) (Nat.le_of_eq (Nat.zero_add _)) dX5_accountOf_95 rfl rfl (s_X5_lettersOnStrip h ha ?_)
    refine r_iret dX5_accountOf_98 ?_
    exact hQ
  · refine r_tableIn dX5_accountOf_1 (by decide) (by decide) rfl rfl ?_
    refine r_aload_n (q := 100) dX5_accountOf_99 rfl rfl ?_
    refine r_get (q := 103) (kk := 12) (h.st ha) rfl wi_RX5 (by decide) rfl fk_X5_53 rfl dX5_accountOf_100 rfl ?_
    refine r_cV (q := 106) (As := []) wc_X5_143 rfl im_X2_size se_X2_size (h.row (wRs ha (by decide))) rfl rfl (Nat.le_of_ble_eq_true rfl) (Nat.le_of_eq (Nat.zero_add _)) (Nat.le_of_eq (Nat.zero_add _)) dX5_accountOf_103 rfl rfl (t_size h (wRs ha (by decide)) ?_)
    refine r_iret dX5_accountOf_106 ?_
    exact hQ
  · refine r_tableIn dX5_accountOf_1 (by decide) (by decide) rfl rfl ?_
    refine r_aload_n (q := 108) dX5_accountOf_107 rfl rfl ?_
    refine r_get (q := 111) (kk := 14) (h.st ha) rfl wi_RX5 (by decide) rfl fk_X5_60 rfl dX5_accountOf_108 rfl ?_
    rw [gI_s]
    refine r_iret dX5_accountOf_111 ?_
    exact hQ
  · refine r_tableIn dX5_accountOf_1 (by decide) (by decide) rfl rfl ?_
    refine r_aload_n (q := 113) dX5_accountOf_112 rfl rfl ?_
    refine r_get (q := 116) (kk := 6) (h.st ha) rfl wi_RX5 (by decide) rfl fk_X5_35 rfl dX5_accountOf_113 rfl ?_
    refine r_cV (q := 119) (As := []) wc_X5_192 rfl im_X2_total se_X2_total (h.row (wRs ha (by decide))) rfl rfl (Nat.le_of_ble_eq_true rfl) (Nat.le_of_eq (Nat.zero_add _)) (Nat.le_of_eq (Nat.zero_add _)) dX5_accountOf_116 rfl rfl (t_total h (wRs ha (by decide)) ?_)
    refine r_iret dX5_accountOf_119 ?_
    exact hQ
  · refine r_tableIn dX5_accountOf_1 (by decide) (by decide) rfl rfl ?_
    refine r_aload_n (q := 121) dX5_accountOf_120 rfl rfl ?_
    refine r_get (q := 124) (kk := 7) (h.st ha) rfl wi_RX5 (by decide) rfl fk_X5_38 rfl dX5_accountOf_121 rfl ?_
    refine r_cV (q := 127) (As := []) wc_X5_192 rfl im_X2_total se_X2_total (h.row (wRs ha (by decide))) rfl rfl (Nat.le_of_ble_eq_true rfl) (Nat.le_of_eq (Nat.zero_add _)) (Nat.le_of_eq (Nat.zero_add _)) dX5_accountOf_124 rfl rfl (t_total h (wRs ha (by decide)) ?_)
    refine r_iret dX5_accountOf_127 ?_
    exact hQ
  · refine r_tableIn dX5_accountOf_1 (by decide) (by decide) rfl rfl ?_
    refine r_aload_n (q := 129) dX5_accountOf_128 rfl rfl ?_
    refine r_get (q := 132) (kk := 5) (h.st ha) rfl wi_RX5 (by decide) rfl fk_X5_32 rfl dX5_accountOf_129 rfl ?_
    refine r_cV (q := 135) (As := []) wc_X5_192 rfl im_X2_total se_X2_total (h.row (wRs ha (by decide))) rfl rfl (Nat.le_of_ble_eq_true rfl) (Nat.le_of_eq (Nat.zero_add _)) (Nat.le_of_eq (Nat.zero_add _)) dX5_accountOf_132 rfl rfl (t_total h (wRs ha (by decide)) ?_)
    refine r_iret dX5_accountOf_135 ?_
    exact hQ
  · refine r_tableIn dX5_accountOf_1 (by decide) (by decide) rfl rfl ?_
    refine r_aload_n (q := 137) dX5_accountOf_136 rfl rfl ?_
    refine r_get (q := 140) (kk := 15) (h.st ha) rfl wi_RX5 (by decide) rfl fk_X5_63 rfl dX5_accountOf_137 rfl ?_
    rw [gI_s]
    refine r_iret dX5_accountOf_140 ?_
    exact hQ
  · refine r_tableIn dX5_accountOf_1 (by decide) (by decide) rfl rfl ?_
    refine r_aload_n (q := 142) dX5_accountOf_141 rfl rfl ?_
    refine r_get (q := 145) (kk := 2) (h.st ha) rfl wi_RX5 (by decide) rfl fk_X5_23 rfl dX5_accountOf_142 rfl ?_
    refine r_cV (q := 148) (As := []) wc_X5_192 rfl im_X2_total se_X2_total (h.row (wRs ha (by decide))) rfl rfl (Nat.le_of_ble_eq_true rfl) (Nat.le_of_eq (Nat.zero_add _)) (Nat.le_of_eq (Nat.zero_add _)) dX5_accountOf_145 rfl rfl (t_total h (wRs ha (by decide)) ?_)
    refine r_iret dX5_accountOf_148 ?_
    exact hQ
  · refine r_tableIn dX5_accountOf_1 (by decide) (by decide) rfl rfl ?_
    refine r_aload_n (q := 150) dX5_accountOf_149 rfl rfl ?_
    refine r_get (q := 153) (kk := 3) (h.st ha) rfl wi_RX5 (by decide) rfl fk_X5_26 rfl dX5_accountOf_150 rfl ?_
    refine r_cV (q := 156) (As := []) wc_X5_192 rfl im_X2_total se_X2_total (h.row (wRs ha (by decide))) rfl rfl (Nat.le_of_ble_eq_true rfl) (Nat.le_of_eq (Nat.zero_add _)) (Nat.le_of_eq (Nat.zero_add _)) dX5_accountOf_153 rfl rfl (t_total h (wRs ha (by decide)) ?_)
    refine r_iret dX5_accountOf_156 ?_
    exact hQ
  · refine r_tableOut dX5_accountOf_1 (Or.inr (by decide)) rfl ?_
    refine r_aload_n (q := 158) dX5_accountOf_157 rfl rfl ?_
    refine r_get (q := 161) (kk := 16) (h.st ha) rfl wi_RX5 (by decide) rfl fk_X5_66 rfl dX5_accountOf_158 rfl ?_
    rw [gI_s]
    refine r_iret dX5_accountOf_161 ?_
    exact hQ
end W28
