/-! A STATE'S METHODS: blow, the way, echoes, the hour, accounts -/
section W27
variable {G : En} {Λ : Ob → Nat} {ρ : Me} {σ : Sg} {M : Me} {d : Nat} {Q : Option Value → Me → Prop} {QX : String → Me → Prop} {a : Nat} {S : St}
def aBlow (S : St) (l t : Nat) : St := uI (uR S 2 ((S.1 2).set l ((S.1 2).getD l 0 - cost S l t))) 1 (S.2 1 + 1)
def cBlow (S : St) (l t : Nat) : St := if t = l then aBlow S l t else uR (aBlow S l t) 6 ((S.1 6).set l ((S.1 6).getD l 0 + 1))
def snd (S : St) (l t : Nat) : Nat := t + 8 * l + 512 * gWd S t
def dBlow (S : St) (l t : Nat) : St := uR (cBlow S l t) 11 (rAdd 147 (S.1 11) (snd S l t))
def eStep (S : St) (l t : Nat) (L : List Nat) (p : Nat) : List Nat := if 0 < (S.1 8).getD p 0 ∧ (S.1 9).getD p 0 / 2 ^ l % 2 = 1 then rAdd 140 L (snd S l t + 64 * (p + 1) + 262144 * (S.1 8).getD p 0) else L
def eBlow (S : St) (l t n : Nat) : List Nat := (List.range n).foldl (eStep S l t) (S.1 12)
def fBlow (S : St) (l t : Nat) : St := uR (dBlow S l t) 12 (eBlow S l t 4)
theorem cB_r {l t b : Nat} (h2 : b ≠ 2) (h6 : b ≠ 6) : (cBlow S l t).1 b = S.1 b := by
  unfold cBlow aBlow
  split <;> simp [uR_1, uI_1, h2, h6]
theorem dB_r {l t b : Nat} {L : List Nat} (h2 : b ≠ 2) (h6 : b ≠ 6) (h11 : b ≠ 11) (h12 : b ≠ 12) : (uR (dBlow S l t) 12 L).1 b = S.1 b := by
  rw [uR_1, if_neg h12, dBlow, uR_1, if_neg h11, cB_r h2 h6]
theorem dB_2 {l t : Nat} {L : List Nat} : (uR (dBlow S l t) 12 L).1 2 = (S.1 2).set l ((S.1 2).getD l 0 - cost S l t) := by
  show (cBlow S l t).1 2 = _
  unfold cBlow aBlow
  split <;> rfl
theorem dB_12 {l t : Nat} : (dBlow S l t).1 12 = S.1 12 := by
  show (cBlow S l t).1 12 = _
  exact cB_r (by decide) (by decide)
theorem s_X5_blow (h : RX G Λ ρ (sS σ a S) M) (ha : a < 11) (hs : Sm S) (hd : ∀ x ∈ S.1 8, x < 8) (hw : ∀ x ∈ S.1 0, x < 448) {l t : Nat} (hl : l < 7) (ht : t < 7) (hc : cost S l t ≤ (S.1 2).getD l 0) (hQ : ∀ M', RX G Λ ρ (sS σ a (fBlow S l t)) M' → Q (some (.int (nI (((S.1 2).set l ((S.1 2).getD l 0 - cost S l t)).getD l 0)))) M')  : MS G yX5_blow cX5_blow 5 (some .int) (d + 4) 0 0 [.ref (Λ (1, a, 0)), .int (nI l), .int (nI t)] M Q QX := by
  have hwt : gWd S t < 448 := getD_all (by decide) hw t
  have loop : ∀ (m : Nat) j (M1 : Me), m = 4 - j → j ≤ 4 → RX G Λ ρ (sS σ a (uR (dBlow S l t) 12 (eBlow S l t j))) M1 → AW G (wX G yX5_blow cX5_blow 5 (some .int) 0 0 Q QX) (d + 4) 0 0 64 [some (.ref (Λ (1, a, 0))), some (.int (nI l)), some (.int (nI t)), some (.int (nI (snd S l t))), some (.int (nI j))] [] M1 := by
    intro m
    induction m using Nat.strongRecOn with
    | _ m ih =>
    intro j M1 hm hj h1
    subst hm
    refine r_iload (q := 66) dX5_blow_64 rfl rfl ?_
    refine r_iconst (v := nI 4) (q := 67) dX5_blow_66 (by decide) rfl ?_
    refine r_icmp_ge (t := 127) (q := 70) dX5_blow_67 rfl rfl (fun c67 => ?_) (fun c67 => ?_)
    · simp (disch := omega) only [nI_leI, nI_ltI, nI_eq, nI_lt0, nI_ge0, nI_gt0, nI_le0, nI_eq0] at c67
      obtain rfl : j = 4 := by omega
      refine r_aload_n (q := 128) dX5_blow_127 rfl rfl ?_
      refine r_get (q := 131) (kk := 2) (h1.st ha) rfl wi_RX5 (by decide) rfl fk_X5_23 rfl dX5_blow_128 rfl ?_
      refine r_iload_n (q := 132) dX5_blow_131 rfl rfl ?_
      refine r_cV (q := 135) (As := [.int _]) wc_X5_94 rfl im_X2_at se_X2_at (h1.row (wRs ha (by decide))) rfl rfl (Nat.le_of_ble_eq_true rfl) (Nat.le_of_eq (Nat.zero_add _)) (Nat.le_of_eq (Nat.zero_add _)) dX5_blow_132 rfl rfl (t_atN h1 (wRs ha (by decide)) (by omega) ?_)
      rw [dB_2]
      refine r_iret dX5_blow_135 ?_
      exact hQ _ h1
    · simp (disch := omega) only [nI_leI, nI_ltI, nI_eq, nI_lt0, nI_ge0, nI_gt0, nI_le0, nI_eq0] at c67
      have h8 : (S.1 8).getD j 0 < 8 := getD_all (by decide) hd j
      have h9 := hs.lt (by decide : 9 < 13) j
      have h9b : (S.1 9).getD j 0 / 2 ^ l < 2 ^ 31 := Nat.lt_of_le_of_lt (Nat.div_le_self _ _) (by omega)
      have hst : eBlow S l t (j + 1) = eStep S l t (eBlow S l t j) j := foldr_s
      refine r_aload_n (q := 71) dX5_blow_70 rfl rfl ?_
      refine r_get (q := 74) (kk := 8) (h1.st ha) rfl wi_RX5 (by decide) rfl fk_X5_41 rfl dX5_blow_71 rfl ?_
      refine r_iload (q := 76) dX5_blow_74 rfl rfl ?_
      refine r_cV (q := 79) (As := [.int _]) wc_X5_94 rfl im_X2_at se_X2_at (h1.row (wRs ha (by decide))) rfl rfl (Nat.le_of_ble_eq_true rfl) (Nat.le_of_eq (Nat.zero_add _)) (Nat.le_of_eq (Nat.zero_add _)) dX5_blow_76 rfl rfl (t_atN h1 (wRs ha (by decide)) (by omega) ?_)
      rw [dB_r (by decide) (by decide) (by decide) (by decide)]
      refine r_if_le (t := 121) (q := 82) dX5_blow_79 rfl rfl (fun c79 => ?_) (fun c79 => ?_)
      · simp (disch := omega) only [nI_leI, nI_ltI, nI_eq, nI_lt0, nI_ge0, nI_gt0, nI_le0, nI_eq0] at c79
        have heq : eBlow S l t (j + 1) = eBlow S l t j := by rw [hst, eStep, if_neg (by omega)]
        refine r_inc1 (q := 124) dX5_blow_121 rfl (Nat.le_of_ble_eq_true rfl) rfl rfl ?_
        show AW _ (_, _, _, _, _, _, _, _, _) _ _ _ _ [some _, some _, some _, some _, some _] _ _
        refine r_goto (t := 64) dX5_blow_124 rfl ?_
        exact ih (4 - (j + 1)) (by omega) (j + 1) M1 rfl (by omega) (by rw [heq]; exact h1)
      · simp (disch := omega) only [nI_leI, nI_ltI, nI_eq, nI_lt0, nI_ge0, nI_gt0, nI_le0, nI_eq0] at c79
        refine r_aload_n (q := 83) dX5_blow_82 rfl rfl ?_
        refine r_get (q := 86) (kk := 9) (h1.st ha) rfl wi_RX5 (by decide) rfl fk_X5_44 rfl dX5_blow_83 rfl ?_
        refine r_iload (q := 88) dX5_blow_86 rfl rfl ?_
        refine r_cV (q := 91) (As := [.int _]) wc_X5_94 rfl im_X2_at se_X2_at (h1.row (wRs ha (by decide))) rfl rfl (Nat.le_of_ble_eq_true rfl) (Nat.le_of_eq (Nat.zero_add _)) (Nat.le_of_eq (Nat.zero_add _)) dX5_blow_88 rfl rfl (t_atN h1 (wRs ha (by decide)) (by omega) ?_)
        rw [dB_r (by decide) (by decide) (by decide) (by decide)]
        refine r_iload_n (q := 92) dX5_blow_91 rfl rfl ?_
        refine r_ishr (q := 93) dX5_blow_92 rfl ?_
        rw [n_shr (by omega) (by omega)]
        refine r_iconst (v := nI 1) (q := 94) dX5_blow_93 (by decide) rfl ?_
        refine r_iand (q := 95) dX5_blow_94 rfl ?_
        rw [n_and (w := (S.1 9).getD j 0 / 2 ^ l) (by omega) 1 1 (by decide)]
        refine r_iconst (v := nI 1) (q := 96) dX5_blow_95 (by decide) rfl ?_
        refine r_icmp_ne (t := 121) (q := 99) dX5_blow_96 rfl rfl (fun c96 => ?_) (fun c96 => ?_)
        · simp (disch := omega) only [nI_leI, nI_ltI, nI_eq, nI_lt0, nI_ge0, nI_gt0, nI_le0, nI_eq0] at c96
          have heq : eBlow S l t (j + 1) = eBlow S l t j := by rw [hst, eStep, if_neg (by omega)]
          refine r_inc1 (q := 124) dX5_blow_121 rfl (Nat.le_of_ble_eq_true rfl) rfl rfl ?_
          show AW _ (_, _, _, _, _, _, _, _, _) _ _ _ _ [some _, some _, some _, some _, some _] _ _
          refine r_goto (t := 64) dX5_blow_124 rfl ?_
          exact ih (4 - (j + 1)) (by omega) (j + 1) M1 rfl (by omega) (by rw [heq]; exact h1)
        · simp (disch := omega) only [nI_leI, nI_ltI, nI_eq, nI_lt0, nI_ge0, nI_gt0, nI_le0, nI_eq0] at c96
          refine r_aload_n (q := 100) dX5_blow_99 rfl rfl ?_
          refine r_get (q := 103) (kk := 12) (h1.st ha) rfl wi_RX5 (by decide) rfl fk_X5_53 rfl dX5_blow_100 rfl ?_
          refine r_iload_n (q := 104) dX5_blow_103 rfl rfl ?_
          refine r_iload (q := 106) dX5_blow_104 rfl rfl ?_
          refine r_aload_n (q := 107) dX5_blow_106 rfl rfl ?_
          refine r_get (q := 110) (kk := 8) (h1.st ha) rfl wi_RX5 (by decide) rfl fk_X5_41 rfl dX5_blow_107 rfl ?_
          refine r_iload (q := 112) dX5_blow_110 rfl rfl ?_
          refine r_cV (q := 115) (As := [.int _]) wc_X5_94 rfl im_X2_at se_X2_at (h1.row (wRs ha (by decide))) rfl rfl (Nat.le_of_ble_eq_true rfl) (Nat.le_of_eq (Nat.zero_add _)) (Nat.le_of_eq (Nat.zero_add _)) dX5_blow_112 rfl rfl (t_atN h1 (wRs ha (by decide)) (by omega) ?_)
          rw [dB_r (by decide) (by decide) (by decide) (by decide)]
          refine r_cS (q := 118) (As := [.int _, .int _, .int _]) wc_X5_117 st_X4_echo rfl (Nat.le_of_ble_eq_true rfl) (Nat.le_of_eq (Nat.zero_add _)) (Nat.le_of_eq (Nat.zero_add _)) dX5_blow_115 rfl rfl ((show nI (snd S l t) = nI (t + 8 * l + 512 * gWd S t) from rfl) ▸ s_X4_echo (lo := t + 8 * l) (w := gWd S t) (by omega) (by omega) (by omega) h8 ?_)
          refine r_cV (q := 121) (As := [.int _]) wc_X5_114 rfl im_X2_add se_X2_add (h1.row (wRs ha (by decide))) rfl rfl (Nat.le_of_ble_eq_true rfl) (Nat.le_of_eq (Nat.zero_add _)) (Nat.le_of_eq (Nat.zero_add _)) dX5_blow_118 rfl rfl (t_add h1 (wRs ha (by decide)) rfl (show t + 8 * l + 64 * (j + 1) + 512 * gWd S t + 262144 * (S.1 8).getD j 0 < 2 ^ 31 by omega) fun M_118 h1_118 => ?_)
          refine r_inc1 (q := 124) dX5_blow_121 rfl (Nat.le_of_ble_eq_true rfl) rfl rfl ?_
          show AW _ (_, _, _, _, _, _, _, _, _) _ _ _ _ [some _, some _, some _, some _, some _] _ _
          refine r_goto (t := 64) dX5_blow_124 rfl ?_
          refine ih (4 - (j + 1)) (by omega) (j + 1) M_118 rfl (by omega) (h1_118.cong (fun b hb => ?_) (fun _ _ => rfl) ha)
          rw [hst, eStep, if_pos ⟨by omega, by omega⟩]
          have hz : wLen a 12 = 140 := by simp [wLen, ha]
          rw [uR_1, uR_1, uR_1, hz]
          by_cases e : b = 12
          · rw [if_pos e, if_pos e]
            show rAdd 140 (eBlow S l t j) _ = rAdd 140 (eBlow S l t j) _
            congr 1
            unfold snd
            omega
          · rw [if_neg e, if_neg e, uR_1, if_neg e]
  have join : ∀ (M1 : Me) (v : Option Value), RX G Λ ρ (sS σ a (cBlow S l t)) M1 → AW G (wX G yX5_blow cX5_blow 5 (some .int) 0 0 Q QX) (d + 4) 0 0 39 [some (.ref (Λ (1, a, 0))), some (.int (nI l)), some (.int (nI t)), none, none] [] M1 := by
    intro M1 v h1
    refine r_iload_n (q := 40) dX5_blow_39 rfl rfl ?_
    refine r_iload_n (q := 41) dX5_blow_40 rfl rfl ?_
    refine r_aload_n (q := 42) dX5_blow_41 rfl rfl ?_
    refine r_get (q := 45) (kk := 0) (h1.st ha) rfl wi_RX5 (by decide) rfl fk_X5_14 rfl dX5_blow_42 rfl ?_
    refine r_iload_n (q := 46) dX5_blow_45 rfl rfl ?_
    refine r_cV (q := 49) (As := [.int _]) wc_X5_94 rfl im_X2_at se_X2_at (h1.row (wRs ha (by decide))) rfl rfl (Nat.le_of_ble_eq_true rfl) (Nat.le_of_eq (Nat.zero_add _)) (Nat.le_of_eq (Nat.zero_add _)) dX5_blow_46 rfl rfl (t_atN h1 (wRs ha (by decide)) (by omega) ?_)
    rw [cB_r (by decide) (by decide)]
    refine r_cS (q := 52) (As := [.int _, .int _, .int _]) wc_X5_108 st_X4_of rfl (Nat.le_of_ble_eq_true rfl) (Nat.le_of_eq (Nat.zero_add _)) (Nat.le_of_eq (Nat.zero_add _)) dX5_blow_49 rfl rfl (s_X4_of (by omega) (by omega) (show gWd S t < 512 by omega) ?_)
    refine r_istore_n (q := 53) dX5_blow_52 (Nat.le_of_ble_eq_true rfl) rfl rfl ?_
    show AW _ (_, _, _, _, _, _, _, _, _) _ _ _ _ [some _, some _, some _, some _, _] _ _
    refine r_aload_n (q := 54) dX5_blow_53 rfl rfl ?_
    refine r_get (q := 57) (kk := 11) (h1.st ha) rfl wi_RX5 (by decide) rfl fk_X5_50 rfl dX5_blow_54 rfl ?_
    refine r_iload_n (q := 58) dX5_blow_57 rfl rfl ?_
    refine r_cV (q := 61) (As := [.int _]) wc_X5_114 rfl im_X2_add se_X2_add (h1.row (wRs ha (by decide))) rfl rfl (Nat.le_of_ble_eq_true rfl) (Nat.le_of_eq (Nat.zero_add _)) (Nat.le_of_eq (Nat.zero_add _)) dX5_blow_58 rfl rfl (t_add h1 (wRs ha (by decide)) rfl (show snd S l t < 2 ^ 31 by unfold snd; omega) fun M2 h2 => ?_)
    replace h3 : RX G Λ ρ (sS σ a (dBlow S l t)) M2 := by
      have hz : wLen a 11 = 147 := by simp [wLen, ha]
      rw [dBlow, ← hz, ← cB_r (S := S) (l := l) (t := t) (b := 11) (by decide) (by decide)]
      exact h2
    refine r_iconst (v := nI 0) (q := 62) dX5_blow_61 (by decide) rfl ?_
    refine r_istore (q := 64) dX5_blow_62 (Nat.le_of_ble_eq_true rfl) rfl rfl ?_
    show AW _ (_, _, _, _, _, _, _, _, _) _ _ _ _ [some _, some _, some _, some _, some _] _ _
    exact loop _ 0 _ rfl (by omega) (by rw [show uR (dBlow S l t) 12 (eBlow S l t 0) = dBlow S l t from by rw [show eBlow S l t 0 = (dBlow S l t).1 12 from dB_12.symm]; exact uR_self]; exact h3)
  refine MS.of (by decide) (by simp [Value.category]) (Nat.le_of_ble_eq_true rfl) ?_
  show AW _ (_, _, _, _, _, _, _, _, _) _ _ _ _ [some _, some _, some _, _, _] _ _
  have h2 := t_lt h (wRs ha (by decide : 2 < 13)) l
  have h6 := hs.lt (by decide : 6 < 13) l
  refine r_aload_n (q := 1) dX5_blow_0 rfl rfl ?_
  refine r_get (q := 4) (kk := 2) (h.st ha) rfl wi_RX5 (by decide) rfl fk_X5_23 rfl dX5_blow_1 rfl ?_
  refine r_iload_n (q := 5) dX5_blow_4 rfl rfl ?_
  refine r_aload_n (q := 6) dX5_blow_5 rfl rfl ?_
  refine r_iload_n (q := 7) dX5_blow_6 rfl rfl ?_
  refine r_iload_n (q := 8) dX5_blow_7 rfl rfl ?_
  refine r_cV (q := 11) (As := [.int _, .int _]) wc_X5_101 rfl im_X5_steamToBlow se_X5_steamToBlow (h.st ha) rfl rfl (Nat.le_of_ble_eq_true rfl) (Nat.le_of_eq (Nat.zero_add _)) (Nat.le_of_eq (Nat.zero_add _)) dX5_blow_8 rfl rfl (s_X5_steamToBlow h ha hl ht ?_)
  refine r_ineg (q := 12) dX5_blow_11 rfl ?_
  refine r_cV (q := 15) (As := [.int _, .int _]) wc_X5_105 rfl im_X2_raise se_X2_raise (h.row (wRs ha (by decide))) rfl rfl (Nat.le_of_ble_eq_true rfl) (Nat.le_of_eq (Nat.zero_add _)) (Nat.le_of_eq (Nat.zero_add _)) dX5_blow_12 rfl rfl (t_raiseN h (wRs ha (by decide)) (by omega) (n_neg _ _ hc) (Nat.lt_of_le_of_lt (Nat.sub_le _ _) h2) fun M_12 h_12 => ?_)
  refine r_aload_n (q := 16) dX5_blow_15 rfl rfl ?_
  refine r_dup (q := 17) dX5_blow_16 rfl rfl ?_
  refine r_get (q := 20) (kk := 14) (h_12.st ha) rfl wi_RX5 (by decide) rfl fk_X5_60 rfl dX5_blow_17 rfl ?_
  rw [gI_s, uR_2]
  refine r_iconst (v := nI 1) (q := 21) dX5_blow_20 (by decide) rfl ?_
  refine r_iadd (q := 22) dX5_blow_21 rfl ?_
  rw [n_add]
  refine r_p5 (q := 25) (kk := 14) (j := 1) h_12 ha (by decide) rfl fk_X5_60 dX5_blow_22 rfl fun M_22 h_22 => ?_
  refine r_iload_n (q := 26) dX5_blow_25 rfl rfl ?_
  refine r_iload_n (q := 27) dX5_blow_26 rfl rfl ?_
  refine r_icmp_eq (t := 39) (q := 30) dX5_blow_27 rfl rfl (fun c27 => ?_) (fun c27 => ?_)
  · simp (disch := omega) only [nI_leI, nI_ltI, nI_eq, nI_lt0, nI_ge0, nI_gt0, nI_le0, nI_eq0] at c27
    refine join M_22 none ?_
    rw [cBlow, if_pos c27]
    exact h_22
  · simp (disch := omega) only [nI_leI, nI_ltI, nI_eq, nI_lt0, nI_ge0, nI_gt0, nI_le0, nI_eq0] at c27
    refine r_aload_n (q := 31) dX5_blow_30 rfl rfl ?_
    refine r_get (q := 34) (kk := 6) (h_22.st ha) rfl wi_RX5 (by decide) rfl fk_X5_35 rfl dX5_blow_31 rfl ?_
    refine r_iload_n (q := 35) dX5_blow_34 rfl rfl ?_
    refine r_iconst (v := nI 1) (q := 36) dX5_blow_35 (by decide) rfl ?_
    refine r_cV (q := 39) (As := [.int _, .int _]) wc_X5_105 rfl im_X2_raise se_X2_raise (h_22.row (wRs ha (by decide))) rfl rfl (Nat.le_of_ble_eq_true rfl) (Nat.le_of_eq (Nat.zero_add _)) (Nat.le_of_eq (Nat.zero_add _)) dX5_blow_36 rfl rfl (t_raiseN h_22 (wRs ha (by decide)) (by omega) (n_add _ 1) (show (S.1 6).getD l 0 + 1 < 2 ^ 31 by omega) fun M_36 h_36 => ?_)
    refine join M_36 none ?_
    rw [cBlow, if_neg c27]
    exact h_36
theorem eI_s (p : Nat) : eI (p + 1) = nI p := by rw [eI, n_sub (by omega)]; rfl
theorem le_eI {p e : Nat} (hp : p < 2 ^ 30) (he : e ≤ 2 ^ 30) : nI p ≤ eI e ↔ p < e := by
  cases e with
  | zero =>
    refine ⟨fun h => ?_, fun h => absurd h (by omega)⟩
    have h1 : nI p < 0 := Int32.lt_of_le_of_lt h (by decide)
    exact absurd h1 (nI_pos (by omega))
  | succ e => rw [eI_s, nI_leI (by omega) (by omega)]; omega
def wStp (S : St) (x : Nat × Int32) (s : Nat) : Nat × Int32 := if dX s = false ∧ x.1 ≤ (S.1 1).getD (dT s) 0 then ((S.1 1).getD (dT s) 0 + 1, if dE s = 0 then nI (dW s) else -2) else x
def gWay (S : St) : Int32 := ((S.1 11).foldl (wStp S) (0, -1)).2
theorem wStp_lt {L : List Nat} (hs : Sm S) : ∀ x : Nat × Int32, x.1 ≤ 2 ^ 30 → (L.foldl (wStp S) x).1 ≤ 2 ^ 30 := by
  induction L with
  | nil => exact fun x h => h
  | cons s L ih =>
    intro x hx
    refine ih _ ?_
    unfold wStp
    split
    · have := hs.lt (by decide : 1 < 13) (dT s)
      show (S.1 1).getD (dT s) 0 + 1 ≤ _
      omega
    · exact hx
theorem wStp_c {L : List Nat} : ∀ x : Nat × Int32, (x.2 = -1 ∨ x.2 = -2 ∨ ∃ p, p < 8 ∧ x.2 = nI p) → ((L.foldl (wStp S) x).2 = -1 ∨ (L.foldl (wStp S) x).2 = -2 ∨ ∃ p, p < 8 ∧ (L.foldl (wStp S) x).2 = nI p) := by
  induction L with
  | nil => exact fun x h => h
  | cons s L ih =>
    intro x hx
    refine ih _ ?_
    unfold wStp
    split
    · dsimp only
      split
      · exact Or.inr (Or.inr ⟨_, dW_lt s, rfl⟩)
      · exact Or.inr (Or.inl rfl)
    · exact hx
theorem gWay_c : gWay S = -1 ∨ gWay S = -2 ∨ ∃ p, p < 8 ∧ gWay S = nI p := wStp_c _ (Or.inl rfl)
theorem s_X5_wayGoesTo (h : RX G Λ ρ (sS σ a S) M) (ha : a < 11) (hs : Sm S) (hQ : Q (some (.int (gWay S))) M)  : MS G yX5_wayGoesTo cX5_wayGoesTo 6 (some .int) (d + 1) 0 0 [.ref (Λ (1, a, 0))] M Q QX := by
  have loop : ∀ (m : Nat) j u v, m = (S.1 11).length - j → j ≤ (S.1 11).length → AW G (wX G yX5_wayGoesTo cX5_wayGoesTo 6 (some .int) 0 0 Q QX) (d + 1) 0 0 6 [some (.ref (Λ (1, a, 0))), some (.int (eI (((S.1 11).take j).foldl (wStp S) (0, -1)).1)), some (.int (((S.1 11).take j).foldl (wStp S) (0, -1)).2), some (.int (nI j)), u, v] [] M := by
    intro m
    induction m using Nat.strongRecOn with
    | _ m ih =>
    intro j u v hm hj
    subst hm
    have hlen := h.lenS (wRs ha (by decide : 11 < 13))
    refine r_iload_n (q := 7) dX5_wayGoesTo_6 rfl rfl ?_
    refine r_aload_n (q := 8) dX5_wayGoesTo_7 rfl rfl ?_
    refine r_get (q := 11) (kk := 11) (h.st ha) rfl wi_RX5 (by decide) rfl fk_X5_50 rfl dX5_wayGoesTo_8 rfl ?_
    refine r_cV (q := 14) (As := []) wc_X5_143 rfl im_X2_size se_X2_size (h.row (wRs ha (by decide))) rfl rfl (Nat.le_of_ble_eq_true rfl) (Nat.le_of_eq (Nat.zero_add _)) (Nat.le_of_eq (Nat.zero_add _)) dX5_wayGoesTo_11 rfl rfl (t_size h (wRs ha (by decide)) ?_)
    refine r_icmp_ge (t := 83) (q := 17) dX5_wayGoesTo_14 rfl rfl (fun c14 => ?_) (fun c14 => ?_)
    · simp (disch := omega) only [nI_leI, nI_ltI, nI_eq, nI_lt0, nI_ge0, nI_gt0, nI_le0, nI_eq0] at c14
      refine r_iload_n (q := 84) dX5_wayGoesTo_83 rfl rfl ?_
      refine r_iret dX5_wayGoesTo_84 ?_
      rw [List.take_of_length_le c14]
      exact hQ
    · simp (disch := omega) only [nI_leI, nI_ltI, nI_eq, nI_lt0, nI_ge0, nI_gt0, nI_le0, nI_eq0] at c14
      replace c14 := Nat.lt_of_not_le c14
      have hT := dT_lt ((S.1 11).getD j 0)
      have hp := hs.lt (by decide : 1 < 13) (dT ((S.1 11).getD j 0))
      have hF := wStp_lt (L := (S.1 11).take j) hs (0, -1) (by decide)
      have hst0 : (((S.1 11).take (j + 1)).foldl (wStp S) (0, -1)) = wStp S (((S.1 11).take j).foldl (wStp S) (0, -1)) ((S.1 11).getD j 0) := foldl_s c14
      refine r_aload_n (q := 18) dX5_wayGoesTo_17 rfl rfl ?_
      refine r_get (q := 21) (kk := 11) (h.st ha) rfl wi_RX5 (by decide) rfl fk_X5_50 rfl dX5_wayGoesTo_18 rfl ?_
      refine r_iload_n (q := 22) dX5_wayGoesTo_21 rfl rfl ?_
      refine r_cV (q := 25) (As := [.int _]) wc_X5_94 rfl im_X2_at se_X2_at (h.row (wRs ha (by decide))) rfl rfl (Nat.le_of_ble_eq_true rfl) (Nat.le_of_eq (Nat.zero_add _)) (Nat.le_of_eq (Nat.zero_add _)) dX5_wayGoesTo_22 rfl rfl (t_atN h (wRs ha (by decide)) (by omega) ?_)
      refine r_istore (q := 27) dX5_wayGoesTo_25 (Nat.le_of_ble_eq_true rfl) rfl rfl ?_
      show AW _ (_, _, _, _, _, _, _, _, _) _ _ _ _ [some _, some _, some _, some _, some _, _] _ _
      refine r_aload_n (q := 28) dX5_wayGoesTo_27 rfl rfl ?_
      refine r_get (q := 31) (kk := 1) (h.st ha) rfl wi_RX5 (by decide) rfl fk_X5_20 rfl dX5_wayGoesTo_28 rfl ?_
      refine r_iload (q := 33) dX5_wayGoesTo_31 rfl rfl ?_
      refine r_cS (q := 36) (As := [.int _]) wc_X5_158 st_X4_told rfl (Nat.le_of_ble_eq_true rfl) (Nat.le_of_eq (Nat.zero_add _)) (Nat.le_of_eq (Nat.zero_add _)) dX5_wayGoesTo_33 rfl rfl (s_X4_told (t_lt h (wRs ha (by decide)) _) ?_)
      refine r_cV (q := 39) (As := [.int _]) wc_X5_94 rfl im_X2_at se_X2_at (h.row (wRs ha (by decide))) rfl rfl (Nat.le_of_ble_eq_true rfl) (Nat.le_of_eq (Nat.zero_add _)) (Nat.le_of_eq (Nat.zero_add _)) dX5_wayGoesTo_36 rfl rfl (t_atN h (wRs ha (by decide)) (by omega) ?_)
      refine r_istore (q := 41) dX5_wayGoesTo_39 (Nat.le_of_ble_eq_true rfl) rfl rfl ?_
      show AW _ (_, _, _, _, _, _, _, _, _) _ _ _ _ [some _, some _, some _, some _, some _, some _] _ _
      refine r_iload (q := 43) dX5_wayGoesTo_41 rfl rfl ?_
      refine r_cS (q := 46) (As := [.int _]) wc_X5_161 st_X4_isExposed rfl (Nat.le_of_ble_eq_true rfl) (Nat.le_of_eq (Nat.zero_add _)) (Nat.le_of_eq (Nat.zero_add _)) dX5_wayGoesTo_43 rfl rfl (s_X4_isExposed (t_lt h (wRs ha (by decide)) _) ?_)
      refine r_if_ne (t := 77) (q := 49) dX5_wayGoesTo_46 rfl rfl (fun c46 => ?_) (fun c46 => ?_)
      · have hst : (((S.1 11).take (j + 1)).foldl (wStp S) (0, -1)) = (((S.1 11).take j).foldl (wStp S) (0, -1)) := by rw [hst0, wStp, if_neg (fun g => by rw [bI_ne c46] at g; cases g.1)]
        refine r_inc1 (q := 80) dX5_wayGoesTo_77 rfl (Nat.le_of_ble_eq_true rfl) rfl rfl ?_
        show AW _ (_, _, _, _, _, _, _, _, _) _ _ _ _ [some _, some _, some _, some _, some _, some _] _ _
        refine r_goto (t := 6) dX5_wayGoesTo_80 rfl ?_
        have go := fun u v => ih ((S.1 11).length - (j + 1)) (by omega) (j + 1) u v rfl (by omega)
        rw [hst] at go
        exact go _ _
      · replace c46 := bI_eq0.mp c46
        refine r_iload (q := 51) dX5_wayGoesTo_49 rfl rfl ?_
        refine r_iload_n (q := 52) dX5_wayGoesTo_51 rfl rfl ?_
        refine r_icmp_le (t := 77) (q := 55) dX5_wayGoesTo_52 rfl rfl (fun c52 => ?_) (fun c52 => ?_)
        · rw [le_eI hp (by omega)] at c52
          have hst : (((S.1 11).take (j + 1)).foldl (wStp S) (0, -1)) = (((S.1 11).take j).foldl (wStp S) (0, -1)) := by rw [hst0, wStp, if_neg (fun g => by omega)]
          refine r_inc1 (q := 80) dX5_wayGoesTo_77 rfl (Nat.le_of_ble_eq_true rfl) rfl rfl ?_
          show AW _ (_, _, _, _, _, _, _, _, _) _ _ _ _ [some _, some _, some _, some _, some _, some _] _ _
          refine r_goto (t := 6) dX5_wayGoesTo_80 rfl ?_
          have go := fun u v => ih ((S.1 11).length - (j + 1)) (by omega) (j + 1) u v rfl (by omega)
          rw [hst] at go
          exact go _ _
        · rw [le_eI hp (by omega)] at c52
          have hst : (((S.1 11).take (j + 1)).foldl (wStp S) (0, -1)) = ((S.1 1).getD (dT ((S.1 11).getD j 0)) 0 + 1, if dE ((S.1 11).getD j 0) = 0 then nI (dW ((S.1 11).getD j 0)) else -2) := by rw [hst0, wStp, if_pos ⟨c46, by omega⟩]
          rw [← eI_s ((S.1 1).getD (dT ((S.1 11).getD j 0)) 0)]
          refine r_iload (q := 57) dX5_wayGoesTo_55 rfl rfl ?_
          refine r_istore_n (q := 58) dX5_wayGoesTo_57 (Nat.le_of_ble_eq_true rfl) rfl rfl ?_
          show AW _ (_, _, _, _, _, _, _, _, _) _ _ _ _ [some _, some _, some _, some _, some _, some _] _ _
          refine r_iload (q := 60) dX5_wayGoesTo_58 rfl rfl ?_
          refine r_cS (q := 63) (As := [.int _]) wc_X5_152 st_X4_echoer rfl (Nat.le_of_ble_eq_true rfl) (Nat.le_of_eq (Nat.zero_add _)) (Nat.le_of_eq (Nat.zero_add _)) dX5_wayGoesTo_60 rfl rfl (s_X4_echoer (t_lt h (wRs ha (by decide)) _) ?_)
          refine r_if_ge (t := 74) (q := 66) dX5_wayGoesTo_63 rfl rfl (fun c63 => ?_) (fun c63 => ?_)
          · rw [if_neg (fun e => absurd ((eI_neg (dE_lt _)).mpr e) (Int32.not_lt.mpr c63))] at hst
            refine r_bipush (v := (-2)) (q := 76) dX5_wayGoesTo_74 (by decide) rfl ?_
            refine r_istore_n (q := 77) dX5_wayGoesTo_76 (Nat.le_of_ble_eq_true rfl) rfl rfl ?_
            show AW _ (_, _, _, _, _, _, _, _, _) _ _ _ _ [some _, some _, some _, some _, some _, some _] _ _
            refine r_inc1 (q := 80) dX5_wayGoesTo_77 rfl (Nat.le_of_ble_eq_true rfl) rfl rfl ?_
            show AW _ (_, _, _, _, _, _, _, _, _) _ _ _ _ [some _, some _, some _, some _, some _, some _] _ _
            refine r_goto (t := 6) dX5_wayGoesTo_80 rfl ?_
            have go := fun u v => ih ((S.1 11).length - (j + 1)) (by omega) (j + 1) u v rfl (by omega)
            rw [hst] at go
            exact go _ _
          · rw [if_pos ((eI_neg (dE_lt _)).mp (Int32.not_le.mp c63))] at hst
            refine r_iload (q := 68) dX5_wayGoesTo_66 rfl rfl ?_
            refine r_cS (q := 71) (As := [.int _]) wc_X5_165 st_X4_whistler rfl (Nat.le_of_ble_eq_true rfl) (Nat.le_of_eq (Nat.zero_add _)) (Nat.le_of_eq (Nat.zero_add _)) dX5_wayGoesTo_68 rfl rfl (s_X4_whistler (t_lt h (wRs ha (by decide)) _) ?_)
            refine r_goto (t := 76) dX5_wayGoesTo_71 rfl ?_
            refine r_istore_n (q := 77) dX5_wayGoesTo_76 (Nat.le_of_ble_eq_true rfl) rfl rfl ?_
            show AW _ (_, _, _, _, _, _, _, _, _) _ _ _ _ [some _, some _, some _, some _, some _, some _] _ _
            refine r_inc1 (q := 80) dX5_wayGoesTo_77 rfl (Nat.le_of_ble_eq_true rfl) rfl rfl ?_
            show AW _ (_, _, _, _, _, _, _, _, _) _ _ _ _ [some _, some _, some _, some _, some _, some _] _ _
            refine r_goto (t := 6) dX5_wayGoesTo_80 rfl ?_
            have go := fun u v => ih ((S.1 11).length - (j + 1)) (by omega) (j + 1) u v rfl (by omega)
            rw [hst] at go
            exact go _ _
  refine MS.of (by decide) (by simp [Value.category]) (Nat.le_of_ble_eq_true rfl) ?_
  show AW _ (_, _, _, _, _, _, _, _, _) _ _ _ _ [some _, _, _, _, _, _] _ _
  refine r_iconst (v := (-1)) (q := 1) dX5_wayGoesTo_0 (by decide) rfl ?_
  refine r_istore_n (q := 2) dX5_wayGoesTo_1 (Nat.le_of_ble_eq_true rfl) rfl rfl ?_
  show AW _ (_, _, _, _, _, _, _, _, _) _ _ _ _ [some _, some _, _, _, _, _] _ _
  refine r_iconst (v := (-1)) (q := 3) dX5_wayGoesTo_2 (by decide) rfl ?_
  refine r_istore_n (q := 4) dX5_wayGoesTo_3 (Nat.le_of_ble_eq_true rfl) rfl rfl ?_
  show AW _ (_, _, _, _, _, _, _, _, _) _ _ _ _ [some _, some _, some _, _, _, _] _ _
  refine r_iconst (v := nI 0) (q := 5) dX5_wayGoesTo_4 (by decide) rfl ?_
  refine r_istore_n (q := 6) dX5_wayGoesTo_5 (Nat.le_of_ble_eq_true rfl) rfl rfl ?_
  show AW _ (_, _, _, _, _, _, _, _, _) _ _ _ _ [some _, some _, some _, some _, _, _] _ _
  exact loop _ 0 none none rfl (by omega)
def hStp (T : List Nat × List Nat × List Nat) (x : Nat) : List Nat × List Nat × List Nat := if dH (x - 262144) = 0 then (rAdd 147 T.1 (x - 262144), T.2.1.set (dE x - 1) (T.2.1.getD (dE x - 1) 0 + 1), T.2.2) else (T.1, T.2.1, T.2.2 ++ [x - 262144])
def gHr (S : St) (L : List Nat) : List Nat × List Nat × List Nat := L.foldl hStp ([], S.1 10, [])
def fTr (S : St) (T : List Nat × List Nat × List Nat) (R : List Nat) : St := uR (uR (uR S 11 T.1) 10 T.2.1) 12 R
def fHear (S : St) : St := fTr S (gHr S (S.1 12)) (gHr S (S.1 12)).2.2
theorem hStp_len {L : List Nat} : ∀ T : List Nat × List Nat × List Nat, (L.foldl hStp T).2.2.length ≤ T.2.2.length + L.length := by
  induction L with
  | nil => intro T; simp
  | cons x L ih =>
    intro T
    have h1 := ih (hStp T x)
    have h2 : (hStp T x).2.2.length ≤ T.2.2.length + 1 := by
      unfold hStp
      split <;> simp
    simp only [List.foldl_cons, List.length_cons] at h1 ⊢
    omega
theorem hStp_10 {L : List Nat} {n : Nat} (hn : 0 < n) : ∀ T : List Nat × List Nat × List Nat, (∀ x ∈ T.2.1, x < n) → ∀ x ∈ (L.foldl hStp T).2.1, x < n + L.length := by
  induction L generalizing n with
  | nil => intro T h x hx; exact h x hx
  | cons y L ih =>
    intro T h x hx
    have h1 := ih (n := n + 1) (by omega) (hStp T y) (fun z hz => ?_) x hx
    · simp only [List.length_cons]; omega
    · unfold hStp at hz
      split at hz
      · refine set_lt (n := n + 1) (fun w hw => Nat.lt_succ_of_lt (h w hw)) ?_ z hz
        have := getD_all hn h (dE y - 1)
        omega
      · exact Nat.lt_succ_of_lt (h z hz)
theorem kdr {K E : List Nat} {j : Nat} (h : K.length ≤ j) : (K ++ E.drop K.length).getD j 0 = E.getD j 0 := by
  rw [List.getD_eq_getElem?_getD, List.getElem?_append_right h, List.getElem?_drop, List.getD_eq_getElem?_getD]
  congr 2
  omega
theorem kln {K E : List Nat} (h : K.length ≤ E.length) : (K ++ E.drop K.length).length = E.length := by
  rw [List.length_append, List.length_drop]; omega
theorem kst {K E : List Nat} {e : Nat} (h : K.length < E.length) : (K ++ E.drop K.length).set K.length e = (K ++ [e]) ++ E.drop (K ++ [e]).length := by
  rw [List.set_append_right _ _ (Nat.le_refl _), Nat.sub_self, List.drop_eq_getElem_cons h, List.set_cons_zero, List.length_append, List.append_assoc]
  rfl
theorem dE_sub (x : Nat) (h : 262144 ≤ x) : dE (x - 262144) = dE x := by unfold dE; omega
theorem s_X5_hearEchoes (h : RX G Λ ρ (sS σ a S) M) (ha : a < 11) (hs10 : ∀ x ∈ S.1 10, x < 2 ^ 30) (hs12 : ∀ x ∈ S.1 12, x < 2 ^ 30) (he : ∀ x ∈ S.1 12, 262144 ≤ x ∧ 1 ≤ dE x) (hQ : ∀ M', RX G Λ ρ (sS σ a (fHear S)) M' → Q none M')  : MS G yX5_hearEchoes cX5_hearEchoes 4 none (d + 2) 0 0 [.ref (Λ (1, a, 0))] M Q QX := by
  have loop : ∀ (m : Nat) j (M1 : Me) u (T : List Nat × List Nat × List Nat), m = (S.1 12).length - j → j ≤ (S.1 12).length → T = gHr S ((S.1 12).take j) → T.2.2.length ≤ j → RX G Λ ρ (sS σ a (fTr S T (T.2.2 ++ (S.1 12).drop T.2.2.length))) M1 → AW G (wX G yX5_hearEchoes cX5_hearEchoes 4 none 0 0 Q QX) (d + 2) 0 0 13 [some (.ref (Λ (1, a, 0))), some (.int (nI T.2.2.length)), some (.int (nI j)), u] [] M1 := by
    intro m
    induction m using Nat.strongRecOn with
    | _ m ih =>
    intro j M1 u T hm hj hT hk h1
    subst hm
    have hlen := h.lenS (wRs ha (by decide : 12 < 13))
    refine r_iload_n (q := 14) dX5_hearEchoes_13 rfl rfl ?_
    refine r_aload_n (q := 15) dX5_hearEchoes_14 rfl rfl ?_
    refine r_get (q := 18) (kk := 12) (h1.st ha) rfl wi_RX5 (by decide) rfl fk_X5_53 rfl dX5_hearEchoes_15 rfl ?_
    refine r_cV (q := 21) (As := []) wc_X5_143 rfl im_X2_size se_X2_size (h1.row (wRs ha (by decide))) rfl rfl (Nat.le_of_ble_eq_true rfl) (Nat.le_of_eq (Nat.zero_add _)) (Nat.le_of_eq (Nat.zero_add _)) dX5_hearEchoes_18 rfl rfl (t_size h1 (wRs ha (by decide)) ?_)
    rw [show (fTr S T (T.2.2 ++ (S.1 12).drop T.2.2.length)).1 12 = (T.2.2 ++ (S.1 12).drop T.2.2.length) from rfl, kln (by omega)]
    refine r_icmp_ge (t := 84) (q := 24) dX5_hearEchoes_21 rfl rfl (fun c21 => ?_) (fun c21 => ?_)
    · simp (disch := omega) only [nI_leI, nI_ltI, nI_eq, nI_lt0, nI_ge0, nI_gt0, nI_le0, nI_eq0] at c21
      refine r_aload_n (q := 85) dX5_hearEchoes_84 rfl rfl ?_
      refine r_get (q := 88) (kk := 12) (h1.st ha) rfl wi_RX5 (by decide) rfl fk_X5_53 rfl dX5_hearEchoes_85 rfl ?_
      refine r_iload_n (q := 89) dX5_hearEchoes_88 rfl rfl ?_
      refine r_cV (q := 92) (As := [.int _]) wc_X5_155 rfl im_X2_shorten se_X2_shorten (h1.row (wRs ha (by decide))) rfl rfl (Nat.le_of_ble_eq_true rfl) (Nat.le_of_eq (Nat.zero_add _)) (Nat.le_of_eq (Nat.zero_add _)) dX5_hearEchoes_89 rfl rfl (t_shorten h1 (wRs ha (by decide)) (by omega) fun M_89 h1_89 => ?_)
      refine r_vret dX5_hearEchoes_92 ?_
      refine hQ _ (h1_89.cong (fun b hb => ?_) (fun _ _ => rfl) ha)
      rw [List.take_of_length_le c21] at hT
      rw [fHear, ← hT, show (fTr S T (T.2.2 ++ (S.1 12).drop T.2.2.length)).1 12 = (T.2.2 ++ (S.1 12).drop T.2.2.length) from rfl, List.take_left]
      simp only [fTr, uR_1]
      by_cases e1 : b = 12
      · simp [e1]
      · simp [e1]
    · simp (disch := omega) only [nI_leI, nI_ltI, nI_eq, nI_lt0, nI_ge0, nI_gt0, nI_le0, nI_eq0] at c21
      replace c21 := Nat.lt_of_not_le c21
      generalize hx : (S.1 12).getD j 0 = x
      have hmem : x ∈ S.1 12 := by rw [← hx, getD_lt c21]; exact List.getElem_mem c21
      have hx0 := (he x hmem).1
      have hx1 := (he x hmem).2
      have hx2 := hs12 x hmem
      have hdE := dE_lt x
      have hdH := dH_lt (x - 262144)
      have h10 : T.2.1.getD (dE x - 1) 0 < 2 ^ 30 + (List.take j (S.1 12)).length := getD_all (by omega) (by rw [hT]; exact hStp_10 (n := 2 ^ 30) (by decide) _ hs10) _
      rw [List.length_take] at h10
      refine r_aload_n (q := 25) dX5_hearEchoes_24 rfl rfl ?_
      refine r_get (q := 28) (kk := 12) (h1.st ha) rfl wi_RX5 (by decide) rfl fk_X5_53 rfl dX5_hearEchoes_25 rfl ?_
      refine r_iload_n (q := 29) dX5_hearEchoes_28 rfl rfl ?_
      refine r_cV (q := 32) (As := [.int _]) wc_X5_94 rfl im_X2_at se_X2_at (h1.row (wRs ha (by decide))) rfl rfl (Nat.le_of_ble_eq_true rfl) (Nat.le_of_eq (Nat.zero_add _)) (Nat.le_of_eq (Nat.zero_add _)) dX5_hearEchoes_29 rfl rfl (t_atN h1 (wRs ha (by decide)) (by omega) ?_)
      rw [show (fTr S T (T.2.2 ++ (S.1 12).drop T.2.2.length)).1 12 = (T.2.2 ++ (S.1 12).drop T.2.2.length) from rfl, kdr hk, hx]
      refine r_cS (q := 35) (As := [.int _]) wc_X5_146 st_X4_anHourLater rfl (Nat.le_of_ble_eq_true rfl) (Nat.le_of_eq (Nat.zero_add _)) (Nat.le_of_eq (Nat.zero_add _)) dX5_hearEchoes_32 rfl rfl (s_X4_anHourLater hx0 ?_)
      refine r_istore_n (q := 36) dX5_hearEchoes_35 (Nat.le_of_ble_eq_true rfl) rfl rfl ?_
      show AW _ (_, _, _, _, _, _, _, _, _) _ _ _ _ [some _, some _, some _, some _] _ _
      refine r_iload_n (q := 37) dX5_hearEchoes_36 rfl rfl ?_
      refine r_cS (q := 40) (As := [.int _]) wc_X5_149 st_X4_hoursToCome rfl (Nat.le_of_ble_eq_true rfl) (Nat.le_of_eq (Nat.zero_add _)) (Nat.le_of_eq (Nat.zero_add _)) dX5_hearEchoes_37 rfl rfl (s_X4_hoursToCome (by omega) ?_)
      refine r_if_ne (t := 66) (q := 43) dX5_hearEchoes_40 rfl rfl (fun c40 => ?_) (fun c40 => ?_)
      · simp (disch := omega) only [nI_leI, nI_ltI, nI_eq, nI_lt0, nI_ge0, nI_gt0, nI_le0, nI_eq0] at c40
        refine r_aload_n (q := 67) dX5_hearEchoes_66 rfl rfl ?_
        refine r_get (q := 70) (kk := 12) (h1.st ha) rfl wi_RX5 (by decide) rfl fk_X5_53 rfl dX5_hearEchoes_67 rfl ?_
        refine r_iload_n (q := 71) dX5_hearEchoes_70 rfl rfl ?_
        refine r_iload_n (q := 72) dX5_hearEchoes_71 rfl rfl ?_
        refine r_cV (q := 75) (As := [.int _, .int _]) wc_X5_80 rfl im_X2_put se_X2_put (h1.row (wRs ha (by decide))) rfl rfl (Nat.le_of_ble_eq_true rfl) (Nat.le_of_eq (Nat.zero_add _)) (Nat.le_of_eq (Nat.zero_add _)) dX5_hearEchoes_72 rfl rfl (t_putN h1 (wRs ha (by decide)) rfl (by omega) (show x - 262144 < 2 ^ 31 by omega) fun M_72 h1_72 => ?_)
        refine r_inc1 (q := 78) dX5_hearEchoes_75 rfl (Nat.le_of_ble_eq_true rfl) rfl rfl ?_
        show AW _ (_, _, _, _, _, _, _, _, _) _ _ _ _ [some _, some _, some _, some _] _ _
        refine r_inc1 (q := 81) dX5_hearEchoes_78 rfl (Nat.le_of_ble_eq_true rfl) rfl rfl ?_
        show AW _ (_, _, _, _, _, _, _, _, _) _ _ _ _ [some _, some _, some _, some _] _ _
        refine r_goto (t := 13) dX5_hearEchoes_81 rfl ?_
        have hl2 : (T.2.2 ++ [x - 262144]).length = T.2.2.length + 1 := by simp
        show AW _ _ _ _ _ _ [some _, some (.int (nI (T.2.2.length + 1))), _, _] _ _
        rw [← hl2]
        refine ih ((S.1 12).length - (j + 1)) (by omega) (j + 1) M_72 _ (T.1, T.2.1, T.2.2 ++ [x - 262144]) rfl (by omega) (by rw [gHr, foldl_s c21, ← gHr, ← hT, hx, hStp, if_neg c40]) (by dsimp only; omega) (h1_72.cong (fun b hb => ?_) (fun _ _ => rfl) ha)
        rw [show (fTr S T (T.2.2 ++ (S.1 12).drop T.2.2.length)).1 12 = T.2.2 ++ (S.1 12).drop T.2.2.length from rfl, kst (by omega)]
        simp only [fTr, uR_1]
        by_cases e1 : b = 12
        · simp [e1]
        · simp [e1]
      · simp (disch := omega) only [nI_leI, nI_ltI, nI_eq, nI_lt0, nI_ge0, nI_gt0, nI_le0, nI_eq0] at c40
        refine r_aload_n (q := 44) dX5_hearEchoes_43 rfl rfl ?_
        refine r_get (q := 47) (kk := 11) (h1.st ha) rfl wi_RX5 (by decide) rfl fk_X5_50 rfl dX5_hearEchoes_44 rfl ?_
        refine r_iload_n (q := 48) dX5_hearEchoes_47 rfl rfl ?_
        refine r_cV (q := 51) (As := [.int _]) wc_X5_114 rfl im_X2_add se_X2_add (h1.row (wRs ha (by decide))) rfl rfl (Nat.le_of_ble_eq_true rfl) (Nat.le_of_eq (Nat.zero_add _)) (Nat.le_of_eq (Nat.zero_add _)) dX5_hearEchoes_48 rfl rfl (t_add h1 (wRs ha (by decide)) rfl (show x - 262144 < 2 ^ 31 by omega) fun M_48 h1_48 => ?_)
        refine r_aload_n (q := 52) dX5_hearEchoes_51 rfl rfl ?_
        refine r_get (q := 55) (kk := 10) (h1_48.st ha) rfl wi_RX5 (by decide) rfl fk_X5_47 rfl dX5_hearEchoes_52 rfl ?_
        refine r_iload_n (q := 56) dX5_hearEchoes_55 rfl rfl ?_
        refine r_cS (q := 59) (As := [.int _]) wc_X5_152 st_X4_echoer rfl (Nat.le_of_ble_eq_true rfl) (Nat.le_of_eq (Nat.zero_add _)) (Nat.le_of_eq (Nat.zero_add _)) dX5_hearEchoes_56 rfl rfl (s_X4_echoer (by omega) ?_)
        rw [show eI (dE (x - 262144)) = nI (dE x - 1) from by rw [eI, dE_sub x hx0, n_sub hx1]]
        refine r_iconst (v := nI 1) (q := 60) dX5_hearEchoes_59 (by decide) rfl ?_
        refine r_cV (q := 63) (As := [.int _, .int _]) wc_X5_105 rfl im_X2_raise se_X2_raise (h1_48.row (wRs ha (by decide))) rfl rfl (Nat.le_of_ble_eq_true rfl) (Nat.le_of_eq (Nat.zero_add _)) (Nat.le_of_eq (Nat.zero_add _)) dX5_hearEchoes_60 rfl rfl (t_raiseN h1_48 (wRs ha (by decide)) (by omega) (n_add _ 1) (show T.2.1.getD (dE x - 1) 0 + 1 < 2 ^ 31 by omega) fun M_60 h1_60 => ?_)
        refine r_goto (t := 78) dX5_hearEchoes_63 rfl ?_
        refine r_inc1 (q := 81) dX5_hearEchoes_78 rfl (Nat.le_of_ble_eq_true rfl) rfl rfl ?_
        show AW _ (_, _, _, _, _, _, _, _, _) _ _ _ _ [some _, some _, some _, some _] _ _
        refine r_goto (t := 13) dX5_hearEchoes_81 rfl ?_
        refine ih ((S.1 12).length - (j + 1)) (by omega) (j + 1) M_60 _ (rAdd 147 T.1 (x - 262144), T.2.1.set (dE x - 1) (T.2.1.getD (dE x - 1) 0 + 1), T.2.2) rfl (by omega) (by rw [gHr, foldl_s c21, ← gHr, ← hT, hx, hStp, if_pos c40]) (by dsimp only; omega) (h1_60.cong (fun b hb => ?_) (fun _ _ => rfl) ha)
        have hz : wLen a 11 = 147 := by simp [wLen, ha]
        simp only [fTr, uR_1, hz]
        by_cases e1 : b = 12
        · simp [e1]
        · by_cases e2 : b = 11
          · simp [e2]
          · by_cases e3 : b = 10
            · simp [e3]
            · simp [e1, e2, e3]
  refine MS.of (by decide) (by simp [Value.category]) (Nat.le_of_ble_eq_true rfl) ?_
  show AW _ (_, _, _, _, _, _, _, _, _) _ _ _ _ [some _, _, _, _] _ _
  refine r_aload_n (q := 1) dX5_hearEchoes_0 rfl rfl ?_
  refine r_get (q := 4) (kk := 11) (h.st ha) rfl wi_RX5 (by decide) rfl fk_X5_50 rfl dX5_hearEchoes_1 rfl ?_
  refine r_iconst (v := nI 0) (q := 5) dX5_hearEchoes_4 (by decide) rfl ?_
  refine r_iconst (v := nI 0) (q := 6) dX5_hearEchoes_5 (by decide) rfl ?_
  refine r_cV (q := 9) (As := [.int _, .int _]) wc_X5_72 rfl im_X2_fill se_X2_fill (h.row (wRs ha (by decide))) rfl rfl (Nat.le_of_ble_eq_true rfl) (Nat.le_of_eq (Nat.zero_add _)) (Nat.le_of_eq (Nat.zero_add _)) dX5_hearEchoes_6 rfl rfl (t_fill h (wRs ha (by decide)) (by decide) rfl (by decide) fun M_6 h_6 => ?_)
  refine r_iconst (v := nI 0) (q := 10) dX5_hearEchoes_9 (by decide) rfl ?_
  refine r_istore_n (q := 11) dX5_hearEchoes_10 (Nat.le_of_ble_eq_true rfl) rfl rfl ?_
  show AW _ (_, _, _, _, _, _, _, _, _) _ _ _ _ [some _, some _, _, _] _ _
  refine r_iconst (v := nI 0) (q := 12) dX5_hearEchoes_11 (by decide) rfl ?_
  refine r_istore_n (q := 13) dX5_hearEchoes_12 (Nat.le_of_ble_eq_true rfl) rfl rfl ?_
  show AW _ (_, _, _, _, _, _, _, _, _) _ _ _ _ [some _, some _, some _, _] _ _
  refine loop _ 0 M_6 _ ([], S.1 10, []) rfl (by omega) rfl (Nat.le_refl _) (h_6.cong (fun b hb => ?_) (fun _ _ => rfl) ha)
  have hz : wLen a 11 = 147 := by simp [wLen, ha]
  simp only [fTr, uR_1, hz]
  by_cases e1 : b = 12
  · simp [e1]
  · by_cases e2 : b = 11
    · simp [e2]
    · by_cases e3 : b = 10
      · simp [e3]
      · simp [e1, e2, e3]
end W27
