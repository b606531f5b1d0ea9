/-! THE STRIP: readings from both ends, a line at a place -/
section W31
variable {G : En} {Λ : Ob → Nat} {ρ : Me} {σ : Sg} {M : Me} {d : Nat} {Q : Option Value → Me → Prop} {QX : String → Me → Prop} {S : St}
theorem eI_neg2 {e : Nat} (he : e ≤ 2 ^ 30) : eI e < 0 ↔ e = 0 := by
  cases e with
  | zero => exact ⟨fun _ => rfl, fun _ => by decide⟩
  | succ e => exact ⟨fun h => absurd h (by rw [eI_s]; exact nI_pos (by omega)), fun h => absurd h (by omega)⟩
theorem eI_dec (e : Nat) : nI e + Int32.ofInt (-1) = eI e := by rw [eI, Int32.sub_eq_add_neg]; rfl
theorem foldr_s2 {α : Type} {n : Nat} {f : α → Nat → α} {x : α} : (List.range (n + 1)).foldl f x = f ((List.range n).foldl f x) n := foldr_s
def gBst (W Lt : List Nat) (x : List Nat × Nat) (j : Nat) : List Nat × Nat := (x.1.set (j + 1) (gWT W x.1 (j + 1) (x.2 / 2 ^ 1 + Lt.getD j 0 * 2 ^ 5)), x.2 / 2 ^ 1 + Lt.getD j 0 * 2 ^ 5)
def gBS (W Lt : List Nat) (j : Nat) : List Nat × Nat := (List.range j).foldl (gBst W Lt) ((List.replicate (Lt.length + 1) 0).set 0 1, 0)
theorem gWT_lt {W C : List Nat} {e lt : Nat} : gWT W C e lt < 10000 := Nat.lt_of_le_of_lt (Nat.min_le_left _ _) (by decide)
theorem gWF_lt {W C : List Nat} {n st cm : Nat} : gWF W C n st cm < 10000 := Nat.lt_of_le_of_lt (Nat.min_le_left _ _) (by decide)
theorem rep_lt (n : Nat) : ∀ x ∈ List.replicate n 0, x < 10000 := fun y hy => by rw [(List.mem_replicate.mp hy).2]; decide
theorem gBS_ok {W Lt : List Nat} (hL : ∀ x ∈ Lt, x < 2) (j : Nat) : (gBS W Lt j).1.length = Lt.length + 1 ∧ (∀ x ∈ (gBS W Lt j).1, x < 10000) ∧ (gBS W Lt j).2 < 64 := by
  induction j with
  | zero =>
    refine ⟨?_, ?_, (by show (0 : Nat) < 64; decide)⟩
    · show ((List.replicate (Lt.length + 1) 0).set 0 1).length = _
      rw [List.length_set, List.length_replicate]
    · exact set_lt (rep_lt _) (by decide)
  | succ j ih =>
    have e : gBS W Lt (j + 1) = gBst W Lt (gBS W Lt j) j := foldr_s
    rw [e]
    obtain ⟨h1, h2, h3⟩ := ih
    have hx : Lt.getD j 0 < 2 := getD_all (by decide) hL j
    refine ⟨?_, set_lt h2 gWT_lt, ?_⟩
    · show ((gBS W Lt j).1.set _ _).length = _
      rw [List.length_set]; exact h1
    · show (gBS W Lt j).2 / 2 ^ 1 + _ * 2 ^ 5 < 64
      omega
def gEst (W Lt : List Nat) (x : List Nat × Nat) (j : Nat) : List Nat × Nat := (x.1.set (Lt.length - 1 - j) (gWF W x.1 Lt.length (Lt.length - 1 - j) ((Lt.getD (Lt.length - 1 - j) 0 + x.2 * 2 ^ 1) % 2 ^ 6)), (Lt.getD (Lt.length - 1 - j) 0 + x.2 * 2 ^ 1) % 2 ^ 6)
def gES (W Lt : List Nat) (j : Nat) : List Nat × Nat := (List.range j).foldl (gEst W Lt) ((List.replicate (Lt.length + 1) 0).set Lt.length 1, 0)
theorem gES_ok {W Lt : List Nat} (j : Nat) : (gES W Lt j).1.length = Lt.length + 1 ∧ (∀ x ∈ (gES W Lt j).1, x < 10000) ∧ (gES W Lt j).2 < 64 := by
  induction j with
  | zero =>
    refine ⟨?_, ?_, (by show (0 : Nat) < 64; decide)⟩
    · show ((List.replicate (Lt.length + 1) 0).set Lt.length 1).length = _
      rw [List.length_set, List.length_replicate]
    · exact set_lt (rep_lt _) (by decide)
  | succ j ih =>
    have e : gES W Lt (j + 1) = gEst W Lt (gES W Lt j) j := foldr_s
    rw [e]
    obtain ⟨h1, h2, h3⟩ := ih
    refine ⟨?_, set_lt h2 gWF_lt, Nat.mod_lt _ (by decide)⟩
    show ((gES W Lt j).1.set _ _).length = _
    rw [List.length_set]; exact h1
theorem s_X6_waysFromBeginning (h : RX G Λ ρ (sS σ 12 S) M) (hwd : ∀ x ∈ gR σ 0 0, x < 448) (hL2 : ∀ x ∈ S.1 0, x < 2) (hn : (S.1 0).length ≤ 882) (hQ : ∀ M', RX G Λ ρ (sS σ 12 (uR S 1 (gBS (gR σ 0 0) (S.1 0) (S.1 0).length).1)) M' → Q (some (.int (nI ((gBS (gR σ 0 0) (S.1 0) (S.1 0).length).1.getD (S.1 0).length 0)))) M')  : MS G yX6_waysFromBeginning cX6_waysFromBeginning 4 (some .int) (d + 2) 0 0 [.ref (Λ (7, 0, 0)), .ref (Λ (2, 0, 0))] M Q QX := by
  have loop : ∀ (m : Nat) j (M1 : Me) (T : List Nat × Nat), m = (S.1 0).length - j → j ≤ (S.1 0).length → T = gBS (gR σ 0 0) (S.1 0) j → RX G Λ ρ (sS σ 12 (uR S 1 T.1)) M1 → AW G (wX G yX6_waysFromBeginning cX6_waysFromBeginning 4 (some .int) 0 0 Q QX) (d + 2) 0 0 30 [some (.ref (Λ (7, 0, 0))), some (.ref (Λ (2, 0, 0))), some (.int (nI T.2)), some (.int (nI (j + 1)))] [] M1 := by
    intro m
    induction m using Nat.strongRecOn with
    | _ m ih =>
    intro j M1 T hm hj hT h1
    subst hm
    have hok : T.1.length = (S.1 0).length + 1 ∧ (∀ x ∈ T.1, x < 10000) ∧ T.2 < 64 := by rw [hT]; exact gBS_ok hL2 j
    obtain ⟨hok1, hok2⟩ := And.intro hok.1 hok.2.2
    refine r_iload_n (q := 31) dX6_waysFromBeginning_30 rfl rfl ?_
    refine r_aload_n (q := 32) dX6_waysFromBeginning_31 rfl rfl ?_
    refine r_get (q := 35) (kk := 0) h1.sp rfl wi_RX6 (by decide) rfl fk_X6_14 rfl dX6_waysFromBeginning_32 rfl ?_
    refine r_cV (q := 38) (As := []) wc_X6_27 rfl im_X2_size se_X2_size (h1.row (by decide)) rfl rfl (Nat.le_of_ble_eq_true rfl) (Nat.le_of_eq (Nat.zero_add _)) (Nat.le_of_eq (Nat.zero_add _)) dX6_waysFromBeginning_35 rfl rfl (t_size h1 (by decide) ?_)
    rw [show (uR S 1 T.1).1 0 = S.1 0 from rfl]
    refine r_icmp_gt (t := 79) (q := 41) dX6_waysFromBeginning_38 rfl rfl (fun c38 => ?_) (fun c38 => ?_)
    · simp (disch := omega) only [nI_leI, nI_ltI, nI_eq, nI_lt0, nI_ge0, nI_gt0, nI_le0, nI_eq0] at c38
      obtain rfl : j = (S.1 0).length := by omega
      refine r_aload_n (q := 80) dX6_waysFromBeginning_79 rfl rfl ?_
      refine r_get (q := 83) (kk := 1) h1.sp rfl wi_RX6 (by decide) rfl fk_X6_20 rfl dX6_waysFromBeginning_80 rfl ?_
      refine r_aload_n (q := 84) dX6_waysFromBeginning_83 rfl rfl ?_
      refine r_get (q := 87) (kk := 0) h1.sp rfl wi_RX6 (by decide) rfl fk_X6_14 rfl dX6_waysFromBeginning_84 rfl ?_
      refine r_cV (q := 90) (As := []) wc_X6_27 rfl im_X2_size se_X2_size (h1.row (by decide)) rfl rfl (Nat.le_of_ble_eq_true rfl) (Nat.le_of_eq (Nat.zero_add _)) (Nat.le_of_eq (Nat.zero_add _)) dX6_waysFromBeginning_87 rfl rfl (t_size h1 (by decide) ?_)
      rw [show (uR S 1 T.1).1 0 = S.1 0 from rfl]
      refine r_cV (q := 93) (As := [.int _]) wc_X6_31 rfl im_X2_at se_X2_at (h1.row (by decide)) rfl rfl (Nat.le_of_ble_eq_true rfl) (Nat.le_of_eq (Nat.zero_add _)) (Nat.le_of_eq (Nat.zero_add _)) dX6_waysFromBeginning_90 rfl rfl (t_atN h1 (by decide) (by omega) ?_)
      refine r_iret dX6_waysFromBeginning_93 ?_
      subst hT
      exact hQ _ h1
    · simp (disch := omega) only [nI_leI, nI_ltI, nI_eq, nI_lt0, nI_ge0, nI_gt0, nI_le0, nI_eq0] at c38
      have hx : (S.1 0).getD j 0 < 2 := getD_all (by decide) hL2 j
      refine r_iload_n (q := 42) dX6_waysFromBeginning_41 rfl rfl ?_
      refine r_iconst (v := nI 1) (q := 43) dX6_waysFromBeginning_42 (by decide) rfl ?_
      refine r_ishr (q := 44) dX6_waysFromBeginning_43 rfl ?_
      rw [n_shr (w := T.2) (by omega) (by omega)]
      refine r_aload_n (q := 45) dX6_waysFromBeginning_44 rfl rfl ?_
      refine r_get (q := 48) (kk := 0) h1.sp rfl wi_RX6 (by decide) rfl fk_X6_14 rfl dX6_waysFromBeginning_45 rfl ?_
      refine r_iload_n (q := 49) dX6_waysFromBeginning_48 rfl rfl ?_
      refine r_iconst (v := nI 1) (q := 50) dX6_waysFromBeginning_49 (by decide) rfl ?_
      refine r_isub (q := 51) dX6_waysFromBeginning_50 rfl ?_
      rw [n_sub (by omega), Nat.add_sub_cancel]
      refine r_cV (q := 54) (As := [.int _]) wc_X6_31 rfl im_X2_at se_X2_at (h1.row (by decide)) rfl rfl (Nat.le_of_ble_eq_true rfl) (Nat.le_of_eq (Nat.zero_add _)) (Nat.le_of_eq (Nat.zero_add _)) dX6_waysFromBeginning_51 rfl rfl (t_atN h1 (by decide) (by omega) ?_)
      rw [show (uR S 1 T.1).1 0 = S.1 0 from rfl]
      refine r_iconst (v := nI 5) (q := 55) dX6_waysFromBeginning_54 (by decide) rfl ?_
      refine r_ishl (q := 56) dX6_waysFromBeginning_55 rfl ?_
      rw [n_shl (by omega) (by omega)]
      refine r_ior (q := 57) dX6_waysFromBeginning_56 rfl ?_
      rw [n_or, or_lo 5 (by omega)]
      refine r_istore_n (q := 58) dX6_waysFromBeginning_57 (Nat.le_of_ble_eq_true rfl) rfl rfl ?_
      show AW _ (_, _, _, _, _, _, _, _, _) _ _ _ _ [some _, some _, some _, some _] _ _
      refine r_aload_n (q := 59) dX6_waysFromBeginning_58 rfl rfl ?_
      refine r_get (q := 62) (kk := 1) h1.sp rfl wi_RX6 (by decide) rfl fk_X6_20 rfl dX6_waysFromBeginning_59 rfl ?_
      refine r_iload_n (q := 63) dX6_waysFromBeginning_62 rfl rfl ?_
      refine r_aload_n (q := 64) dX6_waysFromBeginning_63 rfl rfl ?_
      refine r_aload_n (q := 65) dX6_waysFromBeginning_64 rfl rfl ?_
      refine r_iload_n (q := 66) dX6_waysFromBeginning_65 rfl rfl ?_
      refine r_iload_n (q := 67) dX6_waysFromBeginning_66 rfl rfl ?_
      refine r_cV (q := 70) (As := [.ref _, .int _, .int _]) wc_X6_55 rfl im_X6_waysTo se_X6_waysTo h1.sp rfl rfl (Nat.le_of_ble_eq_true rfl) (Nat.le_of_eq (Nat.zero_add _)) (Nat.le_of_eq (Nat.zero_add _)) dX6_waysFromBeginning_67 rfl rfl (s_X6_waysTo h1 hwd (fun x hx => hok.2.1 x hx) (by omega) (by omega) ?_)
      refine r_cV (q := 73) (As := [.int _, .int _]) wc_X6_52 rfl im_X2_put se_X2_put (h1.row (by decide)) rfl rfl (Nat.le_of_ble_eq_true rfl) (Nat.le_of_eq (Nat.zero_add _)) (Nat.le_of_eq (Nat.zero_add _)) dX6_waysFromBeginning_70 rfl rfl (t_putN h1 (by decide) rfl (by omega) (Nat.lt_trans gWT_lt (by decide)) fun M_70 h1_70 => ?_)
      refine r_inc1 (q := 76) dX6_waysFromBeginning_73 rfl (Nat.le_of_ble_eq_true rfl) rfl rfl ?_
      show AW _ (_, _, _, _, _, _, _, _, _) _ _ _ _ [some _, some _, some _, some _] _ _
      refine r_goto (t := 30) dX6_waysFromBeginning_76 rfl ?_
      rw [uRR] at h1_70
      refine ih ((S.1 0).length - (j + 1)) (by omega) (j + 1) M_70 (gBst (gR σ 0 0) (S.1 0) T j) rfl (by omega) (by rw [hT]; exact foldr_s.symm) ?_
      exact h1_70
  refine MS.of (by decide) (by simp [Value.category]) (Nat.le_of_ble_eq_true rfl) ?_
  show AW _ (_, _, _, _, _, _, _, _, _) _ _ _ _ [some _, some _, _, _] _ _
  refine r_aload_n (q := 1) dX6_waysFromBeginning_0 rfl rfl ?_
  refine r_get (q := 4) (kk := 1) h.sp rfl wi_RX6 (by decide) rfl fk_X6_20 rfl dX6_waysFromBeginning_1 rfl ?_
  refine r_aload_n (q := 5) dX6_waysFromBeginning_4 rfl rfl ?_
  refine r_get (q := 8) (kk := 0) h.sp rfl wi_RX6 (by decide) rfl fk_X6_14 rfl dX6_waysFromBeginning_5 rfl ?_
  refine r_cV (q := 11) (As := []) wc_X6_27 rfl im_X2_size se_X2_size (h.row (by decide)) rfl rfl (Nat.le_of_ble_eq_true rfl) (Nat.le_of_eq (Nat.zero_add _)) (Nat.le_of_eq (Nat.zero_add _)) dX6_waysFromBeginning_8 rfl rfl (t_size h (by decide) ?_)
  refine r_iconst (v := nI 1) (q := 12) dX6_waysFromBeginning_11 (by decide) rfl ?_
  refine r_iadd (q := 13) dX6_waysFromBeginning_12 rfl ?_
  rw [n_add]
  refine r_iconst (v := nI 0) (q := 14) dX6_waysFromBeginning_13 (by decide) rfl ?_
  refine r_cV (q := 17) (As := [.int _, .int _]) wc_X6_23 rfl im_X2_fill se_X2_fill (h.row (by decide)) rfl rfl (Nat.le_of_ble_eq_true rfl) (Nat.le_of_eq (Nat.zero_add _)) (Nat.le_of_eq (Nat.zero_add _)) dX6_waysFromBeginning_14 rfl rfl (t_fill h (by decide) (by omega) rfl (by decide) fun M_14 h_14 => ?_)
  refine r_aload_n (q := 18) dX6_waysFromBeginning_17 rfl rfl ?_
  refine r_get (q := 21) (kk := 1) h_14.sp rfl wi_RX6 (by decide) rfl fk_X6_20 rfl dX6_waysFromBeginning_18 rfl ?_
  refine r_iconst (v := nI 0) (q := 22) dX6_waysFromBeginning_21 (by decide) rfl ?_
  refine r_iconst (v := nI 1) (q := 23) dX6_waysFromBeginning_22 (by decide) rfl ?_
  refine r_cV (q := 26) (As := [.int _, .int _]) wc_X6_52 rfl im_X2_put se_X2_put (h_14.row (by decide)) rfl rfl (Nat.le_of_ble_eq_true rfl) (Nat.le_of_eq (Nat.zero_add _)) (Nat.le_of_eq (Nat.zero_add _)) dX6_waysFromBeginning_23 rfl rfl (t_putN h_14 (by decide) rfl (by omega) (by decide) fun M_23 h_23 => ?_)
  refine r_iconst (v := nI 0) (q := 27) dX6_waysFromBeginning_26 (by decide) rfl ?_
  refine r_istore_n (q := 28) dX6_waysFromBeginning_27 (Nat.le_of_ble_eq_true rfl) rfl rfl ?_
  show AW _ (_, _, _, _, _, _, _, _, _) _ _ _ _ [some _, some _, some _, _] _ _
  refine r_iconst (v := nI 1) (q := 29) dX6_waysFromBeginning_28 (by decide) rfl ?_
  refine r_istore_n (q := 30) dX6_waysFromBeginning_29 (Nat.le_of_ble_eq_true rfl) rfl rfl ?_
  show AW _ (_, _, _, _, _, _, _, _, _) _ _ _ _ [some _, some _, some _, some _] _ _
  rw [uRR] at h_23
  refine loop _ 0 M_23 ((List.replicate ((S.1 0).length + 1) 0).set 0 1, 0) rfl (by omega) rfl ?_
  rw [show (uR S 1 (List.replicate (min ((S.1 0).length + 1) (wLen 12 1)) 0)).1 1 = List.replicate ((S.1 0).length + 1) 0 from by rw [uR_1, if_pos rfl, Nat.min_eq_left (by show _ ≤ 883; omega)]] at h_23
  exact h_23
theorem s_X6_waysFromEnd (h : RX G Λ ρ (sS σ 12 S) M) (hwd : ∀ x ∈ gR σ 0 0, x < 448) (hL2 : ∀ x ∈ S.1 0, x < 2) (hn : (S.1 0).length ≤ 882) (hQ : ∀ M', RX G Λ ρ (sS σ 12 (uR S 1 (gES (gR σ 0 0) (S.1 0) (S.1 0).length).1)) M' → Q (some (.int (nI ((gES (gR σ 0 0) (S.1 0) (S.1 0).length).1.getD 0 0)))) M')  : MS G yX6_waysFromEnd cX6_waysFromEnd 4 (some .int) (d + 3) 0 0 [.ref (Λ (7, 0, 0)), .ref (Λ (2, 0, 0))] M Q QX := by
  have loop : ∀ (m : Nat) j (M1 : Me) (T : List Nat × Nat), m = (S.1 0).length - j → j ≤ (S.1 0).length → T = gES (gR σ 0 0) (S.1 0) j → RX G Λ ρ (sS σ 12 (uR S 1 T.1)) M1 → AW G (wX G yX6_waysFromEnd cX6_waysFromEnd 4 (some .int) 0 0 Q QX) (d + 3) 0 0 44 [some (.ref (Λ (7, 0, 0))), some (.ref (Λ (2, 0, 0))), some (.int (nI T.2)), some (.int (eI ((S.1 0).length - j)))] [] M1 := by
    intro m
    induction m using Nat.strongRecOn with
    | _ m ih =>
    intro j M1 T hm hj hT h1
    subst hm
    have hok : T.1.length = (S.1 0).length + 1 ∧ (∀ x ∈ T.1, x < 10000) ∧ T.2 < 64 := by rw [hT]; exact gES_ok j
    obtain ⟨hok1, hok2⟩ := And.intro hok.1 hok.2.2
    refine r_iload_n (q := 45) dX6_waysFromEnd_44 rfl rfl ?_
    refine r_if_lt (t := 88) (q := 48) dX6_waysFromEnd_45 rfl rfl (fun c45 => ?_) (fun c45 => ?_)
    · replace c45 := (eI_neg2 (by omega)).mp c45
      obtain rfl : j = (S.1 0).length := by omega
      refine r_aload_n (q := 89) dX6_waysFromEnd_88 rfl rfl ?_
      refine r_get (q := 92) (kk := 1) h1.sp rfl wi_RX6 (by decide) rfl fk_X6_20 rfl dX6_waysFromEnd_89 rfl ?_
      refine r_iconst (v := nI 0) (q := 93) dX6_waysFromEnd_92 (by decide) rfl ?_
      refine r_cV (q := 96) (As := [.int _]) wc_X6_31 rfl im_X2_at se_X2_at (h1.row (by decide)) rfl rfl (Nat.le_of_ble_eq_true rfl) (Nat.le_of_eq (Nat.zero_add _)) (Nat.le_of_eq (Nat.zero_add _)) dX6_waysFromEnd_93 rfl rfl (t_atN h1 (by decide) (by omega) ?_)
      refine r_iret dX6_waysFromEnd_96 ?_
      subst hT
      exact hQ _ h1
    · replace c45 : ¬ (S.1 0).length - j = 0 := fun e => c45 ((eI_neg2 (by omega)).mpr e)
      rw [show (S.1 0).length - j = (S.1 0).length - 1 - j + 1 by omega, eI_s]
      have hx : (S.1 0).getD ((S.1 0).length - 1 - j) 0 < 2 := getD_all (by decide) hL2 _
      refine r_iload_n (q := 49) dX6_waysFromEnd_48 rfl rfl ?_
      refine r_iconst (v := nI 1) (q := 50) dX6_waysFromEnd_49 (by decide) rfl ?_
      refine r_ishl (q := 51) dX6_waysFromEnd_50 rfl ?_
      rw [n_shl (by omega) (by omega)]
      refine r_aload_n (q := 52) dX6_waysFromEnd_51 rfl rfl ?_
      refine r_get (q := 55) (kk := 0) h1.sp rfl wi_RX6 (by decide) rfl fk_X6_14 rfl dX6_waysFromEnd_52 rfl ?_
      refine r_iload_n (q := 56) dX6_waysFromEnd_55 rfl rfl ?_
      refine r_cV (q := 59) (As := [.int _]) wc_X6_31 rfl im_X2_at se_X2_at (h1.row (by decide)) rfl rfl (Nat.le_of_ble_eq_true rfl) (Nat.le_of_eq (Nat.zero_add _)) (Nat.le_of_eq (Nat.zero_add _)) dX6_waysFromEnd_56 rfl rfl (t_atN h1 (by decide) (by omega) ?_)
      rw [show (uR S 1 T.1).1 0 = S.1 0 from rfl]
      refine r_ior (q := 60) dX6_waysFromEnd_59 rfl ?_
      rw [n_or, Nat.or_comm, or_lo 1 hx]
      refine r_bipush (v := nI 6) (q := 62) dX6_waysFromEnd_60 (by decide) rfl ?_
      refine r_cS (q := 65) (As := [.int _]) wc_X6_67 st_X7_mask rfl (Nat.le_of_ble_eq_true rfl) (Nat.le_of_eq (Nat.zero_add _)) (Nat.le_of_eq (Nat.zero_add _)) dX6_waysFromEnd_62 rfl rfl (s_X7_mask (by omega) ?_)
      refine r_iand (q := 66) dX6_waysFromEnd_65 rfl ?_
      rw [n_mask]
      refine r_istore_n (q := 67) dX6_waysFromEnd_66 (Nat.le_of_ble_eq_true rfl) rfl rfl ?_
      show AW _ (_, _, _, _, _, _, _, _, _) _ _ _ _ [some _, some _, some _, some _] _ _
      refine r_aload_n (q := 68) dX6_waysFromEnd_67 rfl rfl ?_
      refine r_get (q := 71) (kk := 1) h1.sp rfl wi_RX6 (by decide) rfl fk_X6_20 rfl dX6_waysFromEnd_68 rfl ?_
      refine r_iload_n (q := 72) dX6_waysFromEnd_71 rfl rfl ?_
      refine r_aload_n (q := 73) dX6_waysFromEnd_72 rfl rfl ?_
      refine r_aload_n (q := 74) dX6_waysFromEnd_73 rfl rfl ?_
      refine r_iload_n (q := 75) dX6_waysFromEnd_74 rfl rfl ?_
      refine r_iload_n (q := 76) dX6_waysFromEnd_75 rfl rfl ?_
      refine r_cV (q := 79) (As := [.ref _, .int _, .int _]) wc_X6_70 rfl im_X6_waysFrom se_X6_waysFrom h1.sp rfl rfl (Nat.le_of_ble_eq_true rfl) (Nat.le_of_eq (Nat.zero_add _)) (Nat.le_of_eq (Nat.zero_add _)) dX6_waysFromEnd_76 rfl rfl (s_X6_waysFrom h1 hwd (fun x hx => hok.2.1 x hx) (by omega) (Nat.mod_lt _ (by decide)) ?_)
      refine r_cV (q := 82) (As := [.int _, .int _]) wc_X6_52 rfl im_X2_put se_X2_put (h1.row (by decide)) rfl rfl (Nat.le_of_ble_eq_true rfl) (Nat.le_of_eq (Nat.zero_add _)) (Nat.le_of_eq (Nat.zero_add _)) dX6_waysFromEnd_79 rfl rfl (t_putN h1 (by decide) rfl (by omega) (Nat.lt_trans gWF_lt (by decide)) fun M_79 h1_79 => ?_)
      refine r_iinc (q := 85) dX6_waysFromEnd_82 rfl (eI_dec _) (Nat.le_of_ble_eq_true rfl) rfl rfl ?_
      show AW _ (_, _, _, _, _, _, _, _, _) _ _ _ _ [some _, some _, some _, some _] _ _
      refine r_goto (t := 44) dX6_waysFromEnd_85 rfl ?_
      rw [uRR] at h1_79
      have go := ih ((S.1 0).length - (j + 1)) (by omega) (j + 1) M_79 (gEst (gR σ 0 0) (S.1 0) T j) rfl (by omega) (by rw [hT]; exact foldr_s.symm) h1_79
      rw [show (S.1 0).length - (j + 1) = (S.1 0).length - 1 - j by omega] at go
      exact go
  refine MS.of (by decide) (by simp [Value.category]) (Nat.le_of_ble_eq_true rfl) ?_
  show AW _ (_, _, _, _, _, _, _, _, _) _ _ _ _ [some _, some _, _, _] _ _
  refine r_aload_n (q := 1) dX6_waysFromEnd_0 rfl rfl ?_
  refine r_get (q := 4) (kk := 1) h.sp rfl wi_RX6 (by decide) rfl fk_X6_20 rfl dX6_waysFromEnd_1 rfl ?_
  refine r_aload_n (q := 5) dX6_waysFromEnd_4 rfl rfl ?_
  refine r_get (q := 8) (kk := 0) h.sp rfl wi_RX6 (by decide) rfl fk_X6_14 rfl dX6_waysFromEnd_5 rfl ?_
  refine r_cV (q := 11) (As := []) wc_X6_27 rfl im_X2_size se_X2_size (h.row (by decide)) rfl rfl (Nat.le_of_ble_eq_true rfl) (Nat.le_of_eq (Nat.zero_add _)) (Nat.le_of_eq (Nat.zero_add _)) dX6_waysFromEnd_8 rfl rfl (t_size h (by decide) ?_)
  refine r_iconst (v := nI 1) (q := 12) dX6_waysFromEnd_11 (by decide) rfl ?_
  refine r_iadd (q := 13) dX6_waysFromEnd_12 rfl ?_
  rw [n_add]
  refine r_iconst (v := nI 0) (q := 14) dX6_waysFromEnd_13 (by decide) rfl ?_
  refine r_cV (q := 17) (As := [.int _, .int _]) wc_X6_23 rfl im_X2_fill se_X2_fill (h.row (by decide)) rfl rfl (Nat.le_of_ble_eq_true rfl) (Nat.le_of_eq (Nat.zero_add _)) (Nat.le_of_eq (Nat.zero_add _)) dX6_waysFromEnd_14 rfl rfl (t_fill h (by decide) (by omega) rfl (by decide) fun M_14 h_14 => ?_)
  refine r_aload_n (q := 18) dX6_waysFromEnd_17 rfl rfl ?_
  refine r_get (q := 21) (kk := 1) h_14.sp rfl wi_RX6 (by decide) rfl fk_X6_20 rfl dX6_waysFromEnd_18 rfl ?_
  refine r_aload_n (q := 22) dX6_waysFromEnd_21 rfl rfl ?_
  refine r_get (q := 25) (kk := 0) h_14.sp rfl wi_RX6 (by decide) rfl fk_X6_14 rfl dX6_waysFromEnd_22 rfl ?_
  refine r_cV (q := 28) (As := []) wc_X6_27 rfl im_X2_size se_X2_size (h_14.row (by decide)) rfl rfl (Nat.le_of_ble_eq_true rfl) (Nat.le_of_eq (Nat.zero_add _)) (Nat.le_of_eq (Nat.zero_add _)) dX6_waysFromEnd_25 rfl rfl (t_size h_14 (by decide) ?_)
  rw [show (uR S 1 (List.replicate (min ((S.1 0).length + 1) (wLen 12 1)) 0)).1 0 = S.1 0 from rfl]
  refine r_iconst (v := nI 1) (q := 29) dX6_waysFromEnd_28 (by decide) rfl ?_
  refine r_cV (q := 32) (As := [.int _, .int _]) wc_X6_52 rfl im_X2_put se_X2_put (h_14.row (by decide)) rfl rfl (Nat.le_of_ble_eq_true rfl) (Nat.le_of_eq (Nat.zero_add _)) (Nat.le_of_eq (Nat.zero_add _)) dX6_waysFromEnd_29 rfl rfl (t_putN h_14 (by decide) rfl (by omega) (by decide) fun M_29 h_29 => ?_)
  refine r_iconst (v := nI 0) (q := 33) dX6_waysFromEnd_32 (by decide) rfl ?_
  refine r_istore_n (q := 34) dX6_waysFromEnd_33 (Nat.le_of_ble_eq_true rfl) rfl rfl ?_
  show AW _ (_, _, _, _, _, _, _, _, _) _ _ _ _ [some _, some _, some _, _] _ _
  refine r_aload_n (q := 35) dX6_waysFromEnd_34 rfl rfl ?_
  refine r_get (q := 38) (kk := 0) h_29.sp rfl wi_RX6 (by decide) rfl fk_X6_14 rfl dX6_waysFromEnd_35 rfl ?_
  refine r_cV (q := 41) (As := []) wc_X6_27 rfl im_X2_size se_X2_size (h_29.row (by decide)) rfl rfl (Nat.le_of_ble_eq_true rfl) (Nat.le_of_eq (Nat.zero_add _)) (Nat.le_of_eq (Nat.zero_add _)) dX6_waysFromEnd_38 rfl rfl (t_size h_29 (by decide) ?_)
  refine r_iconst (v := nI 1) (q := 42) dX6_waysFromEnd_41 (by decide) rfl ?_
  refine r_isub (q := 43) dX6_waysFromEnd_42 rfl ?_
  refine r_istore_n (q := 44) dX6_waysFromEnd_43 (Nat.le_of_ble_eq_true rfl) rfl rfl ?_
  show AW _ (_, _, _, _, _, _, _, _, _) _ _ _ _ [some _, some _, some _, some _] _ _
  rw [uRR] at h_29
  refine loop _ 0 M_29 ((List.replicate ((S.1 0).length + 1) 0).set (S.1 0).length 1, 0) rfl (by omega) rfl ?_
  rw [show (uR S 1 (List.replicate (min ((S.1 0).length + 1) (wLen 12 1)) 0)).1 1 = List.replicate ((S.1 0).length + 1) 0 from by rw [uR_1, if_pos rfl, Nat.min_eq_left (by show _ ≤ 883; omega)]] at h_29
  exact h_29
def gCst (Lt : List Nat) (p c i : Nat) : Nat := Lt.getD (p + (5 - i)) 0 + c * 2 ^ 1
def gCs (Lt : List Nat) (p j : Nat) : Nat := (List.range j).foldl (gCst Lt p) 0
theorem gCs_lt {Lt : List Nat} {p : Nat} (hL : ∀ x ∈ Lt, x < 2) (j : Nat) : gCs Lt p j < 2 ^ j := by
  induction j with
  | zero => show (0 : Nat) < 2 ^ 0; decide
  | succ j ih =>
    have e : gCs Lt p (j + 1) = gCst Lt p (gCs Lt p j) j := foldr_s
    have hx : Lt.getD (p + (5 - j)) 0 < 2 := getD_all (by decide) hL _
    rw [e, gCst, Nat.pow_succ]
    omega
def gFlP (W C : List Nat) (n p cm l : Nat) : Bool := gNx n (W.getD l 0) p cm && decide (0 < C.getD (p + W.getD l 0 / 64) 0)
def gFl (W C : List Nat) (n p cm : Nat) : Option Nat := (List.range 7).find? (gFlP W C n p cm)
theorem gFl_lt {W C : List Nat} {n p cm l : Nat} (h : gFl W C n p cm = some l) : l < 7 := List.mem_range.mp (List.mem_of_find?_eq_some h)
theorem s_X6_firstLine (h : RX G Λ ρ (sS σ 12 S) M) (hwd : ∀ x ∈ gR σ 0 0, x < 448) (hL2 : ∀ x ∈ S.1 0, x < 2) (hn : (S.1 0).length ≤ 882) {p : Nat} (hp : p < 2 ^ 20) (hQ : Q (some (.int (oI (gFl (gR σ 0 0) (S.1 1) (S.1 0).length p (gCs (S.1 0) p 6))))) M)  : MS G yX6_firstLine cX6_firstLine 6 (some .int) (d + 2) 0 0 [.ref (Λ (7, 0, 0)), .ref (Λ (2, 0, 0)), .int (nI p)] M Q QX := by
  have loop2 : ∀ (m : Nat) j u, m = 7 - j → j ≤ 7 → (∀ i, i < j → gFlP (gR σ 0 0) (S.1 1) (S.1 0).length p (gCs (S.1 0) p 6) i = false) → AW G (wX G yX6_firstLine cX6_firstLine 6 (some .int) 0 0 Q QX) (d + 2) 0 0 35 [some (.ref (Λ (7, 0, 0))), some (.ref (Λ (2, 0, 0))), some (.int (nI p)), some (.int (nI (gCs (S.1 0) p 6))), some (.int (nI j)), u] [] M := by
    intro m
    induction m using Nat.strongRecOn with
    | _ m ih =>
    intro j u hm hj hf
    subst hm
    have hc0 : gCs (S.1 0) p 6 < 64 := gCs_lt hL2 6
    refine r_iload (q := 37) dX6_firstLine_35 rfl rfl ?_
    refine r_bipush (v := nI 7) (q := 39) dX6_firstLine_37 (by decide) rfl ?_
    refine r_icmp_ge (t := 87) (q := 42) dX6_firstLine_39 rfl rfl (fun c39 => ?_) (fun c39 => ?_)
    · simp (disch := omega) only [nI_leI, nI_ltI, nI_eq, nI_lt0, nI_ge0, nI_gt0, nI_le0, nI_eq0] at c39
      obtain rfl : j = 7 := by omega
      rw [show gFl (gR σ 0 0) (S.1 1) (S.1 0).length p (gCs (S.1 0) p 6) = none from find_none hf] at hQ
      refine r_iconst (v := (-1)) (q := 88) dX6_firstLine_87 (by decide) rfl ?_
      refine r_iret dX6_firstLine_88 ?_
      exact hQ
    · simp (disch := omega) only [nI_leI, nI_ltI, nI_eq, nI_lt0, nI_ge0, nI_gt0, nI_le0, nI_eq0] at c39
      have hw : (gR σ 0 0).getD j 0 < 448 := getD_all (by decide) hwd j
      refine r_aload_n (q := 43) dX6_firstLine_42 rfl rfl ?_
      refine r_iload (q := 45) dX6_firstLine_43 rfl rfl ?_
      refine r_cV (q := 48) (As := [.int _]) wc_X6_31 rfl im_X2_at se_X2_at (h.row (by decide)) rfl rfl (Nat.le_of_ble_eq_true rfl) (Nat.le_of_eq (Nat.zero_add _)) (Nat.le_of_eq (Nat.zero_add _)) dX6_firstLine_45 rfl rfl (t_atO h (by decide) (by decide) (by omega) ?_)
      refine r_istore (q := 50) dX6_firstLine_48 (Nat.le_of_ble_eq_true rfl) rfl rfl ?_
      show AW _ (_, _, _, _, _, _, _, _, _) _ _ _ _ [some _, some _, some _, some _, some _, some _] _ _
      refine r_aload_n (q := 51) dX6_firstLine_50 rfl rfl ?_
      refine r_iload (q := 53) dX6_firstLine_51 rfl rfl ?_
      refine r_iload_n (q := 54) dX6_firstLine_53 rfl rfl ?_
      refine r_iload_n (q := 55) dX6_firstLine_54 rfl rfl ?_
      refine r_cV (q := 58) (As := [.int _, .int _, .int _]) wc_X6_73 rfl im_X6_isNext se_X6_isNext h.sp rfl rfl (Nat.le_of_ble_eq_true rfl) (Nat.le_of_eq (Nat.zero_add _)) (Nat.le_of_eq (Nat.zero_add _)) dX6_firstLine_55 rfl rfl (s_X6_isNext h hw (by omega) hc0 ?_)
      refine r_if_eq (t := 81) (q := 61) dX6_firstLine_58 rfl rfl (fun c58 => ?_) (fun c58 => ?_)
      · have hz : gFlP (gR σ 0 0) (S.1 1) (S.1 0).length p (gCs (S.1 0) p 6) j = false := by rw [gFlP, bI_eq0.mp c58]; rfl
        refine r_inc1 (q := 84) dX6_firstLine_81 rfl (Nat.le_of_ble_eq_true rfl) rfl rfl ?_
        show AW _ (_, _, _, _, _, _, _, _, _) _ _ _ _ [some _, some _, some _, some _, some _, some _] _ _
        refine r_goto (t := 35) dX6_firstLine_84 rfl ?_
        exact ih (7 - (j + 1)) (by omega) (j + 1) _ rfl (by omega) (lt_s' (p := fun i => gFlP (gR σ 0 0) (S.1 1) (S.1 0).length p (gCs (S.1 0) p 6) i = false) hf hz)
      · have hb := bI_ne c58
        have ht := t_lt h (by decide : wR 12 1 = true) (p + (gR σ 0 0).getD j 0 / 64)
        refine r_aload_n (q := 62) dX6_firstLine_61 rfl rfl ?_
        refine r_get (q := 65) (kk := 1) h.sp rfl wi_RX6 (by decide) rfl fk_X6_20 rfl dX6_firstLine_62 rfl ?_
        refine r_iload_n (q := 66) dX6_firstLine_65 rfl rfl ?_
        refine r_iload (q := 68) dX6_firstLine_66 rfl rfl ?_
        refine r_cS (q := 71) (As := [.int _]) wc_X6_40 st_X7_length rfl (Nat.le_of_ble_eq_true rfl) (Nat.le_of_eq (Nat.zero_add _)) (Nat.le_of_eq (Nat.zero_add _)) dX6_firstLine_68 rfl rfl (s_X7_length (by omega) ?_)
        refine r_iadd (q := 72) dX6_firstLine_71 rfl ?_
        rw [n_add]
        refine r_cV (q := 75) (As := [.int _]) wc_X6_31 rfl im_X2_at se_X2_at (h.row (by decide)) rfl rfl (Nat.le_of_ble_eq_true rfl) (Nat.le_of_eq (Nat.zero_add _)) (Nat.le_of_eq (Nat.zero_add _)) dX6_firstLine_72 rfl rfl (t_atN h (by decide) (by omega) ?_)
        refine r_if_le (t := 81) (q := 78) dX6_firstLine_75 rfl rfl (fun c75 => ?_) (fun c75 => ?_)
        · simp (disch := omega) only [nI_leI, nI_ltI, nI_eq, nI_lt0, nI_ge0, nI_gt0, nI_le0, nI_eq0] at c75
          have hz : gFlP (gR σ 0 0) (S.1 1) (S.1 0).length p (gCs (S.1 0) p 6) j = false := by
            have e9 : ¬ 0 < (S.1 1).getD (p + (gR σ 0 0).getD j 0 / 64) 0 := by omega
            rw [gFlP, decide_eq_false e9, Bool.and_false]
          refine r_inc1 (q := 84) dX6_firstLine_81 rfl (Nat.le_of_ble_eq_true rfl) rfl rfl ?_
          show AW _ (_, _, _, _, _, _, _, _, _) _ _ _ _ [some _, some _, some _, some _, some _, some _] _ _
          refine r_goto (t := 35) dX6_firstLine_84 rfl ?_
          exact ih (7 - (j + 1)) (by omega) (j + 1) _ rfl (by omega) (lt_s' (p := fun i => gFlP (gR σ 0 0) (S.1 1) (S.1 0).length p (gCs (S.1 0) p 6) i = false) hf hz)
        · simp (disch := omega) only [nI_leI, nI_ltI, nI_eq, nI_lt0, nI_ge0, nI_gt0, nI_le0, nI_eq0] at c75
          rw [show gFl (gR σ 0 0) (S.1 1) (S.1 0).length p (gCs (S.1 0) p 6) = some j from find_some (by omega) hf (by rw [gFlP, hb, decide_eq_true (by omega)]; rfl)] at hQ
          refine r_iload (q := 80) dX6_firstLine_78 rfl rfl ?_
          refine r_iret dX6_firstLine_80 ?_
          exact hQ
  have loop1 : ∀ (m : Nat) j u, m = 6 - j → j ≤ 6 → AW G (wX G yX6_firstLine cX6_firstLine 6 (some .int) 0 0 Q QX) (d + 2) 0 0 5 [some (.ref (Λ (7, 0, 0))), some (.ref (Λ (2, 0, 0))), some (.int (nI p)), some (.int (nI (gCs (S.1 0) p j))), some (.int (eI (6 - j))), u] [] M := by
    intro m
    induction m using Nat.strongRecOn with
    | _ m ih =>
    intro j u hm hj
    subst hm
    have hc0 := gCs_lt (p := p) hL2 j
    have hc1 : 2 ^ j ≤ 2 ^ 6 := Nat.pow_le_pow_right (by decide) hj
    refine r_iload (q := 7) dX6_firstLine_5 rfl rfl ?_
    refine r_if_lt (t := 32) (q := 10) dX6_firstLine_7 rfl rfl (fun c7 => ?_) (fun c7 => ?_)
    · replace c7 := (eI_neg2 (by omega)).mp c7
      obtain rfl : j = 6 := by omega
      refine r_iconst (v := nI 0) (q := 33) dX6_firstLine_32 (by decide) rfl ?_
      refine r_istore (q := 35) dX6_firstLine_33 (Nat.le_of_ble_eq_true rfl) rfl rfl ?_
      show AW _ (_, _, _, _, _, _, _, _, _) _ _ _ _ [some _, some _, some _, some _, some _, _] _ _
      exact loop2 _ 0 _ rfl (by omega) (fun i hi => absurd hi (by omega))
    · replace c7 : ¬ 6 - j = 0 := fun e => c7 ((eI_neg2 (by omega)).mpr e)
      rw [show 6 - j = 5 - j + 1 by omega, eI_s]
      have hx : (S.1 0).getD (p + (5 - j)) 0 < 2 := getD_all (by decide) hL2 _
      refine r_iload_n (q := 11) dX6_firstLine_10 rfl rfl ?_
      refine r_iconst (v := nI 1) (q := 12) dX6_firstLine_11 (by decide) rfl ?_
      refine r_ishl (q := 13) dX6_firstLine_12 rfl ?_
      rw [n_shl (by omega) (by omega)]
      refine r_aload_n (q := 14) dX6_firstLine_13 rfl rfl ?_
      refine r_get (q := 17) (kk := 0) h.sp rfl wi_RX6 (by decide) rfl fk_X6_14 rfl dX6_firstLine_14 rfl ?_
      refine r_iload_n (q := 18) dX6_firstLine_17 rfl rfl ?_
      refine r_iload (q := 20) dX6_firstLine_18 rfl rfl ?_
      refine r_iadd (q := 21) dX6_firstLine_20 rfl ?_
      rw [n_add]
      refine r_cV (q := 24) (As := [.int _]) wc_X6_31 rfl im_X2_at se_X2_at (h.row (by decide)) rfl rfl (Nat.le_of_ble_eq_true rfl) (Nat.le_of_eq (Nat.zero_add _)) (Nat.le_of_eq (Nat.zero_add _)) dX6_firstLine_21 rfl rfl (t_atN h (by decide) (by omega) ?_)
      refine r_ior (q := 25) dX6_firstLine_24 rfl ?_
      rw [n_or, Nat.or_comm, or_lo 1 hx]
      refine r_istore_n (q := 26) dX6_firstLine_25 (Nat.le_of_ble_eq_true rfl) rfl rfl ?_
      show AW _ (_, _, _, _, _, _, _, _, _) _ _ _ _ [some _, some _, some _, some _, some _, _] _ _
      refine r_iinc (q := 29) dX6_firstLine_26 rfl (eI_dec _) (Nat.le_of_ble_eq_true rfl) rfl rfl ?_
      show AW _ (_, _, _, _, _, _, _, _, _) _ _ _ _ [some _, some _, some _, some _, some _, _] _ _
      refine r_goto (t := 5) dX6_firstLine_29 rfl ?_
      have go := ih (6 - (j + 1)) (by omega) (j + 1) u rfl (by omega)
      rw [show 6 - (j + 1) = 6 - 1 - j by omega, show gCs (S.1 0) p (j + 1) = gCst (S.1 0) p (gCs (S.1 0) p j) j from foldr_s] at go
      exact go
  refine MS.of (by decide) (by simp [Value.category]) (Nat.le_of_ble_eq_true rfl) ?_
  show AW _ (_, _, _, _, _, _, _, _, _) _ _ _ _ [some _, some _, some _, _, _, _] _ _
  refine r_iconst (v := nI 0) (q := 1) dX6_firstLine_0 (by decide) rfl ?_
  refine r_istore_n (q := 2) dX6_firstLine_1 (Nat.le_of_ble_eq_true rfl) rfl rfl ?_
  show AW _ (_, _, _, _, _, _, _, _, _) _ _ _ _ [some _, some _, some _, some _, _, _] _ _
  refine r_iconst (v := nI 5) (q := 3) dX6_firstLine_2 (by decide) rfl ?_
  refine r_istore (q := 5) dX6_firstLine_3 (Nat.le_of_ble_eq_true rfl) rfl rfl ?_
  show AW _ (_, _, _, _, _, _, _, _, _) _ _ _ _ [some _, some _, some _, some _, some _, _] _ _
  exact loop1 _ 0 none rfl (by omega)
def gLAt (W Lt C : List Nat) (idx : Int32) : Nat → Nat → Nat → Int32
  | 0, _, _ => -1
  | r + 1, k, p => if Lt.length ≤ p then -1 else match gFl W C Lt.length p (gCs Lt p 6) with
    | none => -1
    | some l => if nI k = idx then nI l else gLAt W Lt C idx r (k + 1) (p + W.getD l 0 / 64)
def gLA (W Lt : List Nat) (idx : Int32) : Int32 := if (gES W Lt Lt.length).1.getD 0 0 = 0 then -1 else gLAt W Lt (gES W Lt Lt.length).1 idx Lt.length 0 0
theorem oI_neg7 {o : Option Nat} (ho : ∀ i, o = some i → i < 7) : oI o < 0 ↔ o = none := oI_neg fun i h => Nat.lt_trans (ho i h) (by decide)
theorem s_X6_lineAt (h : RX G Λ ρ (sS σ 12 S) M) (hwd : ∀ x ∈ gR σ 0 0, x < 448) (hL2 : ∀ x ∈ S.1 0, x < 2) (hn : (S.1 0).length ≤ 882) {idx : Int32} (hQ : ∀ M', RX G Λ ρ (sS σ 12 (uR S 1 (gES (gR σ 0 0) (S.1 0) (S.1 0).length).1)) M' → Q (some (.int (gLA (gR σ 0 0) (S.1 0) idx))) M')  : MS G yX6_lineAt cX6_lineAt 6 (some .int) (d + 4) 0 0 [.ref (Λ (7, 0, 0)), .ref (Λ (2, 0, 0)), .int idx] M Q QX := by
  refine MS.of (by decide) (by simp [Value.category]) (Nat.le_of_ble_eq_true rfl) ?_
  show AW _ (_, _, _, _, _, _, _, _, _) _ _ _ _ [some _, some _, some _, _, _, _] _ _
  refine r_aload_n (q := 1) dX6_lineAt_0 rfl rfl ?_
  refine r_aload_n (q := 2) dX6_lineAt_1 rfl rfl ?_
  refine r_cV (q := 5) (As := [.ref _]) wc_X6_77 rfl im_X6_waysFromEnd se_X6_waysFromEnd h.sp rfl rfl (Nat.le_of_ble_eq_true rfl) (Nat.le_of_eq (Nat.zero_add _)) (Nat.le_of_eq (Nat.zero_add _)) dX6_lineAt_2 rfl rfl (s_X6_waysFromEnd h hwd hL2 hn fun M_2 h_2 => ?_)
  unfold gLA at hQ
  generalize hC0 : (gES (gR σ 0 0) (S.1 0) (S.1 0).length).1 = C0 at hQ h_2 ⊢
  have hc9 : C0.getD 0 0 < 10000 := by rw [← hC0]; exact getD_all (by decide) (gES_ok _).2.1 0
  refine r_if_ne (t := 10) (q := 8) dX6_lineAt_5 rfl rfl (fun c5 => ?_) (fun c5 => ?_)
  · simp (disch := omega) only [nI_leI, nI_ltI, nI_eq, nI_lt0, nI_ge0, nI_gt0, nI_le0, nI_eq0] at c5
    refine r_iconst (v := nI 0) (q := 11) dX6_lineAt_10 (by decide) rfl ?_
    refine r_istore_n (q := 12) dX6_lineAt_11 (Nat.le_of_ble_eq_true rfl) rfl rfl ?_
    show AW _ (_, _, _, _, _, _, _, _, _) _ _ _ _ [some _, some _, some _, some _, _, _] _ _
    refine r_iconst (v := nI 0) (q := 13) dX6_lineAt_12 (by decide) rfl ?_
    refine r_istore (q := 15) dX6_lineAt_13 (Nat.le_of_ble_eq_true rfl) rfl rfl ?_
    show AW _ (_, _, _, _, _, _, _, _, _) _ _ _ _ [some _, some _, some _, some _, some _, _] _ _
    have loop : ∀ (m : Nat) k p (u : Option Value), m = (S.1 0).length - k → k ≤ (S.1 0).length → p ≤ 888 → (if C0.getD 0 0 = 0 then -1 else gLAt (gR σ 0 0) (S.1 0) C0 idx (S.1 0).length 0 0) = gLAt (gR σ 0 0) (S.1 0) C0 idx ((S.1 0).length - k) k p → AW G (wX G yX6_lineAt cX6_lineAt 6 (some .int) 0 0 Q QX) (d + 4) 0 0 15 [some (.ref (Λ (7, 0, 0))), some (.ref (Λ (2, 0, 0))), some (.int idx), some (.int (nI p)), some (.int (nI k)), u] [] M_2 := by
      intro m
      induction m using Nat.strongRecOn with
      | _ m ih =>
      intro k p u hm hk hp hg
      subst hm
      refine r_iload (q := 17) dX6_lineAt_15 rfl rfl ?_
      refine r_aload_n (q := 18) dX6_lineAt_17 rfl rfl ?_
      refine r_get (q := 21) (kk := 0) h_2.sp rfl wi_RX6 (by decide) rfl fk_X6_14 rfl dX6_lineAt_18 rfl ?_
      refine r_cV (q := 24) (As := []) wc_X6_27 rfl im_X2_size se_X2_size (h_2.row (by decide)) rfl rfl (Nat.le_of_ble_eq_true rfl) (Nat.le_of_eq (Nat.zero_add _)) (Nat.le_of_eq (Nat.zero_add _)) dX6_lineAt_21 rfl rfl (t_size h_2 (by decide) ?_)
      rw [show (uR S 1 C0).1 0 = S.1 0 from rfl]
      refine r_icmp_ge (t := 78) (q := 27) dX6_lineAt_24 rfl rfl (fun c24 => ?_) (fun c24 => ?_)
      · simp (disch := omega) only [nI_leI, nI_ltI, nI_eq, nI_lt0, nI_ge0, nI_gt0, nI_le0, nI_eq0] at c24
        have hv : gLAt (gR σ 0 0) (S.1 0) C0 idx ((S.1 0).length - k) k p = -1 := by rw [show (S.1 0).length - k = 0 by omega]; rfl
        refine r_iconst (v := (-1)) (q := 79) dX6_lineAt_78 (by decide) rfl ?_
        refine r_iret dX6_lineAt_79 ?_
        have h9 := hQ _ h_2
        rw [hg, hv] at h9
        exact h9
      · simp (disch := omega) only [nI_leI, nI_ltI, nI_eq, nI_lt0, nI_ge0, nI_gt0, nI_le0, nI_eq0] at c24
        refine r_iload_n (q := 28) dX6_lineAt_27 rfl rfl ?_
        refine r_aload_n (q := 29) dX6_lineAt_28 rfl rfl ?_
        refine r_get (q := 32) (kk := 0) h_2.sp rfl wi_RX6 (by decide) rfl fk_X6_14 rfl dX6_lineAt_29 rfl ?_
        refine r_cV (q := 35) (As := []) wc_X6_27 rfl im_X2_size se_X2_size (h_2.row (by decide)) rfl rfl (Nat.le_of_ble_eq_true rfl) (Nat.le_of_eq (Nat.zero_add _)) (Nat.le_of_eq (Nat.zero_add _)) dX6_lineAt_32 rfl rfl (t_size h_2 (by decide) ?_)
        rw [show (uR S 1 C0).1 0 = S.1 0 from rfl]
        refine r_icmp_ge (t := 78) (q := 38) dX6_lineAt_35 rfl rfl (fun c35 => ?_) (fun c35 => ?_)
        · simp (disch := omega) only [nI_leI, nI_ltI, nI_eq, nI_lt0, nI_ge0, nI_gt0, nI_le0, nI_eq0] at c35
          have hv : gLAt (gR σ 0 0) (S.1 0) C0 idx ((S.1 0).length - k) k p = -1 := by rw [show (S.1 0).length - k = (S.1 0).length - (k + 1) + 1 by omega, gLAt, if_pos (by omega)]
          refine r_iconst (v := (-1)) (q := 79) dX6_lineAt_78 (by decide) rfl ?_
          refine r_iret dX6_lineAt_79 ?_
          have h9 := hQ _ h_2
          rw [hg, hv] at h9
          exact h9
        · simp (disch := omega) only [nI_leI, nI_ltI, nI_eq, nI_lt0, nI_ge0, nI_gt0, nI_le0, nI_eq0] at c35
          refine r_aload_n (q := 39) dX6_lineAt_38 rfl rfl ?_
          refine r_aload_n (q := 40) dX6_lineAt_39 rfl rfl ?_
          refine r_iload_n (q := 41) dX6_lineAt_40 rfl rfl ?_
          refine r_cV (q := 44) (As := [.ref _, .int _]) wc_X6_81 rfl im_X6_firstLine se_X6_firstLine h_2.sp rfl rfl (Nat.le_of_ble_eq_true rfl) (Nat.le_of_eq (Nat.zero_add _)) (Nat.le_of_eq (Nat.zero_add _)) dX6_lineAt_41 rfl rfl (s_X6_firstLine h_2 hwd hL2 hn (by omega) ?_)
          refine r_istore (q := 46) dX6_lineAt_44 (Nat.le_of_ble_eq_true rfl) rfl rfl ?_
          show AW _ (_, _, _, _, _, _, _, _, _) _ _ _ _ [some _, some _, some _, some _, some _, some _] _ _
          refine r_iload (q := 48) dX6_lineAt_46 rfl rfl ?_
          refine r_if_lt (t := 57) (q := 51) dX6_lineAt_48 rfl rfl (fun c48 => ?_) (fun c48 => ?_)
          · have e := (oI_neg7 (fun i h => gFl_lt h)).mp c48
            change gFl (gR σ 0 0) C0 (S.1 0).length p (gCs (S.1 0) p 6) = none at e
            have hfin : oI (gFl (gR σ 0 0) C0 (S.1 0).length p (gCs (S.1 0) p 6)) = gLAt (gR σ 0 0) (S.1 0) C0 idx ((S.1 0).length - k) k p := by
              rw [show (S.1 0).length - k = (S.1 0).length - (k + 1) + 1 by omega, gLAt, if_neg (by omega), e]
              first | rfl | (dsimp only; rw [if_pos c54]; rfl)
            refine r_iload (q := 59) dX6_lineAt_57 rfl rfl ?_
            refine r_iret dX6_lineAt_59 ?_
            have h9 := hQ _ h_2
            rw [hg, ← hfin] at h9
            exact h9
          · obtain ⟨l, e⟩ : ∃ l, gFl (gR σ 0 0) C0 (S.1 0).length p (gCs (S.1 0) p 6) = some l := by
              cases e : gFl (gR σ 0 0) C0 (S.1 0).length p (gCs (S.1 0) p 6) with
              | none => exact absurd ((oI_neg7 (fun i h => gFl_lt h)).mpr e) c48
              | some l => exact ⟨l, rfl⟩
            have hl := gFl_lt e
            have hw : (gR σ 0 0).getD l 0 < 448 := getD_all (by decide) hwd l
            refine r_iload (q := 53) dX6_lineAt_51 rfl rfl ?_
            refine r_iload_n (q := 54) dX6_lineAt_53 rfl rfl ?_
            refine r_icmp_ne (t := 60) (q := 57) dX6_lineAt_54 rfl rfl (fun c54 => ?_) (fun c54 => ?_)
            · refine r_iload_n (q := 61) dX6_lineAt_60 rfl rfl ?_
              rw [show oI (gFl (gR σ 0 0) ((uR S 1 C0).1 1) ((uR S 1 C0).1 0).length p (gCs ((uR S 1 C0).1 0) p 6)) = nI l from by rw [show gFl (gR σ 0 0) ((uR S 1 C0).1 1) ((uR S 1 C0).1 0).length p (gCs ((uR S 1 C0).1 0) p 6) = some l from e]; rfl]
              refine r_aload_n (q := 62) dX6_lineAt_61 rfl rfl ?_
              refine r_iload (q := 64) dX6_lineAt_62 rfl rfl ?_
              refine r_cV (q := 67) (As := [.int _]) wc_X6_31 rfl im_X2_at se_X2_at (h_2.row (by decide)) rfl rfl (Nat.le_of_ble_eq_true rfl) (Nat.le_of_eq (Nat.zero_add _)) (Nat.le_of_eq (Nat.zero_add _)) dX6_lineAt_64 rfl rfl (t_atO h_2 (by decide) (by decide) (by omega) ?_)
              refine r_cS (q := 70) (As := [.int _]) wc_X6_40 st_X7_length rfl (Nat.le_of_ble_eq_true rfl) (Nat.le_of_eq (Nat.zero_add _)) (Nat.le_of_eq (Nat.zero_add _)) dX6_lineAt_67 rfl rfl (s_X7_length (by omega) ?_)
              refine r_iadd (q := 71) dX6_lineAt_70 rfl ?_
              rw [n_add]
              refine r_istore_n (q := 72) dX6_lineAt_71 (Nat.le_of_ble_eq_true rfl) rfl rfl ?_
              show AW _ (_, _, _, _, _, _, _, _, _) _ _ _ _ [some _, some _, some _, some _, some _, some _] _ _
              refine r_inc1 (q := 75) dX6_lineAt_72 rfl (Nat.le_of_ble_eq_true rfl) rfl rfl ?_
              show AW _ (_, _, _, _, _, _, _, _, _) _ _ _ _ [some _, some _, some _, some _, some _, some _] _ _
              refine r_goto (t := 15) dX6_lineAt_75 rfl ?_
              refine ih ((S.1 0).length - (k + 1)) (by omega) (k + 1) _ _ rfl (by omega) (by omega) ?_
              rw [hg, show (S.1 0).length - k = (S.1 0).length - (k + 1) + 1 by omega, gLAt, if_neg (by omega), e]
              dsimp only
              rw [if_neg c54]
            · have hfin : oI (gFl (gR σ 0 0) C0 (S.1 0).length p (gCs (S.1 0) p 6)) = gLAt (gR σ 0 0) (S.1 0) C0 idx ((S.1 0).length - k) k p := by
                rw [show (S.1 0).length - k = (S.1 0).length - (k + 1) + 1 by omega, gLAt, if_neg (by omega), e]
                first | rfl | (dsimp only; rw [if_pos c54]; rfl)
              refine r_iload (q := 59) dX6_lineAt_57 rfl rfl ?_
              refine r_iret dX6_lineAt_59 ?_
              have h9 := hQ _ h_2
              rw [hg, ← hfin] at h9
              exact h9
    exact loop _ 0 0 none rfl (by omega) (by omega) (by rw [if_neg (by assumption)]; rfl)
  · simp (disch := omega) only [nI_leI, nI_ltI, nI_eq, nI_lt0, nI_ge0, nI_gt0, nI_le0, nI_eq0] at c5
    rw [if_pos c5] at hQ
    refine r_iconst (v := (-1)) (q := 9) dX6_lineAt_8 (by decide) rfl ?_
    refine r_iret dX6_lineAt_9 ?_
    exact hQ _ h_2
end W31
