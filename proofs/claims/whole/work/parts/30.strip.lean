/-! THE STRIP -/
section W30
variable {G : En} {Λ : Ob → Nat} {ρ : Me} {σ : Sg} {M : Me} {d : Nat} {Q : Option Value → Me → Prop} {QX : String → Me → Prop} {S : St}
theorem RX.rwO {a a' b : Nat} (h : RX G Λ ρ (sS σ a S) M) (hne : a' ≠ a) (hr : wR a' b = true) : RW G Λ a' b (gR σ a' b) M := by
  have := h.rw hr
  rw [gR_n hne] at this
  exact this
theorem t_atO {a a' b : Nat} (h : RX G Λ ρ (sS σ a S) M) (hne : a' ≠ a) (hr : wR a' b = true) {i : Nat} (hi : i < 2 ^ 31) (hQ : Q (some (.int (nI ((gR σ a' b).getD i 0)))) M) : MS G yX2_at cX2_at 2 (some .int) d 0 0 [.ref (Λ (2, a', b)), .int (nI i)] M Q QX := s_X2_at (h.rwO hne hr) (by rw [rAt_nI hi]; exact hQ)
theorem t_sizeO {a a' b : Nat} (h : RX G Λ ρ (sS σ a S) M) (hne : a' ≠ a) (hr : wR a' b = true) (hQ : Q (some (.int (nI (gR σ a' b).length))) M) : MS G yX2_size cX2_size 1 (some .int) d 0 0 [.ref (Λ (2, a', b))] M Q QX := s_X2_size (h.rwO hne hr) hQ
theorem t_ltO {a a' b : Nat} (h : RX G Λ ρ (sS σ a S) M) (hne : a' ≠ a) (hr : wR a' b = true) (j : Nat) : (gR σ a' b).getD j 0 < 2 ^ 31 := getD_all (by omega) (h.rwO hne hr).2.2.1 j
theorem uRR {b : Nat} {L L' : List Nat} : uR (uR S b L) b L' = uR S b L' := by
  refine Prod.ext (funext fun b' => ?_) rfl
  show (if b' = b then _ else if b' = b then _ else _) = if b' = b then _ else _
  split <;> rfl
def ltr (s : Nat) (n : Nat) : List Nat := (List.range n).map fun j => dD s % 64 / 2 ^ j % 2
def gLet (L : List Nat) : List Nat := L.flatMap fun s => ltr s (dD s / 64)
theorem gLet_s {L : List Nat} {j : Nat} (h : j < L.length) : gLet (L.take (j + 1)) = gLet (L.take j) ++ ltr (L.getD j 0) (dD (L.getD j 0) / 64) := by
  rw [take_s h, gLet, List.flatMap_append]; simp [gLet]
theorem gLet_le {L : List Nat} (j : Nat) : (gLet (L.take j)).length ≤ (gLet L).length := by
  conv => rhs; rw [← List.take_append_drop j L]
  rw [gLet, gLet, List.flatMap_append, List.length_append]
  omega
theorem ltr_s (s n : Nat) : ltr s (n + 1) = ltr s n ++ [dD s % 64 / 2 ^ n % 2] := by
  rw [ltr, List.range_succ, List.map_append]; rfl
theorem ltr_len (s n : Nat) : (ltr s n).length = n := by rw [ltr, List.length_map, List.length_range]
theorem rAdd_lt {c x : Nat} {L : List Nat} (h : L.length < c) : rAdd c L x = L ++ [x] := if_pos h
theorem s_X6_load (h : RX G Λ ρ (sS σ 12 S) M) (hlen2 : (gLet (gR σ 0 11)).length ≤ 882) (hQ : ∀ M', RX G Λ ρ (sS σ 12 (uR S 0 (gLet (gR σ 0 11)))) M' → Q none M')  : MS G yX6_load cX6_load 5 none (d + 2) 0 0 [.ref (Λ (7, 0, 0)), .ref (Λ (2, 0, 11))] M Q QX := by
  have loop : ∀ (m : Nat) i (M1 : Me) u v, m = (gR σ 0 11).length - i → i ≤ (gR σ 0 11).length → RX G Λ ρ (sS σ 12 (uR S 0 (gLet ((gR σ 0 11).take i)))) M1 → AW G (wX G yX6_load cX6_load 5 none 0 0 Q QX) (d + 2) 0 0 11 [some (.ref (Λ (7, 0, 0))), some (.ref (Λ (2, 0, 11))), some (.int (nI i)), u, v] [] M1 := by
    intro m
    induction m using Nat.strongRecOn with
    | _ m ih =>
    intro i M1 u v hm hi0 h1
    subst hm
    have hlen : (gR σ 0 11).length ≤ 147 := (h.rwO (by decide) (by decide : wR 0 11 = true)).2.1
    refine r_iload_n (q := 12) dX6_load_11 rfl rfl ?_
    refine r_aload_n (q := 13) dX6_load_12 rfl rfl ?_
    refine r_cV (q := 16) (As := []) wc_X6_27 rfl im_X2_size se_X2_size (h1.row (by decide)) rfl rfl (Nat.le_of_ble_eq_true rfl) (Nat.le_of_eq (Nat.zero_add _)) (Nat.le_of_eq (Nat.zero_add _)) dX6_load_13 rfl rfl (t_sizeO h1 (by decide) (by decide) ?_)
    refine r_icmp_ge (t := 65) (q := 19) dX6_load_16 rfl rfl (fun c16 => ?_) (fun c16 => ?_)
    · simp (disch := omega) only [nI_leI, nI_ltI, nI_eq, nI_lt0, nI_ge0, nI_gt0, nI_le0, nI_eq0] at c16
      refine r_vret dX6_load_65 ?_
      rw [List.take_of_length_le c16] at h1
      exact hQ _ h1
    · simp (disch := omega) only [nI_leI, nI_ltI, nI_eq, nI_lt0, nI_ge0, nI_gt0, nI_le0, nI_eq0] at c16
      replace c16 := Nat.lt_of_not_le c16
      have hi := c16
      have hD := dD_lt ((gR σ 0 11).getD i 0)
      have inner : ∀ (m : Nat) j (M1 : Me), m = dD ((gR σ 0 11).getD i 0) / 64 - j → j ≤ dD ((gR σ 0 11).getD i 0) / 64 → RX G Λ ρ (sS σ 12 (uR S 0 (gLet ((gR σ 0 11).take i) ++ ltr ((gR σ 0 11).getD i 0) j))) M1 → AW G (wX G yX6_load cX6_load 5 none 0 0 Q QX) (d + 2) 0 0 31 [some (.ref (Λ (7, 0, 0))), some (.ref (Λ (2, 0, 11))), some (.int (nI i)), some (.int (nI (dD ((gR σ 0 11).getD i 0)))), some (.int (nI j))] [] M1 := by
        intro m
        induction m using Nat.strongRecOn with
        | _ m ih2 =>
        intro j M1 hm hj h1
        subst hm
        refine r_iload (q := 33) dX6_load_31 rfl rfl ?_
        refine r_iload_n (q := 34) dX6_load_33 rfl rfl ?_
        refine r_cS (q := 37) (As := [.int _]) wc_X6_40 st_X7_length rfl (Nat.le_of_ble_eq_true rfl) (Nat.le_of_eq (Nat.zero_add _)) (Nat.le_of_eq (Nat.zero_add _)) dX6_load_34 rfl rfl (s_X7_length (Nat.lt_trans (dD_lt _) (by decide)) ?_)
        refine r_icmp_ge (t := 59) (q := 40) dX6_load_37 rfl rfl (fun c37 => ?_) (fun c37 => ?_)
        · simp (disch := omega) only [nI_leI, nI_ltI, nI_eq, nI_lt0, nI_ge0, nI_gt0, nI_le0, nI_eq0] at c37
          have hji : j = dD ((gR σ 0 11).getD i 0) / 64 := by omega
          refine r_inc1 (q := 62) dX6_load_59 rfl (Nat.le_of_ble_eq_true rfl) rfl rfl ?_
          show AW _ (_, _, _, _, _, _, _, _, _) _ _ _ _ [some _, some _, some _, some _, some _] _ _
          refine r_goto (t := 11) dX6_load_62 rfl ?_
          subst hji
          rw [← gLet_s hi] at h1
          exact ih ((gR σ 0 11).length - (i + 1)) (by omega) (i + 1) M1 _ _ rfl (by omega) h1
        · simp (disch := omega) only [nI_leI, nI_ltI, nI_eq, nI_lt0, nI_ge0, nI_gt0, nI_le0, nI_eq0] at c37
          have hbnd : (gLet ((gR σ 0 11).take i)).length + j < wLen 12 0 := by
            have e1 := gLet_le (L := (gR σ 0 11)) (i + 1)
            rw [gLet_s hi, List.length_append, ltr_len] at e1
            show _ < 882
            omega
          refine r_aload_n (q := 41) dX6_load_40 rfl rfl ?_
          refine r_get (q := 44) (kk := 0) h1.sp rfl wi_RX6 (by decide) rfl fk_X6_14 rfl dX6_load_41 rfl ?_
          refine r_iload_n (q := 45) dX6_load_44 rfl rfl ?_
          refine r_iload (q := 47) dX6_load_45 rfl rfl ?_
          refine r_cS (q := 50) (As := [.int _, .int _]) wc_X6_45 st_X7_letter rfl (Nat.le_of_ble_eq_true rfl) (Nat.le_of_eq (Nat.zero_add _)) (Nat.le_of_eq (Nat.zero_add _)) dX6_load_47 rfl rfl (s_X7_letter (Nat.lt_trans (dD_lt _) (by decide)) (by omega) ?_)
          refine r_cV (q := 53) (As := [.int _]) wc_X6_49 rfl im_X2_add se_X2_add (h1.row (by decide)) rfl rfl (Nat.le_of_ble_eq_true rfl) (Nat.le_of_eq (Nat.zero_add _)) (Nat.le_of_eq (Nat.zero_add _)) dX6_load_50 rfl rfl (t_add h1 (by decide) rfl (show dD ((gR σ 0 11).getD i 0) % 64 / 2 ^ j % 2 < 2 ^ 31 by omega) fun M_50 h1_50 => ?_)
          rw [show (uR S 0 (gLet ((gR σ 0 11).take i) ++ ltr ((gR σ 0 11).getD i 0) j)).1 0 = gLet ((gR σ 0 11).take i) ++ ltr ((gR σ 0 11).getD i 0) j from rfl, rAdd_lt (by rw [List.length_append, ltr_len]; exact hbnd)] at h1_50
          refine r_inc1 (q := 56) dX6_load_53 rfl (Nat.le_of_ble_eq_true rfl) rfl rfl ?_
          show AW _ (_, _, _, _, _, _, _, _, _) _ _ _ _ [some _, some _, some _, some _, some _] _ _
          refine r_goto (t := 31) dX6_load_56 rfl ?_
          refine ih2 _ (by omega) (j + 1) M_50 rfl (by omega) ?_
          rw [ltr_s, ← List.append_assoc]
          rw [uRR] at h1_50
          exact h1_50
      refine r_aload_n (q := 20) dX6_load_19 rfl rfl ?_
      refine r_iload_n (q := 21) dX6_load_20 rfl rfl ?_
      refine r_cV (q := 24) (As := [.int _]) wc_X6_31 rfl im_X2_at se_X2_at (h1.row (by decide)) rfl rfl (Nat.le_of_ble_eq_true rfl) (Nat.le_of_eq (Nat.zero_add _)) (Nat.le_of_eq (Nat.zero_add _)) dX6_load_21 rfl rfl (t_atO h1 (by decide) (by decide) (by omega) ?_)
      refine r_cS (q := 27) (As := [.int _]) wc_X6_35 st_X4_word rfl (Nat.le_of_ble_eq_true rfl) (Nat.le_of_eq (Nat.zero_add _)) (Nat.le_of_eq (Nat.zero_add _)) dX6_load_24 rfl rfl (s_X4_word (t_ltO h1 (by decide) (by decide) _) ?_)
      refine r_istore_n (q := 28) dX6_load_27 (Nat.le_of_ble_eq_true rfl) rfl rfl ?_
      show AW _ (_, _, _, _, _, _, _, _, _) _ _ _ _ [some _, some _, some _, some _, _] _ _
      refine r_iconst (v := nI 0) (q := 29) dX6_load_28 (by decide) rfl ?_
      refine r_istore (q := 31) dX6_load_29 (Nat.le_of_ble_eq_true rfl) rfl rfl ?_
      show AW _ (_, _, _, _, _, _, _, _, _) _ _ _ _ [some _, some _, some _, some _, some _] _ _
      exact inner _ 0 M1 rfl (by omega) (by rw [show ltr ((gR σ 0 11).getD i 0) 0 = [] from rfl, List.append_nil]; exact h1)
  refine MS.of (by decide) (by simp [Value.category]) (Nat.le_of_ble_eq_true rfl) ?_
  show AW _ (_, _, _, _, _, _, _, _, _) _ _ _ _ [some _, some _, _, _, _] _ _
  refine r_aload_n (q := 1) dX6_load_0 rfl rfl ?_
  refine r_get (q := 4) (kk := 0) h.sp rfl wi_RX6 (by decide) rfl fk_X6_14 rfl dX6_load_1 rfl ?_
  refine r_iconst (v := nI 0) (q := 5) dX6_load_4 (by decide) rfl ?_
  refine r_iconst (v := nI 0) (q := 6) dX6_load_5 (by decide) rfl ?_
  refine r_cV (q := 9) (As := [.int _, .int _]) wc_X6_23 rfl im_X2_fill se_X2_fill (h.row (by decide)) rfl rfl (Nat.le_of_ble_eq_true rfl) (Nat.le_of_eq (Nat.zero_add _)) (Nat.le_of_eq (Nat.zero_add _)) dX6_load_6 rfl rfl (t_fill h (by decide) (by decide) rfl (by decide) fun M_6 h_6 => ?_)
  refine r_iconst (v := nI 0) (q := 10) dX6_load_9 (by decide) rfl ?_
  refine r_istore_n (q := 11) dX6_load_10 (Nat.le_of_ble_eq_true rfl) rfl rfl ?_
  show AW _ (_, _, _, _, _, _, _, _, _) _ _ _ _ [some _, some _, some _, _, _] _ _
  exact loop _ 0 M_6 none none rfl (by omega) h_6
def gTt (W C : List Nat) (e lt l : Nat) : Nat := if W.getD l 0 ≠ 0 ∧ W.getD l 0 / 64 ≤ e ∧ lt / 2 ^ (6 - W.getD l 0 / 64) = W.getD l 0 % 64 then C.getD (e - W.getD l 0 / 64) 0 else 0
def gWT (W C : List Nat) (e lt : Nat) : Nat := min 9999 ((List.range 7).map (gTt W C e lt)).sum
theorem sum_le {f : Nat → Nat} {B : Nat} (h : ∀ l, f l ≤ B) (n : Nat) : ((List.range n).map f).sum ≤ n * B := by
  induction n with
  | zero => simp
  | succ n ih => rw [range_sum_succ, Nat.succ_mul]; have := h n; omega
theorem gTt_le {W C : List Nat} (hC : ∀ x ∈ C, x < 10000) (e lt l : Nat) : gTt W C e lt l ≤ 9999 := by
  unfold gTt
  split
  · have := getD_all (by decide) hC (e - W.getD l 0 / 64); omega
  · omega
theorem min_nI' {x y : Nat} (hx : x < 2 ^ 31) (hy : y < 2 ^ 31) : (if nI y < nI x then nI y else nI x) = nI (min y x) := by rw [min_nI hx hy, Nat.min_comm]
theorem s_X6_waysTo (h : RX G Λ ρ (sS σ 12 S) M) (hwd : ∀ x ∈ gR σ 0 0, x < 448) (hC : ∀ x ∈ S.1 1, x < 10000) {e lt : Nat} (he : e < 2 ^ 30) (hlt : lt < 64) (hQ : Q (some (.int (nI (gWT (gR σ 0 0) (S.1 1) e lt)))) M)  : MS G yX6_waysTo cX6_waysTo 8 (some .int) (d + 1) 0 0 [.ref (Λ (7, 0, 0)), .ref (Λ (2, 0, 0)), .int (nI e), .int (nI lt)] M Q QX := by
  have loop : ∀ (m : Nat) j u v, m = 7 - j → j ≤ 7 → AW G (wX G yX6_waysTo cX6_waysTo 8 (some .int) 0 0 Q QX) (d + 1) 0 0 6 [some (.ref (Λ (7, 0, 0))), some (.ref (Λ (2, 0, 0))), some (.int (nI e)), some (.int (nI lt)), some (.int (nI ((List.range j).map (gTt (gR σ 0 0) (S.1 1) e lt)).sum)), some (.int (nI j)), u, v] [] M := by
    intro m
    induction m using Nat.strongRecOn with
    | _ m ih =>
    intro j u v hm hj
    subst hm
    have hlt2 : lt / 2 ^ (6 - (gR σ 0 0).getD j 0 / 64) ≤ lt := Nat.div_le_self _ _
    have hbd := sum_le (gTt_le (W := gR σ 0 0) hC e lt) 7
    refine r_iload (q := 8) dX6_waysTo_6 rfl rfl ?_
    refine r_bipush (v := nI 7) (q := 10) dX6_waysTo_8 (by decide) rfl ?_
    refine r_icmp_ge (t := 76) (q := 13) dX6_waysTo_10 rfl rfl (fun c10 => ?_) (fun c10 => ?_)
    · simp (disch := omega) only [nI_leI, nI_ltI, nI_eq, nI_lt0, nI_ge0, nI_gt0, nI_le0, nI_eq0] at c10
      obtain rfl : j = 7 := by omega
      refine r_iload (q := 78) dX6_waysTo_76 rfl rfl ?_
      refine r_sipush (v := nI 9999) (q := 81) dX6_waysTo_78 (by decide) rfl ?_
      refine r_mmin (q := 84) ml_X6_62 dX6_waysTo_81 rfl (Nat.le_of_ble_eq_true rfl) ?_
      rw [min_nI' (by omega) (by decide)]
      refine r_iret dX6_waysTo_84 ?_
      exact hQ
    · simp (disch := omega) only [nI_leI, nI_ltI, nI_eq, nI_lt0, nI_ge0, nI_gt0, nI_le0, nI_eq0] at c10
      have hw : (gR σ 0 0).getD j 0 < 448 := getD_all (by decide) hwd j
      refine r_aload_n (q := 14) dX6_waysTo_13 rfl rfl ?_
      refine r_iload (q := 16) dX6_waysTo_14 rfl rfl ?_
      refine r_cV (q := 19) (As := [.int _]) wc_X6_31 rfl im_X2_at se_X2_at (h.row (by decide)) rfl rfl (Nat.le_of_ble_eq_true rfl) (Nat.le_of_eq (Nat.zero_add _)) (Nat.le_of_eq (Nat.zero_add _)) dX6_waysTo_16 rfl rfl (t_atO h (by decide) (by decide) (by omega) ?_)
      refine r_istore (q := 21) dX6_waysTo_19 (Nat.le_of_ble_eq_true rfl) rfl rfl ?_
      show AW _ (_, _, _, _, _, _, _, _, _) _ _ _ _ [some _, some _, some _, some _, some _, some _, some _, _] _ _
      refine r_iload (q := 23) dX6_waysTo_21 rfl rfl ?_
      refine r_cS (q := 26) (As := [.int _]) wc_X6_40 st_X7_length rfl (Nat.le_of_ble_eq_true rfl) (Nat.le_of_eq (Nat.zero_add _)) (Nat.le_of_eq (Nat.zero_add _)) dX6_waysTo_23 rfl rfl (s_X7_length (by omega) ?_)
      refine r_istore (q := 28) dX6_waysTo_26 (Nat.le_of_ble_eq_true rfl) rfl rfl ?_
      show AW _ (_, _, _, _, _, _, _, _, _) _ _ _ _ [some _, some _, some _, some _, some _, some _, some _, some _] _ _
      refine r_iload (q := 30) dX6_waysTo_28 rfl rfl ?_
      refine r_if_eq (t := 70) (q := 33) dX6_waysTo_30 rfl rfl (fun c30 => ?_) (fun c30 => ?_)
      · simp (disch := omega) only [nI_leI, nI_ltI, nI_eq, nI_lt0, nI_ge0, nI_gt0, nI_le0, nI_eq0] at c30
        have hz : gTt (gR σ 0 0) (S.1 1) e lt j = 0 := if_neg (fun g => g.1 (by omega))
        rw [show nI ((List.range j).map (gTt (gR σ 0 0) (S.1 1) e lt)).sum = nI ((List.range (j + 1)).map (gTt (gR σ 0 0) (S.1 1) e lt)).sum by rw [range_sum_succ, hz, Nat.add_zero]]
        refine r_inc1 (q := 73) dX6_waysTo_70 rfl (Nat.le_of_ble_eq_true rfl) rfl rfl ?_
        show AW _ (_, _, _, _, _, _, _, _, _) _ _ _ _ [some _, some _, some _, some _, some _, some _, some _, some _] _ _
        refine r_goto (t := 6) dX6_waysTo_73 rfl ?_
        exact ih (7 - (j + 1)) (by omega) (j + 1) _ _ rfl (by omega)
      · simp (disch := omega) only [nI_leI, nI_ltI, nI_eq, nI_lt0, nI_ge0, nI_gt0, nI_le0, nI_eq0] at c30
        refine r_iload (q := 35) dX6_waysTo_33 rfl rfl ?_
        refine r_iload_n (q := 36) dX6_waysTo_35 rfl rfl ?_
        refine r_icmp_gt (t := 70) (q := 39) dX6_waysTo_36 rfl rfl (fun c36 => ?_) (fun c36 => ?_)
        · simp (disch := omega) only [nI_leI, nI_ltI, nI_eq, nI_lt0, nI_ge0, nI_gt0, nI_le0, nI_eq0] at c36
          have hz : gTt (gR σ 0 0) (S.1 1) e lt j = 0 := if_neg (fun g => absurd g.2.1 (by omega))
          rw [show nI ((List.range j).map (gTt (gR σ 0 0) (S.1 1) e lt)).sum = nI ((List.range (j + 1)).map (gTt (gR σ 0 0) (S.1 1) e lt)).sum by rw [range_sum_succ, hz, Nat.add_zero]]
          refine r_inc1 (q := 73) dX6_waysTo_70 rfl (Nat.le_of_ble_eq_true rfl) rfl rfl ?_
          show AW _ (_, _, _, _, _, _, _, _, _) _ _ _ _ [some _, some _, some _, some _, some _, some _, some _, some _] _ _
          refine r_goto (t := 6) dX6_waysTo_73 rfl ?_
          exact ih (7 - (j + 1)) (by omega) (j + 1) _ _ rfl (by omega)
        · simp (disch := omega) only [nI_leI, nI_ltI, nI_eq, nI_lt0, nI_ge0, nI_gt0, nI_le0, nI_eq0] at c36
          refine r_iload_n (q := 40) dX6_waysTo_39 rfl rfl ?_
          refine r_bipush (v := nI 6) (q := 42) dX6_waysTo_40 (by decide) rfl ?_
          refine r_iload (q := 44) dX6_waysTo_42 rfl rfl ?_
          refine r_isub (q := 45) dX6_waysTo_44 rfl ?_
          rw [n_sub (by omega)]
          refine r_ishr (q := 46) dX6_waysTo_45 rfl ?_
          rw [n_shr (w := lt) (by omega) (by omega)]
          refine r_iload (q := 48) dX6_waysTo_46 rfl rfl ?_
          refine r_cS (q := 51) (As := [.int _]) wc_X6_59 st_X7_bits rfl (Nat.le_of_ble_eq_true rfl) (Nat.le_of_eq (Nat.zero_add _)) (Nat.le_of_eq (Nat.zero_add _)) dX6_waysTo_48 rfl rfl (s_X7_bits (by omega) ?_)
          refine r_icmp_ne (t := 70) (q := 54) dX6_waysTo_51 rfl rfl (fun c51 => ?_) (fun c51 => ?_)
          · simp (disch := omega) only [nI_leI, nI_ltI, nI_eq, nI_lt0, nI_ge0, nI_gt0, nI_le0, nI_eq0] at c51
            have hz : gTt (gR σ 0 0) (S.1 1) e lt j = 0 := if_neg (fun g => c51 g.2.2)
            rw [show nI ((List.range j).map (gTt (gR σ 0 0) (S.1 1) e lt)).sum = nI ((List.range (j + 1)).map (gTt (gR σ 0 0) (S.1 1) e lt)).sum by rw [range_sum_succ, hz, Nat.add_zero]]
            refine r_inc1 (q := 73) dX6_waysTo_70 rfl (Nat.le_of_ble_eq_true rfl) rfl rfl ?_
            show AW _ (_, _, _, _, _, _, _, _, _) _ _ _ _ [some _, some _, some _, some _, some _, some _, some _, some _] _ _
            refine r_goto (t := 6) dX6_waysTo_73 rfl ?_
            exact ih (7 - (j + 1)) (by omega) (j + 1) _ _ rfl (by omega)
          · simp (disch := omega) only [nI_leI, nI_ltI, nI_eq, nI_lt0, nI_ge0, nI_gt0, nI_le0, nI_eq0] at c51
            have hz : gTt (gR σ 0 0) (S.1 1) e lt j = (S.1 1).getD (e - (gR σ 0 0).getD j 0 / 64) 0 := if_pos ⟨by omega, by omega, c51⟩
            refine r_iload (q := 56) dX6_waysTo_54 rfl rfl ?_
            refine r_aload_n (q := 57) dX6_waysTo_56 rfl rfl ?_
            refine r_get (q := 60) (kk := 1) h.sp rfl wi_RX6 (by decide) rfl fk_X6_20 rfl dX6_waysTo_57 rfl ?_
            refine r_iload_n (q := 61) dX6_waysTo_60 rfl rfl ?_
            refine r_iload (q := 63) dX6_waysTo_61 rfl rfl ?_
            refine r_isub (q := 64) dX6_waysTo_63 rfl ?_
            rw [n_sub (by omega)]
            refine r_cV (q := 67) (As := [.int _]) wc_X6_31 rfl im_X2_at se_X2_at (h.row (by decide)) rfl rfl (Nat.le_of_ble_eq_true rfl) (Nat.le_of_eq (Nat.zero_add _)) (Nat.le_of_eq (Nat.zero_add _)) dX6_waysTo_64 rfl rfl (t_atN h (by decide) (by omega) ?_)
            refine r_iadd (q := 68) dX6_waysTo_67 rfl ?_
            rw [n_add, ← hz, ← range_sum_succ]
            refine r_istore (q := 70) dX6_waysTo_68 (Nat.le_of_ble_eq_true rfl) rfl rfl ?_
            show AW _ (_, _, _, _, _, _, _, _, _) _ _ _ _ [some _, some _, some _, some _, some _, some _, some _, some _] _ _
            refine r_inc1 (q := 73) dX6_waysTo_70 rfl (Nat.le_of_ble_eq_true rfl) rfl rfl ?_
            show AW _ (_, _, _, _, _, _, _, _, _) _ _ _ _ [some _, some _, some _, some _, some _, some _, some _, some _] _ _
            refine r_goto (t := 6) dX6_waysTo_73 rfl ?_
            exact ih (7 - (j + 1)) (by omega) (j + 1) _ _ rfl (by omega)
  refine MS.of (by decide) (by simp [Value.category]) (Nat.le_of_ble_eq_true rfl) ?_
  show AW _ (_, _, _, _, _, _, _, _, _) _ _ _ _ [some _, some _, some _, some _, _, _, _, _] _ _
  refine r_iconst (v := nI 0) (q := 1) dX6_waysTo_0 (by decide) rfl ?_
  refine r_istore (q := 3) dX6_waysTo_1 (Nat.le_of_ble_eq_true rfl) rfl rfl ?_
  show AW _ (_, _, _, _, _, _, _, _, _) _ _ _ _ [some _, some _, some _, some _, some _, _, _, _] _ _
  refine r_iconst (v := nI 0) (q := 4) dX6_waysTo_3 (by decide) rfl ?_
  refine r_istore (q := 6) dX6_waysTo_4 (Nat.le_of_ble_eq_true rfl) rfl rfl ?_
  show AW _ (_, _, _, _, _, _, _, _, _) _ _ _ _ [some _, some _, some _, some _, some _, some _, _, _] _ _
  exact loop _ 0 none none rfl (by omega)
def gNx (n w st cm : Nat) : Bool := decide (w ≠ 0) && decide (st + w / 64 ≤ n) && decide (cm % 2 ^ (w / 64) = w % 64)
def gFt (W C : List Nat) (n st cm l : Nat) : Nat := if gNx n (W.getD l 0) st cm = true then C.getD (st + W.getD l 0 / 64) 0 else 0
def gWF (W C : List Nat) (n st cm : Nat) : Nat := min 9999 ((List.range 7).map (gFt W C n st cm)).sum
theorem gFt_le {W C : List Nat} (hC : ∀ x ∈ C, x < 10000) (n st cm l : Nat) : gFt W C n st cm l ≤ 9999 := by
  unfold gFt
  split
  · have := getD_all (by decide) hC (st + W.getD l 0 / 64); omega
  · omega
theorem gNx_f1 {n w st cm : Nat} (h : w = 0) : gNx n w st cm = false := by simp [gNx, h]
theorem gNx_f2 {n w st cm : Nat} (h : n < st + w / 64) : gNx n w st cm = false := by
  have : ¬ st + w / 64 ≤ n := by omega
  simp [gNx, this]
theorem gNx_f3 {n w st cm : Nat} (h : ¬ cm % 2 ^ (w / 64) = w % 64) : gNx n w st cm = false := by simp [gNx, h]
theorem gNx_t {n w st cm : Nat} (h1 : ¬ w = 0) (h2 : st + w / 64 ≤ n) (h3 : cm % 2 ^ (w / 64) = w % 64) : gNx n w st cm = true := by simp [gNx, h1, h2, h3]
theorem s_X6_isNext (h : RX G Λ ρ (sS σ 12 S) M) {w st cm : Nat} (hw : w < 448) (hst : st < 2 ^ 30) (hcm : cm < 64) (hQ : Q (some (.int (bI (gNx (S.1 0).length w st cm)))) M)  : MS G yX6_isNext cX6_isNext 5 (some .boolean) (d + 1) 0 0 [.ref (Λ (7, 0, 0)), .int (nI w), .int (nI st), .int (nI cm)] M Q QX := by
  have hlen := h.lenS (by decide : wR 12 0 = true)
  have hmod : cm % 2 ^ (w / 64) ≤ cm := Nat.mod_le _ _
  refine MS.of (by decide) (by simp [Value.category]) (Nat.le_of_ble_eq_true rfl) ?_
  show AW _ (_, _, _, _, _, _, _, _, _) _ _ _ _ [some _, some _, some _, some _, _] _ _
  refine r_iload_n (q := 1) dX6_isNext_0 rfl rfl ?_
  refine r_cS (q := 4) (As := [.int _]) wc_X6_40 st_X7_length rfl (Nat.le_of_ble_eq_true rfl) (Nat.le_of_eq (Nat.zero_add _)) (Nat.le_of_eq (Nat.zero_add _)) dX6_isNext_1 rfl rfl (s_X7_length (by omega) ?_)
  refine r_istore (q := 6) dX6_isNext_4 (Nat.le_of_ble_eq_true rfl) rfl rfl ?_
  show AW _ (_, _, _, _, _, _, _, _, _) _ _ _ _ [some _, some _, some _, some _, some _] _ _
  refine r_iload_n (q := 7) dX6_isNext_6 rfl rfl ?_
  refine r_if_eq (t := 42) (q := 10) dX6_isNext_7 rfl rfl (fun c7 => ?_) (fun c7 => ?_)
  · simp (disch := omega) only [nI_leI, nI_ltI, nI_eq, nI_lt0, nI_ge0, nI_gt0, nI_le0, nI_eq0] at c7
    rw [gNx_f1 c7] at hQ
    refine r_iconst (v := nI 0) (q := 43) dX6_isNext_42 (by decide) rfl ?_
    refine r_zret dX6_isNext_43 rfl ?_
    exact hQ
  · simp (disch := omega) only [nI_leI, nI_ltI, nI_eq, nI_lt0, nI_ge0, nI_gt0, nI_le0, nI_eq0] at c7
    refine r_iload_n (q := 11) dX6_isNext_10 rfl rfl ?_
    refine r_iload (q := 13) dX6_isNext_11 rfl rfl ?_
    refine r_iadd (q := 14) dX6_isNext_13 rfl ?_
    rw [n_add]
    refine r_aload_n (q := 15) dX6_isNext_14 rfl rfl ?_
    refine r_get (q := 18) (kk := 0) h.sp rfl wi_RX6 (by decide) rfl fk_X6_14 rfl dX6_isNext_15 rfl ?_
    refine r_cV (q := 21) (As := []) wc_X6_27 rfl im_X2_size se_X2_size (h.row (by decide)) rfl rfl (Nat.le_of_ble_eq_true rfl) (Nat.le_of_eq (Nat.zero_add _)) (Nat.le_of_eq (Nat.zero_add _)) dX6_isNext_18 rfl rfl (t_size h (by decide) ?_)
    refine r_icmp_gt (t := 42) (q := 24) dX6_isNext_21 rfl rfl (fun c21 => ?_) (fun c21 => ?_)
    · simp (disch := omega) only [nI_leI, nI_ltI, nI_eq, nI_lt0, nI_ge0, nI_gt0, nI_le0, nI_eq0] at c21
      rw [gNx_f2 (by omega)] at hQ
      refine r_iconst (v := nI 0) (q := 43) dX6_isNext_42 (by decide) rfl ?_
      refine r_zret dX6_isNext_43 rfl ?_
      exact hQ
    · simp (disch := omega) only [nI_leI, nI_ltI, nI_eq, nI_lt0, nI_ge0, nI_gt0, nI_le0, nI_eq0] at c21
      refine r_iload_n (q := 25) dX6_isNext_24 rfl rfl ?_
      refine r_iload (q := 27) dX6_isNext_25 rfl rfl ?_
      refine r_cS (q := 30) (As := [.int _]) wc_X6_67 st_X7_mask rfl (Nat.le_of_ble_eq_true rfl) (Nat.le_of_eq (Nat.zero_add _)) (Nat.le_of_eq (Nat.zero_add _)) dX6_isNext_27 rfl rfl (s_X7_mask (by omega) ?_)
      refine r_iand (q := 31) dX6_isNext_30 rfl ?_
      rw [n_mask]
      refine r_iload_n (q := 32) dX6_isNext_31 rfl rfl ?_
      refine r_cS (q := 35) (As := [.int _]) wc_X6_59 st_X7_bits rfl (Nat.le_of_ble_eq_true rfl) (Nat.le_of_eq (Nat.zero_add _)) (Nat.le_of_eq (Nat.zero_add _)) dX6_isNext_32 rfl rfl (s_X7_bits (by omega) ?_)
      refine r_icmp_ne (t := 42) (q := 38) dX6_isNext_35 rfl rfl (fun c35 => ?_) (fun c35 => ?_)
      · simp (disch := omega) only [nI_leI, nI_ltI, nI_eq, nI_lt0, nI_ge0, nI_gt0, nI_le0, nI_eq0] at c35
        rw [gNx_f3 c35] at hQ
        refine r_iconst (v := nI 0) (q := 43) dX6_isNext_42 (by decide) rfl ?_
        refine r_zret dX6_isNext_43 rfl ?_
        exact hQ
      · simp (disch := omega) only [nI_leI, nI_ltI, nI_eq, nI_lt0, nI_ge0, nI_gt0, nI_le0, nI_eq0] at c35
        rw [gNx_t c7 (by omega) c35] at hQ
        refine r_iconst (v := nI 1) (q := 39) dX6_isNext_38 (by decide) rfl ?_
        refine r_goto (t := 43) dX6_isNext_39 rfl ?_
        refine r_zret dX6_isNext_43 rfl ?_
        exact hQ
theorem s_X6_waysFrom (h : RX G Λ ρ (sS σ 12 S) M) (hwd : ∀ x ∈ gR σ 0 0, x < 448) (hC : ∀ x ∈ S.1 1, x < 10000) {st cm : Nat} (hst : st < 2 ^ 30) (hcm : cm < 64) (hQ : Q (some (.int (nI (gWF (gR σ 0 0) (S.1 1) (S.1 0).length st cm)))) M)  : MS G yX6_waysFrom cX6_waysFrom 7 (some .int) (d + 2) 0 0 [.ref (Λ (7, 0, 0)), .ref (Λ (2, 0, 0)), .int (nI st), .int (nI cm)] M Q QX := by
  have loop : ∀ (m : Nat) j u, m = 7 - j → j ≤ 7 → AW G (wX G yX6_waysFrom cX6_waysFrom 7 (some .int) 0 0 Q QX) (d + 2) 0 0 6 [some (.ref (Λ (7, 0, 0))), some (.ref (Λ (2, 0, 0))), some (.int (nI st)), some (.int (nI cm)), some (.int (nI ((List.range j).map (gFt (gR σ 0 0) (S.1 1) (S.1 0).length st cm)).sum)), some (.int (nI j)), u] [] M := by
    intro m
    induction m using Nat.strongRecOn with
    | _ m ih =>
    intro j u hm hj
    subst hm
    have hbd := sum_le (gFt_le (W := gR σ 0 0) hC (S.1 0).length st cm) 7
    refine r_iload (q := 8) dX6_waysFrom_6 rfl rfl ?_
    refine r_bipush (v := nI 7) (q := 10) dX6_waysFrom_8 (by decide) rfl ?_
    refine r_icmp_ge (t := 57) (q := 13) dX6_waysFrom_10 rfl rfl (fun c10 => ?_) (fun c10 => ?_)
    · simp (disch := omega) only [nI_leI, nI_ltI, nI_eq, nI_lt0, nI_ge0, nI_gt0, nI_le0, nI_eq0] at c10
      obtain rfl : j = 7 := by omega
      refine r_iload (q := 59) dX6_waysFrom_57 rfl rfl ?_
      refine r_sipush (v := nI 9999) (q := 62) dX6_waysFrom_59 (by decide) rfl ?_
      refine r_mmin (q := 65) ml_X6_62 dX6_waysFrom_62 rfl (Nat.le_of_ble_eq_true rfl) ?_
      rw [min_nI' (by omega) (by decide)]
      refine r_iret dX6_waysFrom_65 ?_
      exact hQ
    · simp (disch := omega) only [nI_leI, nI_ltI, nI_eq, nI_lt0, nI_ge0, nI_gt0, nI_le0, nI_eq0] at c10
      have hw : (gR σ 0 0).getD j 0 < 448 := getD_all (by decide) hwd j
      refine r_aload_n (q := 14) dX6_waysFrom_13 rfl rfl ?_
      refine r_iload (q := 16) dX6_waysFrom_14 rfl rfl ?_
      refine r_cV (q := 19) (As := [.int _]) wc_X6_31 rfl im_X2_at se_X2_at (h.row (by decide)) rfl rfl (Nat.le_of_ble_eq_true rfl) (Nat.le_of_eq (Nat.zero_add _)) (Nat.le_of_eq (Nat.zero_add _)) dX6_waysFrom_16 rfl rfl (t_atO h (by decide) (by decide) (by omega) ?_)
      refine r_istore (q := 21) dX6_waysFrom_19 (Nat.le_of_ble_eq_true rfl) rfl rfl ?_
      show AW _ (_, _, _, _, _, _, _, _, _) _ _ _ _ [some _, some _, some _, some _, some _, some _, some _] _ _
      refine r_aload_n (q := 22) dX6_waysFrom_21 rfl rfl ?_
      refine r_iload (q := 24) dX6_waysFrom_22 rfl rfl ?_
      refine r_iload_n (q := 25) dX6_waysFrom_24 rfl rfl ?_
      refine r_iload_n (q := 26) dX6_waysFrom_25 rfl rfl ?_
      refine r_cV (q := 29) (As := [.int _, .int _, .int _]) wc_X6_73 rfl im_X6_isNext se_X6_isNext h.sp rfl rfl (Nat.le_of_ble_eq_true rfl) (Nat.le_of_eq (Nat.zero_add _)) (Nat.le_of_eq (Nat.zero_add _)) dX6_waysFrom_26 rfl rfl (s_X6_isNext h hw hst hcm ?_)
      refine r_if_eq (t := 51) (q := 32) dX6_waysFrom_29 rfl rfl (fun c29 => ?_) (fun c29 => ?_)
      · have hz : gFt (gR σ 0 0) (S.1 1) (S.1 0).length st cm j = 0 := if_neg (by rw [bI_eq0.mp c29]; decide)
        rw [show nI ((List.range j).map (gFt (gR σ 0 0) (S.1 1) (S.1 0).length st cm)).sum = nI ((List.range (j + 1)).map (gFt (gR σ 0 0) (S.1 1) (S.1 0).length st cm)).sum by rw [range_sum_succ, hz, Nat.add_zero]]
        refine r_inc1 (q := 54) dX6_waysFrom_51 rfl (Nat.le_of_ble_eq_true rfl) rfl rfl ?_
        show AW _ (_, _, _, _, _, _, _, _, _) _ _ _ _ [some _, some _, some _, some _, some _, some _, some _] _ _
        refine r_goto (t := 6) dX6_waysFrom_54 rfl ?_
        exact ih (7 - (j + 1)) (by omega) (j + 1) _ rfl (by omega)
      · have hz : gFt (gR σ 0 0) (S.1 1) (S.1 0).length st cm j = (S.1 1).getD (st + (gR σ 0 0).getD j 0 / 64) 0 := if_pos (bI_ne c29)
        refine r_iload (q := 34) dX6_waysFrom_32 rfl rfl ?_
        refine r_aload_n (q := 35) dX6_waysFrom_34 rfl rfl ?_
        refine r_get (q := 38) (kk := 1) h.sp rfl wi_RX6 (by decide) rfl fk_X6_20 rfl dX6_waysFrom_35 rfl ?_
        refine r_iload_n (q := 39) dX6_waysFrom_38 rfl rfl ?_
        refine r_iload (q := 41) dX6_waysFrom_39 rfl rfl ?_
        refine r_cS (q := 44) (As := [.int _]) wc_X6_40 st_X7_length rfl (Nat.le_of_ble_eq_true rfl) (Nat.le_of_eq (Nat.zero_add _)) (Nat.le_of_eq (Nat.zero_add _)) dX6_waysFrom_41 rfl rfl (s_X7_length (by omega) ?_)
        refine r_iadd (q := 45) dX6_waysFrom_44 rfl ?_
        rw [n_add]
        refine r_cV (q := 48) (As := [.int _]) wc_X6_31 rfl im_X2_at se_X2_at (h.row (by decide)) rfl rfl (Nat.le_of_ble_eq_true rfl) (Nat.le_of_eq (Nat.zero_add _)) (Nat.le_of_eq (Nat.zero_add _)) dX6_waysFrom_45 rfl rfl (t_atN h (by decide) (by omega) ?_)
        refine r_iadd (q := 49) dX6_waysFrom_48 rfl ?_
        rw [n_add, ← hz, ← range_sum_succ]
        refine r_istore (q := 51) dX6_waysFrom_49 (Nat.le_of_ble_eq_true rfl) rfl rfl ?_
        show AW _ (_, _, _, _, _, _, _, _, _) _ _ _ _ [some _, some _, some _, some _, some _, some _, some _] _ _
        refine r_inc1 (q := 54) dX6_waysFrom_51 rfl (Nat.le_of_ble_eq_true rfl) rfl rfl ?_
        show AW _ (_, _, _, _, _, _, _, _, _) _ _ _ _ [some _, some _, some _, some _, some _, some _, some _] _ _
        refine r_goto (t := 6) dX6_waysFrom_54 rfl ?_
        exact ih (7 - (j + 1)) (by omega) (j + 1) _ rfl (by omega)
  refine MS.of (by decide) (by simp [Value.category]) (Nat.le_of_ble_eq_true rfl) ?_
  show AW _ (_, _, _, _, _, _, _, _, _) _ _ _ _ [some _, some _, some _, some _, _, _, _] _ _
  refine r_iconst (v := nI 0) (q := 1) dX6_waysFrom_0 (by decide) rfl ?_
  refine r_istore (q := 3) dX6_waysFrom_1 (Nat.le_of_ble_eq_true rfl) rfl rfl ?_
  show AW _ (_, _, _, _, _, _, _, _, _) _ _ _ _ [some _, some _, some _, some _, some _, _, _] _ _
  refine r_iconst (v := nI 0) (q := 4) dX6_waysFrom_3 (by decide) rfl ?_
  refine r_istore (q := 6) dX6_waysFrom_4 (Nat.le_of_ble_eq_true rfl) rfl rfl ?_
  show AW _ (_, _, _, _, _, _, _, _, _) _ _ _ _ [some _, some _, some _, some _, some _, some _, _] _ _
  exact loop _ 0 none rfl (by omega)
end W30
