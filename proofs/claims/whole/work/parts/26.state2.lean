/-! A STATE'S METHODS: counting, whistles, fines -/
section W26
variable {G : En} {Λ : Ob → Nat} {ρ : Me} {σ : Sg} {M : Me} {d : Nat} {Q : Option Value → Me → Prop} {QX : String → Me → Prop} {a : Nat} {S : St}
theorem take_s {L : List Nat} {j : Nat} (h : j < L.length) : L.take (j + 1) = L.take j ++ [L.getD j 0] := by
  rw [List.take_succ, List.getElem?_eq_getElem h, getD_lt h]; rfl
theorem countP_s {L : List Nat} {j : Nat} {p : Nat → Bool} (h : j < L.length) : (L.take (j + 1)).countP p = (L.take j).countP p + (if p (L.getD j 0) = true then 1 else 0) := by
  rw [take_s h, List.countP_append, List.countP_singleton]
theorem sumM_s {L : List Nat} {j : Nat} {f : Nat → Nat} (h : j < L.length) : ((L.take (j + 1)).map f).sum = ((L.take j).map f).sum + f (L.getD j 0) := by
  rw [take_s h, List.map_append, List.sum_append]; simp
theorem foldl_s {α : Type} {L : List Nat} {j : Nat} {f : α → Nat → α} {x : α} (h : j < L.length) : (L.take (j + 1)).foldl f x = f ((L.take j).foldl f x) (L.getD j 0) := by
  rw [take_s h, List.foldl_append]; rfl
theorem foldr_s {α : Type} {n : Nat} {f : α → Nat → α} {x : α} : (List.range (n + 1)).foldl f x = f ((List.range n).foldl f x) n := by
  rw [List.range_succ, List.foldl_append]; rfl
theorem pop6_lt (n : Nat) : pop6 n ≤ 6 := by unfold pop6; omega
theorem stm_lt {w : Nat} (h : w < 448) : stm w ≤ 12 := by have := pop6_lt (w % 64); unfold stm; omega
def gSn (s k : Nat) : Int32 := if k = 0 then nI (dT s) else if k = 1 then nI (dW s) else if k = 2 then eI (dE s) else if k = 3 then nI (dD s / 64) else nI (dD s % 64)
theorem s_X4_number {s k : Nat} (hs : s < 2 ^ 31) (hk : k < 5) (hQ : Q (some (.int (gSn s k))) M)  : MS G yX4_number cX4_number 2 (some .int) (d + 1) 0 0 [.int (nI s), .int (nI k)] M Q QX := by
  refine MS.of (by decide) (by simp [Value.category]) (Nat.le_of_ble_eq_true rfl) ?_
  show AW _ (_, _, _, _, _, _, _, _, _) _ _ _ _ [some _, some _] _ _
  refine r_iload_n (q := 1) dX4_number_0 rfl rfl ?_
  have hc : k = 0 ∨ k = 1 ∨ k = 2 ∨ k = 3 ∨ k = 4 := by omega
  rcases hc with rfl | rfl | rfl | rfl | rfl
  · refine r_tableIn dX4_number_1 (by decide) (by decide) rfl rfl ?_
    refine r_iload_n (q := 33) dX4_number_32 rfl rfl ?_
    refine r_cS (q := 36) (As := [.int _]) wc_X4_11 st_X4_told rfl (Nat.le_of_ble_eq_true rfl) (Nat.le_of_eq (Nat.zero_add _)) (Nat.le_of_eq (Nat.zero_add _)) dX4_number_33 rfl rfl (s_X4_told hs ?_)
    refine r_iret dX4_number_36 ?_
    exact hQ
  · refine r_tableIn dX4_number_1 (by decide) (by decide) rfl rfl ?_
    refine r_iload_n (q := 38) dX4_number_37 rfl rfl ?_
    refine r_cS (q := 41) (As := [.int _]) wc_X4_15 st_X4_whistler rfl (Nat.le_of_ble_eq_true rfl) (Nat.le_of_eq (Nat.zero_add _)) (Nat.le_of_eq (Nat.zero_add _)) dX4_number_38 rfl rfl (s_X4_whistler hs ?_)
    refine r_iret dX4_number_41 ?_
    exact hQ
  · refine r_tableIn dX4_number_1 (by decide) (by decide) rfl rfl ?_
    refine r_iload_n (q := 43) dX4_number_42 rfl rfl ?_
    refine r_cS (q := 46) (As := [.int _]) wc_X4_18 st_X4_echoer rfl (Nat.le_of_ble_eq_true rfl) (Nat.le_of_eq (Nat.zero_add _)) (Nat.le_of_eq (Nat.zero_add _)) dX4_number_43 rfl rfl (s_X4_echoer hs ?_)
    refine r_iret dX4_number_46 ?_
    exact hQ
  · refine r_tableIn dX4_number_1 (by decide) (by decide) rfl rfl ?_
    refine r_iload_n (q := 48) dX4_number_47 rfl rfl ?_
    refine r_cS (q := 51) (As := [.int _]) wc_X4_21 st_X4_word rfl (Nat.le_of_ble_eq_true rfl) (Nat.le_of_eq (Nat.zero_add _)) (Nat.le_of_eq (Nat.zero_add _)) dX4_number_48 rfl rfl (s_X4_word hs ?_)
    refine r_cS (q := 54) (As := [.int _]) wc_X4_24 st_X7_length rfl (Nat.le_of_ble_eq_true rfl) (Nat.le_of_eq (Nat.zero_add _)) (Nat.le_of_eq (Nat.zero_add _)) dX4_number_51 rfl rfl (s_X7_length (Nat.lt_trans (dD_lt s) (by decide)) ?_)
    refine r_iret dX4_number_54 ?_
    exact hQ
  · refine r_tableOut dX4_number_1 (Or.inr (by decide)) rfl ?_
    refine r_iload_n (q := 56) dX4_number_55 rfl rfl ?_
    refine r_cS (q := 59) (As := [.int _]) wc_X4_21 st_X4_word rfl (Nat.le_of_ble_eq_true rfl) (Nat.le_of_eq (Nat.zero_add _)) (Nat.le_of_eq (Nat.zero_add _)) dX4_number_56 rfl rfl (s_X4_word hs ?_)
    refine r_cS (q := 62) (As := [.int _]) wc_X4_29 st_X7_bits rfl (Nat.le_of_ble_eq_true rfl) (Nat.le_of_eq (Nat.zero_add _)) (Nat.le_of_eq (Nat.zero_add _)) dX4_number_59 rfl rfl (s_X7_bits (Nat.lt_trans (dD_lt s) (by decide)) ?_)
    refine r_iret dX4_number_62 ?_
    exact hQ
theorem s_X5_fineOf (h : RX G Λ ρ (sS σ a S) M) (ha : a < 11) {l : Nat} (hl : l < 7) (hQ : Q (some (.int (nI (2 * (S.1 4).getD l 0)))) M)  : MS G yX5_fineOf cX5_fineOf 2 (some .int) (d + 1) 0 0 [.ref (Λ (1, a, 0)), .int (nI l)] M Q QX := by
  refine MS.of (by decide) (by simp [Value.category]) (Nat.le_of_ble_eq_true rfl) ?_
  show AW _ (_, _, _, _, _, _, _, _, _) _ _ _ _ [some _, some _] _ _
  refine r_iconst (v := nI 2) (q := 1) dX5_fineOf_0 (by decide) rfl ?_
  refine r_aload_n (q := 2) dX5_fineOf_1 rfl rfl ?_
  refine r_get (q := 5) (kk := 4) (h.st ha) rfl wi_RX5 (by decide) rfl fk_X5_29 rfl dX5_fineOf_2 rfl ?_
  refine r_iload_n (q := 6) dX5_fineOf_5 rfl rfl ?_
  refine r_cV (q := 9) (As := [.int _]) wc_X5_94 rfl im_X2_at se_X2_at (h.row (wRs ha (by decide))) rfl rfl (Nat.le_of_ble_eq_true rfl) (Nat.le_of_eq (Nat.zero_add _)) (Nat.le_of_eq (Nat.zero_add _)) dX5_fineOf_6 rfl rfl (t_atN h (wRs ha (by decide)) (by omega) ?_)
  refine r_imul (q := 10) dX5_fineOf_9 rfl ?_
  rw [n_mul]
  refine r_iret dX5_fineOf_10 ?_
  exact hQ
theorem s_X5_silence (h : RX G Λ ρ (sS σ a S) M) (ha : a < 11) {l m : Nat} (hl : l < 7) (hm : m < 10) (hQ : ∀ M', RX G Λ ρ (sS σ a (uR S 4 ((S.1 4).set l m))) M' → Q (some (.int (nI (((S.1 4).set l m).countP (0 < ·))))) M')  : MS G yX5_silence cX5_silence 3 (some .int) (d + 1) 0 0 [.ref (Λ (1, a, 0)), .int (nI l), .int (nI m)] M Q QX := by
  refine MS.of (by decide) (by simp [Value.category]) (Nat.le_of_ble_eq_true rfl) ?_
  show AW _ (_, _, _, _, _, _, _, _, _) _ _ _ _ [some _, some _, some _] _ _
  refine r_aload_n (q := 1) dX5_silence_0 rfl rfl ?_
  refine r_get (q := 4) (kk := 4) (h.st ha) rfl wi_RX5 (by decide) rfl fk_X5_29 rfl dX5_silence_1 rfl ?_
  refine r_iload_n (q := 5) dX5_silence_4 rfl rfl ?_
  refine r_iload_n (q := 6) dX5_silence_5 rfl rfl ?_
  refine r_cV (q := 9) (As := [.int _, .int _]) wc_X5_80 rfl im_X2_put se_X2_put (h.row (wRs ha (by decide))) rfl rfl (Nat.le_of_ble_eq_true rfl) (Nat.le_of_eq (Nat.zero_add _)) (Nat.le_of_eq (Nat.zero_add _)) dX5_silence_6 rfl rfl (t_putN h (wRs ha (by decide)) rfl (by omega) (by omega) fun M_6 h_6 => ?_)
  refine r_aload_n (q := 10) dX5_silence_9 rfl rfl ?_
  refine r_get (q := 13) (kk := 4) (h_6.st ha) rfl wi_RX5 (by decide) rfl fk_X5_29 rfl dX5_silence_10 rfl ?_
  refine r_cV (q := 16) (As := []) wc_X5_97 rfl im_X2_numberAboveZero se_X2_numberAboveZero (h_6.row (wRs ha (by decide))) rfl rfl (Nat.le_of_ble_eq_true rfl) (Nat.le_of_eq (Nat.zero_add _)) (Nat.le_of_eq (Nat.zero_add _)) dX5_silence_13 rfl rfl (t_many h_6 (wRs ha (by decide)) ?_)
  refine r_iret dX5_silence_16 ?_
  exact hQ _ h_6
def fPay (S : St) (l : Nat) : St := uR (uI (uR S 3 ((S.1 3).set l ((S.1 3).getD l 0 - 2 * (S.1 4).getD l 0))) 3 (S.2 3 + 2 * (S.1 4).getD l 0)) 4 ((S.1 4).set l 0)
theorem s_X5_payFine (h : RX G Λ ρ (sS σ a S) M) (ha : a < 11) {l : Nat} (hl : l < 7) (hc : 2 * (S.1 4).getD l 0 ≤ (S.1 3).getD l 0) (hQ : ∀ M', RX G Λ ρ (sS σ a (fPay S l)) M' → Q (some (.int (nI (((S.1 3).set l ((S.1 3).getD l 0 - 2 * (S.1 4).getD l 0)).getD l 0)))) M')  : MS G yX5_payFine cX5_payFine 3 (some .int) (d + 2) 0 0 [.ref (Λ (1, a, 0)), .int (nI l)] M Q QX := by
  refine MS.of (by decide) (by simp [Value.category]) (Nat.le_of_ble_eq_true rfl) ?_
  show AW _ (_, _, _, _, _, _, _, _, _) _ _ _ _ [some _, some _, _] _ _
  refine r_aload_n (q := 1) dX5_payFine_0 rfl rfl ?_
  refine r_iload_n (q := 2) dX5_payFine_1 rfl rfl ?_
  refine r_cV (q := 5) (As := [.int _]) wc_X5_126 rfl im_X5_fineOf se_X5_fineOf (h.st ha) rfl rfl (Nat.le_of_ble_eq_true rfl) (Nat.le_of_eq (Nat.zero_add _)) (Nat.le_of_eq (Nat.zero_add _)) dX5_payFine_2 rfl rfl (s_X5_fineOf h ha hl ?_)
  refine r_istore_n (q := 6) dX5_payFine_5 (Nat.le_of_ble_eq_true rfl) rfl rfl ?_
  show AW _ (_, _, _, _, _, _, _, _, _) _ _ _ _ [some _, some _, some _] _ _
  refine r_aload_n (q := 7) dX5_payFine_6 rfl rfl ?_
  refine r_get (q := 10) (kk := 3) (h.st ha) rfl wi_RX5 (by decide) rfl fk_X5_26 rfl dX5_payFine_7 rfl ?_
  refine r_iload_n (q := 11) dX5_payFine_10 rfl rfl ?_
  refine r_iload_n (q := 12) dX5_payFine_11 rfl rfl ?_
  refine r_ineg (q := 13) dX5_payFine_12 rfl ?_
  refine r_cV (q := 16) (As := [.int _, .int _]) wc_X5_105 rfl im_X2_raise se_X2_raise (h.row (wRs ha (by decide))) rfl rfl (Nat.le_of_ble_eq_true rfl) (Nat.le_of_eq (Nat.zero_add _)) (Nat.le_of_eq (Nat.zero_add _)) dX5_payFine_13 rfl rfl (t_raiseN h (wRs ha (by decide)) (by omega) (n_neg _ _ hc) (Nat.lt_of_le_of_lt (Nat.sub_le _ _) (t_lt h (wRs ha (by decide)) l)) fun M_13 h_13 => ?_)
  refine r_aload_n (q := 17) dX5_payFine_16 rfl rfl ?_
  refine r_dup (q := 18) dX5_payFine_17 rfl rfl ?_
  refine r_get (q := 21) (kk := 16) (h_13.st ha) rfl wi_RX5 (by decide) rfl fk_X5_66 rfl dX5_payFine_18 rfl ?_
  rw [gI_s, uR_2]
  refine r_iload_n (q := 22) dX5_payFine_21 rfl rfl ?_
  refine r_iadd (q := 23) dX5_payFine_22 rfl ?_
  rw [n_add]
  refine r_p5 (q := 26) (kk := 16) (j := 3) h_13 ha (by decide) rfl fk_X5_66 dX5_payFine_23 rfl fun M_23 h_23 => ?_
  refine r_aload_n (q := 27) dX5_payFine_26 rfl rfl ?_
  refine r_get (q := 30) (kk := 4) (h_23.st ha) rfl wi_RX5 (by decide) rfl fk_X5_29 rfl dX5_payFine_27 rfl ?_
  refine r_iload_n (q := 31) dX5_payFine_30 rfl rfl ?_
  refine r_iconst (v := nI 0) (q := 32) dX5_payFine_31 (by decide) rfl ?_
  refine r_cV (q := 35) (As := [.int _, .int _]) wc_X5_80 rfl im_X2_put se_X2_put (h_23.row (wRs ha (by decide))) rfl rfl (Nat.le_of_ble_eq_true rfl) (Nat.le_of_eq (Nat.zero_add _)) (Nat.le_of_eq (Nat.zero_add _)) dX5_payFine_32 rfl rfl (t_putN h_23 (wRs ha (by decide)) rfl (by omega) (by decide) fun M_32 h_32 => ?_)
  refine r_aload_n (q := 36) dX5_payFine_35 rfl rfl ?_
  refine r_get (q := 39) (kk := 3) (h_32.st ha) rfl wi_RX5 (by decide) rfl fk_X5_26 rfl dX5_payFine_36 rfl ?_
  refine r_iload_n (q := 40) dX5_payFine_39 rfl rfl ?_
  refine r_cV (q := 43) (As := [.int _]) wc_X5_94 rfl im_X2_at se_X2_at (h_32.row (wRs ha (by decide))) rfl rfl (Nat.le_of_ble_eq_true rfl) (Nat.le_of_eq (Nat.zero_add _)) (Nat.le_of_eq (Nat.zero_add _)) dX5_payFine_40 rfl rfl (t_atN h_32 (wRs ha (by decide)) (by omega) ?_)
  refine r_iret dX5_payFine_43 ?_
  exact hQ _ h_32
theorem s_X5_numberHeard (h : RX G Λ ρ (sS σ a S) M) (ha : a < 11) (hQ : Q (some (.int (nI ((S.1 11).countP fun s => !dX s)))) M)  : MS G yX5_numberHeard cX5_numberHeard 3 (some .int) (d + 1) 0 0 [.ref (Λ (1, a, 0))] M Q QX := by
  have loop : ∀ (m : Nat) j, m = (S.1 11).length - j → j ≤ (S.1 11).length → AW G (wX G yX5_numberHeard cX5_numberHeard 3 (some .int) 0 0 Q QX) (d + 1) 0 0 4 [some (.ref (Λ (1, a, 0))), some (.int (nI (((S.1 11).take j).countP fun s => !dX s))), some (.int (nI j))] [] M := by
    intro m
    induction m using Nat.strongRecOn with
    | _ m ih =>
    intro j hm hj
    subst hm
    have hlen := h.lenS (wRs ha (by decide : 11 < 13))
    refine r_iload_n (q := 5) dX5_numberHeard_4 rfl rfl ?_
    refine r_aload_n (q := 6) dX5_numberHeard_5 rfl rfl ?_
    refine r_get (q := 9) (kk := 11) (h.st ha) rfl wi_RX5 (by decide) rfl fk_X5_50 rfl dX5_numberHeard_6 rfl ?_
    refine r_cV (q := 12) (As := []) wc_X5_143 rfl im_X2_size se_X2_size (h.row (wRs ha (by decide))) rfl rfl (Nat.le_of_ble_eq_true rfl) (Nat.le_of_eq (Nat.zero_add _)) (Nat.le_of_eq (Nat.zero_add _)) dX5_numberHeard_9 rfl rfl (t_size h (wRs ha (by decide)) ?_)
    refine r_icmp_ge (t := 38) (q := 15) dX5_numberHeard_12 rfl rfl (fun c12 => ?_) (fun c12 => ?_)
    · simp (disch := omega) only [nI_leI, nI_ltI, nI_eq, nI_lt0, nI_ge0, nI_gt0, nI_le0, nI_eq0] at c12
      refine r_iload_n (q := 39) dX5_numberHeard_38 rfl rfl ?_
      refine r_iret dX5_numberHeard_39 ?_
      rw [List.take_of_length_le c12]
      exact hQ
    · simp (disch := omega) only [nI_leI, nI_ltI, nI_eq, nI_lt0, nI_ge0, nI_gt0, nI_le0, nI_eq0] at c12
      replace c12 := Nat.lt_of_not_le c12
      refine r_aload_n (q := 16) dX5_numberHeard_15 rfl rfl ?_
      refine r_get (q := 19) (kk := 11) (h.st ha) rfl wi_RX5 (by decide) rfl fk_X5_50 rfl dX5_numberHeard_16 rfl ?_
      refine r_iload_n (q := 20) dX5_numberHeard_19 rfl rfl ?_
      refine r_cV (q := 23) (As := [.int _]) wc_X5_94 rfl im_X2_at se_X2_at (h.row (wRs ha (by decide))) rfl rfl (Nat.le_of_ble_eq_true rfl) (Nat.le_of_eq (Nat.zero_add _)) (Nat.le_of_eq (Nat.zero_add _)) dX5_numberHeard_20 rfl rfl (t_atN h (wRs ha (by decide)) (by omega) ?_)
      refine r_cS (q := 26) (As := [.int _]) wc_X5_161 st_X4_isExposed rfl (Nat.le_of_ble_eq_true rfl) (Nat.le_of_eq (Nat.zero_add _)) (Nat.le_of_eq (Nat.zero_add _)) dX5_numberHeard_23 rfl rfl (s_X4_isExposed (t_lt h (wRs ha (by decide)) _) ?_)
      refine r_if_ne (t := 32) (q := 29) dX5_numberHeard_26 rfl rfl (fun c26 => ?_) (fun c26 => ?_)
      · rw [show ((S.1 11).take j).countP (fun s => !dX s) = ((S.1 11).take (j + 1)).countP (fun s => !dX s) by rw [countP_s c12, bI_ne c26]; rfl]
        refine r_inc1 (q := 35) dX5_numberHeard_32 rfl (Nat.le_of_ble_eq_true rfl) rfl rfl ?_
        show AW _ (_, _, _, _, _, _, _, _, _) _ _ _ _ [some _, some _, some _] _ _
        refine r_goto (t := 4) dX5_numberHeard_35 rfl ?_
        exact ih ((S.1 11).length - (j + 1)) (by omega) (j + 1) rfl (by omega)
      · refine r_inc1 (q := 32) dX5_numberHeard_29 rfl (Nat.le_of_ble_eq_true rfl) rfl rfl ?_
        show AW _ (_, _, _, _, _, _, _, _, _) _ _ _ _ [some _, some _, some _] _ _
        rw [show ((S.1 11).take j).countP (fun s => !dX s) + 1 = ((S.1 11).take (j + 1)).countP (fun s => !dX s) by rw [countP_s c12, bI_eq0.mp c26]; rfl]
        refine r_inc1 (q := 35) dX5_numberHeard_32 rfl (Nat.le_of_ble_eq_true rfl) rfl rfl ?_
        show AW _ (_, _, _, _, _, _, _, _, _) _ _ _ _ [some _, some _, some _] _ _
        refine r_goto (t := 4) dX5_numberHeard_35 rfl ?_
        exact ih ((S.1 11).length - (j + 1)) (by omega) (j + 1) rfl (by omega)
  refine MS.of (by decide) (by simp [Value.category]) (Nat.le_of_ble_eq_true rfl) ?_
  show AW _ (_, _, _, _, _, _, _, _, _) _ _ _ _ [some _, _, _] _ _
  refine r_iconst (v := nI 0) (q := 1) dX5_numberHeard_0 (by decide) rfl ?_
  refine r_istore_n (q := 2) dX5_numberHeard_1 (Nat.le_of_ble_eq_true rfl) rfl rfl ?_
  show AW _ (_, _, _, _, _, _, _, _, _) _ _ _ _ [some _, some _, _] _ _
  refine r_iconst (v := nI 0) (q := 3) dX5_numberHeard_2 (by decide) rfl ?_
  refine r_istore_n (q := 4) dX5_numberHeard_3 (Nat.le_of_ble_eq_true rfl) rfl rfl ?_
  show AW _ (_, _, _, _, _, _, _, _, _) _ _ _ _ [some _, some _, some _] _ _
  exact loop _ 0 rfl (by omega)
theorem s_X5_lettersOnStrip (h : RX G Λ ρ (sS σ a S) M) (ha : a < 11) (hQ : Q (some (.int (nI ((S.1 11).map fun s => dD s / 64).sum))) M)  : MS G yX5_lettersOnStrip cX5_lettersOnStrip 3 (some .int) (d + 1) 0 0 [.ref (Λ (1, a, 0))] M Q QX := by
  have loop : ∀ (m : Nat) j, m = (S.1 11).length - j → j ≤ (S.1 11).length → AW G (wX G yX5_lettersOnStrip cX5_lettersOnStrip 3 (some .int) 0 0 Q QX) (d + 1) 0 0 4 [some (.ref (Λ (1, a, 0))), some (.int (nI (((S.1 11).take j).map fun s => dD s / 64).sum)), some (.int (nI j))] [] M := by
    intro m
    induction m using Nat.strongRecOn with
    | _ m ih =>
    intro j hm hj
    subst hm
    have hlen := h.lenS (wRs ha (by decide : 11 < 13))
    refine r_iload_n (q := 5) dX5_lettersOnStrip_4 rfl rfl ?_
    refine r_aload_n (q := 6) dX5_lettersOnStrip_5 rfl rfl ?_
    refine r_get (q := 9) (kk := 11) (h.st ha) rfl wi_RX5 (by decide) rfl fk_X5_50 rfl dX5_lettersOnStrip_6 rfl ?_
    refine r_cV (q := 12) (As := []) wc_X5_143 rfl im_X2_size se_X2_size (h.row (wRs ha (by decide))) rfl rfl (Nat.le_of_ble_eq_true rfl) (Nat.le_of_eq (Nat.zero_add _)) (Nat.le_of_eq (Nat.zero_add _)) dX5_lettersOnStrip_9 rfl rfl (t_size h (wRs ha (by decide)) ?_)
    refine r_icmp_ge (t := 38) (q := 15) dX5_lettersOnStrip_12 rfl rfl (fun c12 => ?_) (fun c12 => ?_)
    · simp (disch := omega) only [nI_leI, nI_ltI, nI_eq, nI_lt0, nI_ge0, nI_gt0, nI_le0, nI_eq0] at c12
      refine r_iload_n (q := 39) dX5_lettersOnStrip_38 rfl rfl ?_
      refine r_iret dX5_lettersOnStrip_39 ?_
      rw [List.take_of_length_le c12]
      exact hQ
    · simp (disch := omega) only [nI_leI, nI_ltI, nI_eq, nI_lt0, nI_ge0, nI_gt0, nI_le0, nI_eq0] at c12
      replace c12 := Nat.lt_of_not_le c12
      refine r_iload_n (q := 16) dX5_lettersOnStrip_15 rfl rfl ?_
      refine r_aload_n (q := 17) dX5_lettersOnStrip_16 rfl rfl ?_
      refine r_get (q := 20) (kk := 11) (h.st ha) rfl wi_RX5 (by decide) rfl fk_X5_50 rfl dX5_lettersOnStrip_17 rfl ?_
      refine r_iload_n (q := 21) dX5_lettersOnStrip_20 rfl rfl ?_
      refine r_cV (q := 24) (As := [.int _]) wc_X5_94 rfl im_X2_at se_X2_at (h.row (wRs ha (by decide))) rfl rfl (Nat.le_of_ble_eq_true rfl) (Nat.le_of_eq (Nat.zero_add _)) (Nat.le_of_eq (Nat.zero_add _)) dX5_lettersOnStrip_21 rfl rfl (t_atN h (wRs ha (by decide)) (by omega) ?_)
      refine r_cS (q := 27) (As := [.int _]) wc_X5_183 st_X4_word rfl (Nat.le_of_ble_eq_true rfl) (Nat.le_of_eq (Nat.zero_add _)) (Nat.le_of_eq (Nat.zero_add _)) dX5_lettersOnStrip_24 rfl rfl (s_X4_word (t_lt h (wRs ha (by decide)) _) ?_)
      refine r_cS (q := 30) (As := [.int _]) wc_X5_174 st_X7_length rfl (Nat.le_of_ble_eq_true rfl) (Nat.le_of_eq (Nat.zero_add _)) (Nat.le_of_eq (Nat.zero_add _)) dX5_lettersOnStrip_27 rfl rfl (s_X7_length (Nat.lt_trans (dD_lt _) (by decide)) ?_)
      refine r_iadd (q := 31) dX5_lettersOnStrip_30 rfl ?_
      rw [n_add, ← sumM_s (f := fun s => dD s / 64) c12]
      refine r_istore_n (q := 32) dX5_lettersOnStrip_31 (Nat.le_of_ble_eq_true rfl) rfl rfl ?_
      show AW _ (_, _, _, _, _, _, _, _, _) _ _ _ _ [some _, some _, some _] _ _
      refine r_inc1 (q := 35) dX5_lettersOnStrip_32 rfl (Nat.le_of_ble_eq_true rfl) rfl rfl ?_
      show AW _ (_, _, _, _, _, _, _, _, _) _ _ _ _ [some _, some _, some _] _ _
      refine r_goto (t := 4) dX5_lettersOnStrip_35 rfl ?_
      exact ih ((S.1 11).length - (j + 1)) (by omega) (j + 1) rfl (by omega)
  refine MS.of (by decide) (by simp [Value.category]) (Nat.le_of_ble_eq_true rfl) ?_
  show AW _ (_, _, _, _, _, _, _, _, _) _ _ _ _ [some _, _, _] _ _
  refine r_iconst (v := nI 0) (q := 1) dX5_lettersOnStrip_0 (by decide) rfl ?_
  refine r_istore_n (q := 2) dX5_lettersOnStrip_1 (Nat.le_of_ble_eq_true rfl) rfl rfl ?_
  show AW _ (_, _, _, _, _, _, _, _, _) _ _ _ _ [some _, some _, _] _ _
  refine r_iconst (v := nI 0) (q := 3) dX5_lettersOnStrip_2 (by decide) rfl ?_
  refine r_istore_n (q := 4) dX5_lettersOnStrip_3 (Nat.le_of_ble_eq_true rfl) rfl rfl ?_
  show AW _ (_, _, _, _, _, _, _, _, _) _ _ _ _ [some _, some _, some _] _ _
  exact loop _ 0 rfl (by omega)
theorem s_X5_echoesToCome (h : RX G Λ ρ (sS σ a S) M) (ha : a < 11) {p : Nat} (hp : p < 4) (hQ : Q (some (.int (nI ((S.1 12).countP fun s => decide (dE s = p + 1))))) M)  : MS G yX5_echoesToCome cX5_echoesToCome 4 (some .int) (d + 1) 0 0 [.ref (Λ (1, a, 0)), .int (nI p)] M Q QX := by
  have loop : ∀ (m : Nat) j, m = (S.1 12).length - j → j ≤ (S.1 12).length → AW G (wX G yX5_echoesToCome cX5_echoesToCome 4 (some .int) 0 0 Q QX) (d + 1) 0 0 4 [some (.ref (Λ (1, a, 0))), some (.int (nI p)), some (.int (nI (((S.1 12).take j).countP fun s => decide (dE s = p + 1)))), some (.int (nI j))] [] M := by
    intro m
    induction m using Nat.strongRecOn with
    | _ m ih =>
    intro j hm hj
    subst hm
    have hlen := h.lenS (wRs ha (by decide : 12 < 13))
    refine r_iload_n (q := 5) dX5_echoesToCome_4 rfl rfl ?_
    refine r_aload_n (q := 6) dX5_echoesToCome_5 rfl rfl ?_
    refine r_get (q := 9) (kk := 12) (h.st ha) rfl wi_RX5 (by decide) rfl fk_X5_53 rfl dX5_echoesToCome_6 rfl ?_
    refine r_cV (q := 12) (As := []) wc_X5_143 rfl im_X2_size se_X2_size (h.row (wRs ha (by decide))) rfl rfl (Nat.le_of_ble_eq_true rfl) (Nat.le_of_eq (Nat.zero_add _)) (Nat.le_of_eq (Nat.zero_add _)) dX5_echoesToCome_9 rfl rfl (t_size h (wRs ha (by decide)) ?_)
    refine r_icmp_ge (t := 39) (q := 15) dX5_echoesToCome_12 rfl rfl (fun c12 => ?_) (fun c12 => ?_)
    · simp (disch := omega) only [nI_leI, nI_ltI, nI_eq, nI_lt0, nI_ge0, nI_gt0, nI_le0, nI_eq0] at c12
      refine r_iload_n (q := 40) dX5_echoesToCome_39 rfl rfl ?_
      refine r_iret dX5_echoesToCome_40 ?_
      rw [List.take_of_length_le c12]
      exact hQ
    · simp (disch := omega) only [nI_leI, nI_ltI, nI_eq, nI_lt0, nI_ge0, nI_gt0, nI_le0, nI_eq0] at c12
      replace c12 := Nat.lt_of_not_le c12
      refine r_aload_n (q := 16) dX5_echoesToCome_15 rfl rfl ?_
      refine r_get (q := 19) (kk := 12) (h.st ha) rfl wi_RX5 (by decide) rfl fk_X5_53 rfl dX5_echoesToCome_16 rfl ?_
      refine r_iload_n (q := 20) dX5_echoesToCome_19 rfl rfl ?_
      refine r_cV (q := 23) (As := [.int _]) wc_X5_94 rfl im_X2_at se_X2_at (h.row (wRs ha (by decide))) rfl rfl (Nat.le_of_ble_eq_true rfl) (Nat.le_of_eq (Nat.zero_add _)) (Nat.le_of_eq (Nat.zero_add _)) dX5_echoesToCome_20 rfl rfl (t_atN h (wRs ha (by decide)) (by omega) ?_)
      refine r_cS (q := 26) (As := [.int _]) wc_X5_152 st_X4_echoer rfl (Nat.le_of_ble_eq_true rfl) (Nat.le_of_eq (Nat.zero_add _)) (Nat.le_of_eq (Nat.zero_add _)) dX5_echoesToCome_23 rfl rfl (s_X4_echoer (t_lt h (wRs ha (by decide)) _) ?_)
      refine r_iload_n (q := 27) dX5_echoesToCome_26 rfl rfl ?_
      refine r_icmp_ne (t := 33) (q := 30) dX5_echoesToCome_27 rfl rfl (fun c27 => ?_) (fun c27 => ?_)
      · rw [eI_eq (dE_lt _) (by omega)] at c27
        rw [show ((S.1 12).take j).countP (fun s => decide (dE s = p + 1)) = ((S.1 12).take (j + 1)).countP (fun s => decide (dE s = p + 1)) by rw [countP_s c12, if_neg (by simp only [decide_eq_true_eq]; exact c27)]; rfl]
        refine r_inc1 (q := 36) dX5_echoesToCome_33 rfl (Nat.le_of_ble_eq_true rfl) rfl rfl ?_
        show AW _ (_, _, _, _, _, _, _, _, _) _ _ _ _ [some _, some _, some _, some _] _ _
        refine r_goto (t := 4) dX5_echoesToCome_36 rfl ?_
        exact ih ((S.1 12).length - (j + 1)) (by omega) (j + 1) rfl (by omega)
      · rw [eI_eq (dE_lt _) (by omega)] at c27
        refine r_inc1 (q := 33) dX5_echoesToCome_30 rfl (Nat.le_of_ble_eq_true rfl) rfl rfl ?_
        show AW _ (_, _, _, _, _, _, _, _, _) _ _ _ _ [some _, some _, some _, some _] _ _
        rw [show ((S.1 12).take j).countP (fun s => decide (dE s = p + 1)) + 1 = ((S.1 12).take (j + 1)).countP (fun s => decide (dE s = p + 1)) by rw [countP_s c12, if_pos (by simp only [decide_eq_true_eq]; exact c27)]]
        refine r_inc1 (q := 36) dX5_echoesToCome_33 rfl (Nat.le_of_ble_eq_true rfl) rfl rfl ?_
        show AW _ (_, _, _, _, _, _, _, _, _) _ _ _ _ [some _, some _, some _, some _] _ _
        refine r_goto (t := 4) dX5_echoesToCome_36 rfl ?_
        exact ih ((S.1 12).length - (j + 1)) (by omega) (j + 1) rfl (by omega)
  refine MS.of (by decide) (by simp [Value.category]) (Nat.le_of_ble_eq_true rfl) ?_
  show AW _ (_, _, _, _, _, _, _, _, _) _ _ _ _ [some _, some _, _, _] _ _
  refine r_iconst (v := nI 0) (q := 1) dX5_echoesToCome_0 (by decide) rfl ?_
  refine r_istore_n (q := 2) dX5_echoesToCome_1 (Nat.le_of_ble_eq_true rfl) rfl rfl ?_
  show AW _ (_, _, _, _, _, _, _, _, _) _ _ _ _ [some _, some _, some _, _] _ _
  refine r_iconst (v := nI 0) (q := 3) dX5_echoesToCome_2 (by decide) rfl ?_
  refine r_istore_n (q := 4) dX5_echoesToCome_3 (Nat.le_of_ble_eq_true rfl) rfl rfl ?_
  show AW _ (_, _, _, _, _, _, _, _, _) _ _ _ _ [some _, some _, some _, some _] _ _
  exact loop _ 0 rfl (by omega)
def gHd (L : List Nat) (pl : Int32) : Option Nat := (List.range L.length).find? fun i => !dX (L.getD i 0) && decide (nI ((L.take i).countP fun s => !dX s) = pl)
theorem s_X5_indexOfHeard (h : RX G Λ ρ (sS σ a S) M) (ha : a < 11) {pl : Int32} (hQ : Q (some (.int (oI (gHd (S.1 11) pl)))) M)  : MS G yX5_indexOfHeard cX5_indexOfHeard 4 (some .int) (d + 1) 0 0 [.ref (Λ (1, a, 0)), .int pl] M Q QX := by
  have loop : ∀ (m : Nat) j, m = (S.1 11).length - j → j ≤ (S.1 11).length → (∀ i, i < j → (!dX ((S.1 11).getD i 0) && decide (nI (((S.1 11).take i).countP fun s => !dX s) = pl)) = false) → AW G (wX G yX5_indexOfHeard cX5_indexOfHeard 4 (some .int) 0 0 Q QX) (d + 1) 0 0 4 [some (.ref (Λ (1, a, 0))), some (.int pl), some (.int (nI (((S.1 11).take j).countP fun s => !dX s))), some (.int (nI j))] [] M := by
    intro m
    induction m using Nat.strongRecOn with
    | _ m ih =>
    intro j hm hj hf
    subst hm
    have hlen := h.lenS (wRs ha (by decide : 11 < 13))
    refine r_iload_n (q := 5) dX5_indexOfHeard_4 rfl rfl ?_
    refine r_aload_n (q := 6) dX5_indexOfHeard_5 rfl rfl ?_
    refine r_get (q := 9) (kk := 11) (h.st ha) rfl wi_RX5 (by decide) rfl fk_X5_50 rfl dX5_indexOfHeard_6 rfl ?_
    refine r_cV (q := 12) (As := []) wc_X5_143 rfl im_X2_size se_X2_size (h.row (wRs ha (by decide))) rfl rfl (Nat.le_of_ble_eq_true rfl) (Nat.le_of_eq (Nat.zero_add _)) (Nat.le_of_eq (Nat.zero_add _)) dX5_indexOfHeard_9 rfl rfl (t_size h (wRs ha (by decide)) ?_)
    refine r_icmp_ge (t := 45) (q := 15) dX5_indexOfHeard_12 rfl rfl (fun c12 => ?_) (fun c12 => ?_)
    · simp (disch := omega) only [nI_leI, nI_ltI, nI_eq, nI_lt0, nI_ge0, nI_gt0, nI_le0, nI_eq0] at c12
      refine r_iconst (v := (-1)) (q := 46) dX5_indexOfHeard_45 (by decide) rfl ?_
      refine r_iret dX5_indexOfHeard_46 ?_
      rw [show gHd (S.1 11) pl = none from find_none fun i hi => hf i (by omega)] at hQ
      exact hQ
    · simp (disch := omega) only [nI_leI, nI_ltI, nI_eq, nI_lt0, nI_ge0, nI_gt0, nI_le0, nI_eq0] at c12
      replace c12 := Nat.lt_of_not_le c12
      refine r_aload_n (q := 16) dX5_indexOfHeard_15 rfl rfl ?_
      refine r_get (q := 19) (kk := 11) (h.st ha) rfl wi_RX5 (by decide) rfl fk_X5_50 rfl dX5_indexOfHeard_16 rfl ?_
      refine r_iload_n (q := 20) dX5_indexOfHeard_19 rfl rfl ?_
      refine r_cV (q := 23) (As := [.int _]) wc_X5_94 rfl im_X2_at se_X2_at (h.row (wRs ha (by decide))) rfl rfl (Nat.le_of_ble_eq_true rfl) (Nat.le_of_eq (Nat.zero_add _)) (Nat.le_of_eq (Nat.zero_add _)) dX5_indexOfHeard_20 rfl rfl (t_atN h (wRs ha (by decide)) (by omega) ?_)
      refine r_cS (q := 26) (As := [.int _]) wc_X5_161 st_X4_isExposed rfl (Nat.le_of_ble_eq_true rfl) (Nat.le_of_eq (Nat.zero_add _)) (Nat.le_of_eq (Nat.zero_add _)) dX5_indexOfHeard_23 rfl rfl (s_X4_isExposed (t_lt h (wRs ha (by decide)) _) ?_)
      refine r_if_ne (t := 39) (q := 29) dX5_indexOfHeard_26 rfl rfl (fun c26 => ?_) (fun c26 => ?_)
      · have hz : (!dX ((S.1 11).getD j 0) && decide (nI (((S.1 11).take j).countP fun s => !dX s) = pl)) = false := by rw [bI_ne c26]; rfl
        rw [show ((S.1 11).take j).countP (fun s => !dX s) = ((S.1 11).take (j + 1)).countP (fun s => !dX s) by rw [countP_s c12, bI_ne c26]; rfl]
        refine r_inc1 (q := 42) dX5_indexOfHeard_39 rfl (Nat.le_of_ble_eq_true rfl) rfl rfl ?_
        show AW _ (_, _, _, _, _, _, _, _, _) _ _ _ _ [some _, some _, some _, some _] _ _
        refine r_goto (t := 4) dX5_indexOfHeard_42 rfl ?_
        exact ih ((S.1 11).length - (j + 1)) (by omega) (j + 1) rfl (by omega) (lt_s' (p := fun i => (!dX ((S.1 11).getD i 0) && decide (nI (((S.1 11).take i).countP fun s => !dX s) = pl)) = false) hf hz)
      · refine r_iload_n (q := 30) dX5_indexOfHeard_29 rfl rfl ?_
        refine r_iload_n (q := 31) dX5_indexOfHeard_30 rfl rfl ?_
        refine r_icmp_ne (t := 36) (q := 34) dX5_indexOfHeard_31 rfl rfl (fun c31 => ?_) (fun c31 => ?_)
        · have hz : (!dX ((S.1 11).getD j 0) && decide (nI (((S.1 11).take j).countP fun s => !dX s) = pl)) = false := by rw [decide_eq_false c31]; simp
          refine r_inc1 (q := 39) dX5_indexOfHeard_36 rfl (Nat.le_of_ble_eq_true rfl) rfl rfl ?_
          show AW _ (_, _, _, _, _, _, _, _, _) _ _ _ _ [some _, some _, some _, some _] _ _
          rw [show ((S.1 11).take j).countP (fun s => !dX s) + 1 = ((S.1 11).take (j + 1)).countP (fun s => !dX s) by rw [countP_s c12, bI_eq0.mp c26]; rfl]
          refine r_inc1 (q := 42) dX5_indexOfHeard_39 rfl (Nat.le_of_ble_eq_true rfl) rfl rfl ?_
          show AW _ (_, _, _, _, _, _, _, _, _) _ _ _ _ [some _, some _, some _, some _] _ _
          refine r_goto (t := 4) dX5_indexOfHeard_42 rfl ?_
          exact ih ((S.1 11).length - (j + 1)) (by omega) (j + 1) rfl (by omega) (lt_s' (p := fun i => (!dX ((S.1 11).getD i 0) && decide (nI (((S.1 11).take i).countP fun s => !dX s) = pl)) = false) hf hz)
        · refine r_iload_n (q := 35) dX5_indexOfHeard_34 rfl rfl ?_
          refine r_iret dX5_indexOfHeard_35 ?_
          rw [show gHd (S.1 11) pl = some j from find_some (by omega) hf (by rw [bI_eq0.mp c26, c31]; simp)] at hQ
          exact hQ
  refine MS.of (by decide) (by simp [Value.category]) (Nat.le_of_ble_eq_true rfl) ?_
  show AW _ (_, _, _, _, _, _, _, _, _) _ _ _ _ [some _, some _, _, _] _ _
  refine r_iconst (v := nI 0) (q := 1) dX5_indexOfHeard_0 (by decide) rfl ?_
  refine r_istore_n (q := 2) dX5_indexOfHeard_1 (Nat.le_of_ble_eq_true rfl) rfl rfl ?_
  show AW _ (_, _, _, _, _, _, _, _, _) _ _ _ _ [some _, some _, some _, _] _ _
  refine r_iconst (v := nI 0) (q := 3) dX5_indexOfHeard_2 (by decide) rfl ?_
  refine r_istore_n (q := 4) dX5_indexOfHeard_3 (Nat.le_of_ble_eq_true rfl) rfl rfl ?_
  show AW _ (_, _, _, _, _, _, _, _, _) _ _ _ _ [some _, some _, some _, some _] _ _
  exact loop _ 0 rfl (by omega) (fun i hi => absurd hi (by omega))
def fExp (S : St) (l i : Nat) : St := uR (uR (uR S 11 ((S.1 11).set i ((S.1 11).getD i 0 ||| 2097152))) 7 ((S.1 7).set l ((S.1 7).getD l 0 + 1))) 4 ((S.1 4).set l ((S.1 4).getD l 0 + 3))
theorem gLie_wh {L : List Nat} {l i : Nat} (h : gLie L l = some i) : gWh L l = some i ∧ dT (L.getD i 0) ≠ l ∧ dX (L.getD i 0) = false := by
  unfold gLie at h
  cases e : gWh L l with
  | none => rw [e] at h; cases h
  | some i' =>
    rw [e] at h
    dsimp only at h
    split at h
    · cases h
    · rename_i g
      cases h
      refine ⟨rfl, fun g1 => g (Or.inl g1), ?_⟩
      cases g2 : dX (L.getD i 0)
      · rfl
      · exact absurd (Or.inr g2) g
theorem s_X5_exposeLiar (h : RX G Λ ρ (sS σ a S) M) (ha : a < 11) (hs : Sm S) {l i : Nat} (hl : l < 7) (hi : gLie (S.1 11) l = some i) (hQ : ∀ M', RX G Λ ρ (sS σ a (fExp S l i)) M' → Q (some (.int (nI (((S.1 4).set l ((S.1 4).getD l 0 + 3)).getD l 0)))) M')  : MS G yX5_exposeLiar cX5_exposeLiar 3 (some .int) (d + 3) 0 0 [.ref (Λ (1, a, 0)), .int (nI l)] M Q QX := by
  refine MS.of (by decide) (by simp [Value.category]) (Nat.le_of_ble_eq_true rfl) ?_
  show AW _ (_, _, _, _, _, _, _, _, _) _ _ _ _ [some _, some _, _] _ _
  have hlen := h.lenS (wRs ha (by decide : 11 < 13))
  have hi2 := gWh_lt (gLie_wh hi).1
  have hor : (S.1 11).getD i 0 ||| 2097152 < 2 ^ 31 := Nat.or_lt_two_pow (t_lt h (wRs ha (by decide)) i) (by decide)
  have h7 := hs.lt (by decide : 7 < 13) l
  have h4 := hs.lt (by decide : 4 < 13) l
  refine r_aload_n (q := 1) dX5_exposeLiar_0 rfl rfl ?_
  refine r_iload_n (q := 2) dX5_exposeLiar_1 rfl rfl ?_
  refine r_cV (q := 5) (As := [.int _]) wc_X5_120 rfl im_X5_indexOfLie se_X5_indexOfLie (h.st ha) rfl rfl (Nat.le_of_ble_eq_true rfl) (Nat.le_of_eq (Nat.zero_add _)) (Nat.le_of_eq (Nat.zero_add _)) dX5_exposeLiar_2 rfl rfl (s_X5_indexOfLie h ha hl ?_)
  rw [hi]
  refine r_istore_n (q := 6) dX5_exposeLiar_5 (Nat.le_of_ble_eq_true rfl) rfl rfl ?_
  show AW _ (_, _, _, _, _, _, _, _, _) _ _ _ _ [some _, some _, some _] _ _
  refine r_aload_n (q := 7) dX5_exposeLiar_6 rfl rfl ?_
  refine r_get (q := 10) (kk := 11) (h.st ha) rfl wi_RX5 (by decide) rfl fk_X5_50 rfl dX5_exposeLiar_7 rfl ?_
  refine r_iload_n (q := 11) dX5_exposeLiar_10 rfl rfl ?_
  refine r_aload_n (q := 12) dX5_exposeLiar_11 rfl rfl ?_
  refine r_get (q := 15) (kk := 11) (h.st ha) rfl wi_RX5 (by decide) rfl fk_X5_50 rfl dX5_exposeLiar_12 rfl ?_
  refine r_iload_n (q := 16) dX5_exposeLiar_15 rfl rfl ?_
  refine r_cV (q := 19) (As := [.int _]) wc_X5_94 rfl im_X2_at se_X2_at (h.row (wRs ha (by decide))) rfl rfl (Nat.le_of_ble_eq_true rfl) (Nat.le_of_eq (Nat.zero_add _)) (Nat.le_of_eq (Nat.zero_add _)) dX5_exposeLiar_16 rfl rfl (t_atN h (wRs ha (by decide)) (by omega) ?_)
  refine r_cS (q := 22) (As := [.int _]) wc_X5_123 st_X4_asExposed rfl (Nat.le_of_ble_eq_true rfl) (Nat.le_of_eq (Nat.zero_add _)) (Nat.le_of_eq (Nat.zero_add _)) dX5_exposeLiar_19 rfl rfl (s_X4_asExposed ?_)
  refine r_cV (q := 25) (As := [.int _, .int _]) wc_X5_80 rfl im_X2_put se_X2_put (h.row (wRs ha (by decide))) rfl rfl (Nat.le_of_ble_eq_true rfl) (Nat.le_of_eq (Nat.zero_add _)) (Nat.le_of_eq (Nat.zero_add _)) dX5_exposeLiar_22 rfl rfl (t_putN h (wRs ha (by decide)) rfl (by omega) hor fun M_22 h_22 => ?_)
  refine r_aload_n (q := 26) dX5_exposeLiar_25 rfl rfl ?_
  refine r_get (q := 29) (kk := 7) (h_22.st ha) rfl wi_RX5 (by decide) rfl fk_X5_38 rfl dX5_exposeLiar_26 rfl ?_
  refine r_iload_n (q := 30) dX5_exposeLiar_29 rfl rfl ?_
  refine r_iconst (v := nI 1) (q := 31) dX5_exposeLiar_30 (by decide) rfl ?_
  refine r_cV (q := 34) (As := [.int _, .int _]) wc_X5_105 rfl im_X2_raise se_X2_raise (h_22.row (wRs ha (by decide))) rfl rfl (Nat.le_of_ble_eq_true rfl) (Nat.le_of_eq (Nat.zero_add _)) (Nat.le_of_eq (Nat.zero_add _)) dX5_exposeLiar_31 rfl rfl (t_raiseN h_22 (wRs ha (by decide)) (by omega) (n_add _ 1) (show (S.1 7).getD l 0 + 1 < 2 ^ 31 by omega) fun M_31 h_31 => ?_)
  refine r_aload_n (q := 35) dX5_exposeLiar_34 rfl rfl ?_
  refine r_get (q := 38) (kk := 4) (h_31.st ha) rfl wi_RX5 (by decide) rfl fk_X5_29 rfl dX5_exposeLiar_35 rfl ?_
  refine r_iload_n (q := 39) dX5_exposeLiar_38 rfl rfl ?_
  refine r_iconst (v := nI 3) (q := 40) dX5_exposeLiar_39 (by decide) rfl ?_
  refine r_cV (q := 43) (As := [.int _, .int _]) wc_X5_105 rfl im_X2_raise se_X2_raise (h_31.row (wRs ha (by decide))) rfl rfl (Nat.le_of_ble_eq_true rfl) (Nat.le_of_eq (Nat.zero_add _)) (Nat.le_of_eq (Nat.zero_add _)) dX5_exposeLiar_40 rfl rfl (t_raiseN h_31 (wRs ha (by decide)) (by omega) (n_add _ 3) (show (S.1 4).getD l 0 + 3 < 2 ^ 31 by omega) fun M_40 h_40 => ?_)
  refine r_aload_n (q := 44) dX5_exposeLiar_43 rfl rfl ?_
  refine r_get (q := 47) (kk := 4) (h_40.st ha) rfl wi_RX5 (by decide) rfl fk_X5_29 rfl dX5_exposeLiar_44 rfl ?_
  refine r_iload_n (q := 48) dX5_exposeLiar_47 rfl rfl ?_
  refine r_cV (q := 51) (As := [.int _]) wc_X5_94 rfl im_X2_at se_X2_at (h_40.row (wRs ha (by decide))) rfl rfl (Nat.le_of_ble_eq_true rfl) (Nat.le_of_eq (Nat.zero_add _)) (Nat.le_of_eq (Nat.zero_add _)) dX5_exposeLiar_48 rfl rfl (t_atN h_40 (wRs ha (by decide)) (by omega) ?_)
  refine r_iret dX5_exposeLiar_51 ?_
  exact hQ _ h_40
def fRest (S : St) (l : Nat) : St := if 0 < (S.1 4).getD l 0 then uR S 4 ((S.1 4).set l ((S.1 4).getD l 0 - 1)) else uR S 2 ((S.1 2).set l (min 20 ((S.1 2).getD l 0 + 2)))
theorem s_X5_rest (h : RX G Λ ρ (sS σ a S) M) (ha : a < 11) {l : Nat} (hs2 : (S.1 2).getD l 0 < 2 ^ 30) (hl : l < 7) (hQ : ∀ M', RX G Λ ρ (sS σ a (fRest S l)) M' → Q none M')  : MS G yX5_rest cX5_rest 2 none (d + 2) 0 0 [.ref (Λ (1, a, 0)), .int (nI l)] M Q QX := by
  refine MS.of (by decide) (by simp [Value.category]) (Nat.le_of_ble_eq_true rfl) ?_
  show AW _ (_, _, _, _, _, _, _, _, _) _ _ _ _ [some _, some _] _ _
  have h4 := t_lt h (wRs ha (by decide : 4 < 13)) l
  refine r_aload_n (q := 1) dX5_rest_0 rfl rfl ?_
  refine r_get (q := 4) (kk := 4) (h.st ha) rfl wi_RX5 (by decide) rfl fk_X5_29 rfl dX5_rest_1 rfl ?_
  refine r_iload_n (q := 5) dX5_rest_4 rfl rfl ?_
  refine r_cV (q := 8) (As := [.int _]) wc_X5_94 rfl im_X2_at se_X2_at (h.row (wRs ha (by decide))) rfl rfl (Nat.le_of_ble_eq_true rfl) (Nat.le_of_eq (Nat.zero_add _)) (Nat.le_of_eq (Nat.zero_add _)) dX5_rest_5 rfl rfl (t_atN h (wRs ha (by decide)) (by omega) ?_)
  refine r_if_le (t := 23) (q := 11) dX5_rest_8 rfl rfl (fun c8 => ?_) (fun c8 => ?_)
  · simp (disch := omega) only [nI_leI, nI_ltI, nI_eq, nI_lt0, nI_ge0, nI_gt0, nI_le0, nI_eq0] at c8
    rw [fRest, if_neg (by omega)] at hQ
    refine r_aload_n (q := 24) dX5_rest_23 rfl rfl ?_
    refine r_get (q := 27) (kk := 2) (h.st ha) rfl wi_RX5 (by decide) rfl fk_X5_23 rfl dX5_rest_24 rfl ?_
    refine r_iload_n (q := 28) dX5_rest_27 rfl rfl ?_
    refine r_bipush (v := nI 20) (q := 30) dX5_rest_28 (by decide) rfl ?_
    refine r_aload_n (q := 31) dX5_rest_30 rfl rfl ?_
    refine r_get (q := 34) (kk := 2) (h.st ha) rfl wi_RX5 (by decide) rfl fk_X5_23 rfl dX5_rest_31 rfl ?_
    refine r_iload_n (q := 35) dX5_rest_34 rfl rfl ?_
    refine r_cV (q := 38) (As := [.int _]) wc_X5_94 rfl im_X2_at se_X2_at (h.row (wRs ha (by decide))) rfl rfl (Nat.le_of_ble_eq_true rfl) (Nat.le_of_eq (Nat.zero_add _)) (Nat.le_of_eq (Nat.zero_add _)) dX5_rest_35 rfl rfl (t_atN h (wRs ha (by decide)) (by omega) ?_)
    refine r_iconst (v := nI 2) (q := 39) dX5_rest_38 (by decide) rfl ?_
    refine r_iadd (q := 40) dX5_rest_39 rfl ?_
    rw [n_add]
    refine r_mmin (q := 43) ml_X5_138 dX5_rest_40 rfl (Nat.le_of_ble_eq_true rfl) ?_
    rw [min_nI (by omega) (by omega)]
    refine r_cV (q := 46) (As := [.int _, .int _]) wc_X5_80 rfl im_X2_put se_X2_put (h.row (wRs ha (by decide))) rfl rfl (Nat.le_of_ble_eq_true rfl) (Nat.le_of_eq (Nat.zero_add _)) (Nat.le_of_eq (Nat.zero_add _)) dX5_rest_43 rfl rfl (t_putN h (wRs ha (by decide)) rfl (by omega) (show min 20 _ < 2 ^ 31 by omega) fun M_43 h_43 => ?_)
    refine r_vret dX5_rest_46 ?_
    exact hQ _ h_43
  · simp (disch := omega) only [nI_leI, nI_ltI, nI_eq, nI_lt0, nI_ge0, nI_gt0, nI_le0, nI_eq0] at c8
    rw [fRest, if_pos (by omega)] at hQ
    refine r_aload_n (q := 12) dX5_rest_11 rfl rfl ?_
    refine r_get (q := 15) (kk := 4) (h.st ha) rfl wi_RX5 (by decide) rfl fk_X5_29 rfl dX5_rest_12 rfl ?_
    refine r_iload_n (q := 16) dX5_rest_15 rfl rfl ?_
    refine r_iconst (v := (-1)) (q := 17) dX5_rest_16 (by decide) rfl ?_
    refine r_cV (q := 20) (As := [.int _, .int _]) wc_X5_105 rfl im_X2_raise se_X2_raise (h.row (wRs ha (by decide))) rfl rfl (Nat.le_of_ble_eq_true rfl) (Nat.le_of_eq (Nat.zero_add _)) (Nat.le_of_eq (Nat.zero_add _)) dX5_rest_17 rfl rfl (t_raiseN h (wRs ha (by decide)) (by omega) (n_neg _ 1 (by omega)) (Nat.lt_of_le_of_lt (Nat.sub_le _ _) h4) fun M_17 h_17 => ?_)
    refine r_goto (t := 46) dX5_rest_20 rfl ?_
    refine r_vret dX5_rest_46 ?_
    exact hQ _ h_17
end W26
