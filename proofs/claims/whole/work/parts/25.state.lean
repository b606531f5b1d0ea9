/-! A STATE'S METHODS, the plain ones -/
section W25
variable {G : En} {Λ : Ob → Nat} {ρ : Me} {σ : Sg} {M : Me} {d : Nat} {Q : Option Value → Me → Prop} {QX : String → Me → Prop} {a : Nat} {S : St}
theorem t_lt {b : Nat} (h : RX G Λ ρ (sS σ a S) M) (hr : wR a b = true) (j : Nat) : (S.1 b).getD j 0 < 2 ^ 31 := getD_all (by omega) (h.rwS hr).2.2.1 j
theorem RX.ext {σ' : Sg} (h : RX G Λ ρ σ M) (h1 : ∀ a b, wR a b = true → gR σ' a b = gR σ a b) (h2 : ∀ a j, a < 11 → j < 4 → gI σ' a j = gI σ a j) (h3 : ∀ j, j < 10 → gM σ' j = gM σ j) (h4 : gT σ' = gT σ) (h5 : gC σ' = gC σ) : RX G Λ ρ σ' M := by
  obtain ⟨g1, g2, g3, g4, g5, g6, g7, g8, g9⟩ := h
  refine ⟨?_, fun a ha => ?_, fun a b hr => ?_, ?_, g5, ?_, g7, ?_, g9⟩
  · rw [g1]; simp only [xF, h3 0 (by decide), h3 1 (by decide), h3 2 (by decide), h3 3 (by decide), h3 4 (by decide)]
  · rw [g2 a ha]; simp only [sF, h2 a 0 ha (by decide), h2 a 1 ha (by decide), h2 a 2 ha (by decide), h2 a 3 ha (by decide)]
  · rw [h1 a b hr]; exact g3 a b hr
  · rw [g4, h3 5 (by decide), h3 6 (by decide)]
  · rw [g6, h3 7 (by decide), h3 8 (by decide), h3 9 (by decide)]
  · rw [h4, h5]; exact g8
theorem RX.cong {S' : St} (h : RX G Λ ρ (sS σ a S) M) (h1 : ∀ b, b < 13 → S'.1 b = S.1 b) (h2 : ∀ j, j < 4 → S'.2 j = S.2 j) (ha : a < 11) : RX G Λ ρ (sS σ a S') M := by
  refine h.ext (fun a' b hr => ?_) (fun a' j ha' hj => ?_) (fun _ _ => rfl) rfl rfl
  · by_cases e : a' = a
    · subst e
      rw [gR_s, gR_s]
      refine h1 b ?_
      simp only [wR, Bool.or_eq_true, Bool.and_eq_true, decide_eq_true_eq] at hr
      omega
    · rw [gR_n e, gR_n e]
  · by_cases e : a' = a
    · subst e
      rw [gI_s, gI_s]
      exact h2 j hj
    · rw [gI_n e, gI_n e]
theorem uR_self {b : Nat} : uR S b (S.1 b) = S := by
  refine Prod.ext (funext fun b' => ?_) rfl
  show (if b' = b then _ else _) = _
  split
  · rename_i e; rw [e]
  · rfl
theorem n_neg (x y : Nat) (h : y ≤ x) : nI x + -nI y = nI (x - y) := by rw [← Int32.sub_eq_add_neg, n_sub h]
theorem set_lt {L : List Nat} {n i x : Nat} (h : ∀ y ∈ L, y < n) (hx : x < n) : ∀ y ∈ L.set i x, y < n := fun y hy => by
  rcases List.mem_or_eq_of_mem_set hy with h1 | rfl
  · exact h y h1
  · exact hx
def Sm (S : St) : Prop := ∀ b, b < 13 → ∀ x ∈ S.1 b, x < 2 ^ 30
theorem Sm.lt {b : Nat} (h : Sm S) (hb : b < 13) (j : Nat) : (S.1 b).getD j 0 < 2 ^ 30 := getD_all (by omega) (h b hb) j
def s0 : St := (fun b => if b < 2 then List.replicate 7 0 else if b < 4 then List.replicate 7 10 else if b < 8 then List.replicate 7 0 else if b < 11 then List.replicate 4 0 else [], fun _ => 0)
def stm (w : Nat) : Nat := w / 64 + pop6 (w % 64)
def gWd (S : St) (l : Nat) : Nat := (S.1 0).getD l 0
def cost (S : St) (l t : Nat) : Nat := if l = t then stm (gWd S t) else 2 * stm (gWd S t)
theorem s_X5_reset (h : RX G Λ ρ (sS σ a S) M) (ha : a < 11) (hQ : ∀ M', RX G Λ ρ (sS σ a (s0)) M' → Q none M')  : MS G yX5_reset cX5_reset 1 none (d + 2) 0 0 [.ref (Λ (1, a, 0))] M Q QX := by
  refine MS.of (by decide) (by simp [Value.category]) (Nat.le_of_ble_eq_true rfl) ?_
  show AW _ (_, _, _, _, _, _, _, _, _) _ _ _ _ [some _] _ _
  refine r_aload_n (q := 1) dX5_reset_0 rfl rfl ?_
  refine r_get (q := 4) (kk := 0) (h.st ha) rfl wi_RX5 (by decide) rfl fk_X5_14 rfl dX5_reset_1 rfl ?_
  refine r_bipush (v := nI 7) (q := 6) dX5_reset_4 (by decide) rfl ?_
  refine r_iconst (v := nI 0) (q := 7) dX5_reset_6 (by decide) rfl ?_
  refine r_cV (q := 10) (As := [.int _, .int _]) wc_X5_72 rfl im_X2_fill se_X2_fill (h.row (wRs ha (by decide))) rfl rfl (Nat.le_of_ble_eq_true rfl) (Nat.le_of_eq (Nat.zero_add _)) (Nat.le_of_eq (Nat.zero_add _)) dX5_reset_7 rfl rfl (t_fill h (wRs ha (by decide)) (by decide) rfl (by decide) fun M_7 h_7 => ?_)
  refine r_aload_n (q := 11) dX5_reset_10 rfl rfl ?_
  refine r_get (q := 14) (kk := 1) (h_7.st ha) rfl wi_RX5 (by decide) rfl fk_X5_20 rfl dX5_reset_11 rfl ?_
  refine r_bipush (v := nI 7) (q := 16) dX5_reset_14 (by decide) rfl ?_
  refine r_iconst (v := nI 0) (q := 17) dX5_reset_16 (by decide) rfl ?_
  refine r_cV (q := 20) (As := [.int _, .int _]) wc_X5_72 rfl im_X2_fill se_X2_fill (h_7.row (wRs ha (by decide))) rfl rfl (Nat.le_of_ble_eq_true rfl) (Nat.le_of_eq (Nat.zero_add _)) (Nat.le_of_eq (Nat.zero_add _)) dX5_reset_17 rfl rfl (t_fill h_7 (wRs ha (by decide)) (by decide) rfl (by decide) fun M_17 h_17 => ?_)
  refine r_aload_n (q := 21) dX5_reset_20 rfl rfl ?_
  refine r_get (q := 24) (kk := 2) (h_17.st ha) rfl wi_RX5 (by decide) rfl fk_X5_23 rfl dX5_reset_21 rfl ?_
  refine r_bipush (v := nI 7) (q := 26) dX5_reset_24 (by decide) rfl ?_
  refine r_bipush (v := nI 10) (q := 28) dX5_reset_26 (by decide) rfl ?_
  refine r_cV (q := 31) (As := [.int _, .int _]) wc_X5_72 rfl im_X2_fill se_X2_fill (h_17.row (wRs ha (by decide))) rfl rfl (Nat.le_of_ble_eq_true rfl) (Nat.le_of_eq (Nat.zero_add _)) (Nat.le_of_eq (Nat.zero_add _)) dX5_reset_28 rfl rfl (t_fill h_17 (wRs ha (by decide)) (by decide) rfl (by decide) fun M_28 h_28 => ?_)
  refine r_aload_n (q := 32) dX5_reset_31 rfl rfl ?_
  refine r_get (q := 35) (kk := 3) (h_28.st ha) rfl wi_RX5 (by decide) rfl fk_X5_26 rfl dX5_reset_32 rfl ?_
  refine r_bipush (v := nI 7) (q := 37) dX5_reset_35 (by decide) rfl ?_
  refine r_bipush (v := nI 10) (q := 39) dX5_reset_37 (by decide) rfl ?_
  refine r_cV (q := 42) (As := [.int _, .int _]) wc_X5_72 rfl im_X2_fill se_X2_fill (h_28.row (wRs ha (by decide))) rfl rfl (Nat.le_of_ble_eq_true rfl) (Nat.le_of_eq (Nat.zero_add _)) (Nat.le_of_eq (Nat.zero_add _)) dX5_reset_39 rfl rfl (t_fill h_28 (wRs ha (by decide)) (by decide) rfl (by decide) fun M_39 h_39 => ?_)
  refine r_aload_n (q := 43) dX5_reset_42 rfl rfl ?_
  refine r_get (q := 46) (kk := 4) (h_39.st ha) rfl wi_RX5 (by decide) rfl fk_X5_29 rfl dX5_reset_43 rfl ?_
  refine r_bipush (v := nI 7) (q := 48) dX5_reset_46 (by decide) rfl ?_
  refine r_iconst (v := nI 0) (q := 49) dX5_reset_48 (by decide) rfl ?_
  refine r_cV (q := 52) (As := [.int _, .int _]) wc_X5_72 rfl im_X2_fill se_X2_fill (h_39.row (wRs ha (by decide))) rfl rfl (Nat.le_of_ble_eq_true rfl) (Nat.le_of_eq (Nat.zero_add _)) (Nat.le_of_eq (Nat.zero_add _)) dX5_reset_49 rfl rfl (t_fill h_39 (wRs ha (by decide)) (by decide) rfl (by decide) fun M_49 h_49 => ?_)
  refine r_aload_n (q := 53) dX5_reset_52 rfl rfl ?_
  refine r_get (q := 56) (kk := 5) (h_49.st ha) rfl wi_RX5 (by decide) rfl fk_X5_32 rfl dX5_reset_53 rfl ?_
  refine r_bipush (v := nI 7) (q := 58) dX5_reset_56 (by decide) rfl ?_
  refine r_iconst (v := nI 0) (q := 59) dX5_reset_58 (by decide) rfl ?_
  refine r_cV (q := 62) (As := [.int _, .int _]) wc_X5_72 rfl im_X2_fill se_X2_fill (h_49.row (wRs ha (by decide))) rfl rfl (Nat.le_of_ble_eq_true rfl) (Nat.le_of_eq (Nat.zero_add _)) (Nat.le_of_eq (Nat.zero_add _)) dX5_reset_59 rfl rfl (t_fill h_49 (wRs ha (by decide)) (by decide) rfl (by decide) fun M_59 h_59 => ?_)
  refine r_aload_n (q := 63) dX5_reset_62 rfl rfl ?_
  refine r_get (q := 66) (kk := 6) (h_59.st ha) rfl wi_RX5 (by decide) rfl fk_X5_35 rfl dX5_reset_63 rfl ?_
  refine r_bipush (v := nI 7) (q := 68) dX5_reset_66 (by decide) rfl ?_
  refine r_iconst (v := nI 0) (q := 69) dX5_reset_68 (by decide) rfl ?_
  refine r_cV (q := 72) (As := [.int _, .int _]) wc_X5_72 rfl im_X2_fill se_X2_fill (h_59.row (wRs ha (by decide))) rfl rfl (Nat.le_of_ble_eq_true rfl) (Nat.le_of_eq (Nat.zero_add _)) (Nat.le_of_eq (Nat.zero_add _)) dX5_reset_69 rfl rfl (t_fill h_59 (wRs ha (by decide)) (by decide) rfl (by decide) fun M_69 h_69 => ?_)
  refine r_aload_n (q := 73) dX5_reset_72 rfl rfl ?_
  refine r_get (q := 76) (kk := 7) (h_69.st ha) rfl wi_RX5 (by decide) rfl fk_X5_38 rfl dX5_reset_73 rfl ?_
  refine r_bipush (v := nI 7) (q := 78) dX5_reset_76 (by decide) rfl ?_
  refine r_iconst (v := nI 0) (q := 79) dX5_reset_78 (by decide) rfl ?_
  refine r_cV (q := 82) (As := [.int _, .int _]) wc_X5_72 rfl im_X2_fill se_X2_fill (h_69.row (wRs ha (by decide))) rfl rfl (Nat.le_of_ble_eq_true rfl) (Nat.le_of_eq (Nat.zero_add _)) (Nat.le_of_eq (Nat.zero_add _)) dX5_reset_79 rfl rfl (t_fill h_69 (wRs ha (by decide)) (by decide) rfl (by decide) fun M_79 h_79 => ?_)
  refine r_aload_n (q := 83) dX5_reset_82 rfl rfl ?_
  refine r_get (q := 86) (kk := 8) (h_79.st ha) rfl wi_RX5 (by decide) rfl fk_X5_41 rfl dX5_reset_83 rfl ?_
  refine r_iconst (v := nI 4) (q := 87) dX5_reset_86 (by decide) rfl ?_
  refine r_iconst (v := nI 0) (q := 88) dX5_reset_87 (by decide) rfl ?_
  refine r_cV (q := 91) (As := [.int _, .int _]) wc_X5_72 rfl im_X2_fill se_X2_fill (h_79.row (wRs ha (by decide))) rfl rfl (Nat.le_of_ble_eq_true rfl) (Nat.le_of_eq (Nat.zero_add _)) (Nat.le_of_eq (Nat.zero_add _)) dX5_reset_88 rfl rfl (t_fill h_79 (wRs ha (by decide)) (by decide) rfl (by decide) fun M_88 h_88 => ?_)
  refine r_aload_n (q := 92) dX5_reset_91 rfl rfl ?_
  refine r_get (q := 95) (kk := 9) (h_88.st ha) rfl wi_RX5 (by decide) rfl fk_X5_44 rfl dX5_reset_92 rfl ?_
  refine r_iconst (v := nI 4) (q := 96) dX5_reset_95 (by decide) rfl ?_
  refine r_iconst (v := nI 0) (q := 97) dX5_reset_96 (by decide) rfl ?_
  refine r_cV (q := 100) (As := [.int _, .int _]) wc_X5_72 rfl im_X2_fill se_X2_fill (h_88.row (wRs ha (by decide))) rfl rfl (Nat.le_of_ble_eq_true rfl) (Nat.le_of_eq (Nat.zero_add _)) (Nat.le_of_eq (Nat.zero_add _)) dX5_reset_97 rfl rfl (t_fill h_88 (wRs ha (by decide)) (by decide) rfl (by decide) fun M_97 h_97 => ?_)
  refine r_aload_n (q := 101) dX5_reset_100 rfl rfl ?_
  refine r_get (q := 104) (kk := 10) (h_97.st ha) rfl wi_RX5 (by decide) rfl fk_X5_47 rfl dX5_reset_101 rfl ?_
  refine r_iconst (v := nI 4) (q := 105) dX5_reset_104 (by decide) rfl ?_
  refine r_iconst (v := nI 0) (q := 106) dX5_reset_105 (by decide) rfl ?_
  refine r_cV (q := 109) (As := [.int _, .int _]) wc_X5_72 rfl im_X2_fill se_X2_fill (h_97.row (wRs ha (by decide))) rfl rfl (Nat.le_of_ble_eq_true rfl) (Nat.le_of_eq (Nat.zero_add _)) (Nat.le_of_eq (Nat.zero_add _)) dX5_reset_106 rfl rfl (t_fill h_97 (wRs ha (by decide)) (by decide) rfl (by decide) fun M_106 h_106 => ?_)
  refine r_aload_n (q := 110) dX5_reset_109 rfl rfl ?_
  refine r_get (q := 113) (kk := 11) (h_106.st ha) rfl wi_RX5 (by decide) rfl fk_X5_50 rfl dX5_reset_110 rfl ?_
  refine r_iconst (v := nI 0) (q := 114) dX5_reset_113 (by decide) rfl ?_
  refine r_iconst (v := nI 0) (q := 115) dX5_reset_114 (by decide) rfl ?_
  refine r_cV (q := 118) (As := [.int _, .int _]) wc_X5_72 rfl im_X2_fill se_X2_fill (h_106.row (wRs ha (by decide))) rfl rfl (Nat.le_of_ble_eq_true rfl) (Nat.le_of_eq (Nat.zero_add _)) (Nat.le_of_eq (Nat.zero_add _)) dX5_reset_115 rfl rfl (t_fill h_106 (wRs ha (by decide)) (by decide) rfl (by decide) fun M_115 h_115 => ?_)
  refine r_aload_n (q := 119) dX5_reset_118 rfl rfl ?_
  refine r_get (q := 122) (kk := 12) (h_115.st ha) rfl wi_RX5 (by decide) rfl fk_X5_53 rfl dX5_reset_119 rfl ?_
  refine r_iconst (v := nI 0) (q := 123) dX5_reset_122 (by decide) rfl ?_
  refine r_iconst (v := nI 0) (q := 124) dX5_reset_123 (by decide) rfl ?_
  refine r_cV (q := 127) (As := [.int _, .int _]) wc_X5_72 rfl im_X2_fill se_X2_fill (h_115.row (wRs ha (by decide))) rfl rfl (Nat.le_of_ble_eq_true rfl) (Nat.le_of_eq (Nat.zero_add _)) (Nat.le_of_eq (Nat.zero_add _)) dX5_reset_124 rfl rfl (t_fill h_115 (wRs ha (by decide)) (by decide) rfl (by decide) fun M_124 h_124 => ?_)
  refine r_aload_n (q := 128) dX5_reset_127 rfl rfl ?_
  refine r_iconst (v := nI 0) (q := 129) dX5_reset_128 (by decide) rfl ?_
  refine r_p5 (q := 132) (kk := 13) (j := 0) h_124 ha (by decide) rfl fk_X5_56 dX5_reset_129 rfl fun M_129 h_129 => ?_
  refine r_aload_n (q := 133) dX5_reset_132 rfl rfl ?_
  refine r_iconst (v := nI 0) (q := 134) dX5_reset_133 (by decide) rfl ?_
  refine r_p5 (q := 137) (kk := 14) (j := 1) h_129 ha (by decide) rfl fk_X5_60 dX5_reset_134 rfl fun M_134 h_134 => ?_
  refine r_aload_n (q := 138) dX5_reset_137 rfl rfl ?_
  refine r_iconst (v := nI 0) (q := 139) dX5_reset_138 (by decide) rfl ?_
  refine r_p5 (q := 142) (kk := 15) (j := 2) h_134 ha (by decide) rfl fk_X5_63 dX5_reset_139 rfl fun M_139 h_139 => ?_
  refine r_aload_n (q := 143) dX5_reset_142 rfl rfl ?_
  refine r_iconst (v := nI 0) (q := 144) dX5_reset_143 (by decide) rfl ?_
  refine r_p5 (q := 147) (kk := 16) (j := 3) h_139 ha (by decide) rfl fk_X5_66 dX5_reset_144 rfl fun M_144 h_144 => ?_
  refine r_vret dX5_reset_147 ?_
  refine hQ _ (h_144.cong (fun b hb => ?_) (fun j hj => ?_) ha)
  · have h2 : wLen a 0 = 7 ∧ wLen a 1 = 7 ∧ wLen a 2 = 7 ∧ wLen a 3 = 7 ∧ wLen a 4 = 7 ∧ wLen a 5 = 7 ∧ wLen a 6 = 7 ∧ wLen a 7 = 7 ∧ wLen a 8 = 4 ∧ wLen a 9 = 4 ∧ wLen a 10 = 4 := by simp [wLen, ha]
    have hc : b = 0 ∨ b = 1 ∨ b = 2 ∨ b = 3 ∨ b = 4 ∨ b = 5 ∨ b = 6 ∨ b = 7 ∨ b = 8 ∨ b = 9 ∨ b = 10 ∨ b = 11 ∨ b = 12 := by omega
    rcases hc with rfl | rfl | rfl | rfl | rfl | rfl | rfl | rfl | rfl | rfl | rfl | rfl | rfl <;> simp [s0, uR_1, uI_1, h2]
  · have hc : j = 0 ∨ j = 1 ∨ j = 2 ∨ j = 3 := by omega
    rcases hc with rfl | rfl | rfl | rfl <;> simp [s0, uR_2, uI_2]
theorem s_X5_copyFrom (h : RX G Λ ρ (sS σ a S) M) (ha : a < 11) {a2 : Nat} (ha2 : a2 < 11) (hne : a2 ≠ a) (hQ : ∀ M', RX G Λ ρ (sS σ a (gS σ a2)) M' → Q none M')  : MS G yX5_copyFrom cX5_copyFrom 2 none (d + 2) 0 0 [.ref (Λ (1, a, 0)), .ref (Λ (1, a2, 0))] M Q QX := by
  refine MS.of (by decide) (by simp [Value.category]) (Nat.le_of_ble_eq_true rfl) ?_
  show AW _ (_, _, _, _, _, _, _, _, _) _ _ _ _ [some _, some _] _ _
  refine r_aload_n (q := 1) dX5_copyFrom_0 rfl rfl ?_
  refine r_get (q := 4) (kk := 0) (h.st (by assumption)) rfl wi_RX5 (by decide) rfl fk_X5_14 rfl dX5_copyFrom_1 rfl ?_
  refine r_aload_n (q := 5) dX5_copyFrom_4 rfl rfl ?_
  refine r_get (q := 8) (kk := 0) (h.st (by assumption)) rfl wi_RX5 (by decide) rfl fk_X5_14 rfl dX5_copyFrom_5 rfl ?_
  refine r_cV (q := 11) (As := [.ref _]) wc_X5_76 rfl im_X2_copyFrom se_X2_copyFrom (h.row (wRs (by assumption) (by decide))) rfl rfl (Nat.le_of_ble_eq_true rfl) (Nat.le_of_eq (Nat.zero_add _)) (Nat.le_of_eq (Nat.zero_add _)) dX5_copyFrom_8 rfl rfl (t_copy h (wRs (by assumption) (by decide)) (fun e => hne e) (wRs ha2 (by decide)) fun M_8 h_8 => ?_)
  refine r_aload_n (q := 12) dX5_copyFrom_11 rfl rfl ?_
  refine r_get (q := 15) (kk := 1) (h_8.st (by assumption)) rfl wi_RX5 (by decide) rfl fk_X5_20 rfl dX5_copyFrom_12 rfl ?_
  refine r_aload_n (q := 16) dX5_copyFrom_15 rfl rfl ?_
  refine r_get (q := 19) (kk := 1) (h_8.st (by assumption)) rfl wi_RX5 (by decide) rfl fk_X5_20 rfl dX5_copyFrom_16 rfl ?_
  refine r_cV (q := 22) (As := [.ref _]) wc_X5_76 rfl im_X2_copyFrom se_X2_copyFrom (h_8.row (wRs (by assumption) (by decide))) rfl rfl (Nat.le_of_ble_eq_true rfl) (Nat.le_of_eq (Nat.zero_add _)) (Nat.le_of_eq (Nat.zero_add _)) dX5_copyFrom_19 rfl rfl (t_copy h_8 (wRs (by assumption) (by decide)) (fun e => hne e) (wRs ha2 (by decide)) fun M_19 h_19 => ?_)
  refine r_aload_n (q := 23) dX5_copyFrom_22 rfl rfl ?_
  refine r_get (q := 26) (kk := 2) (h_19.st (by assumption)) rfl wi_RX5 (by decide) rfl fk_X5_23 rfl dX5_copyFrom_23 rfl ?_
  refine r_aload_n (q := 27) dX5_copyFrom_26 rfl rfl ?_
  refine r_get (q := 30) (kk := 2) (h_19.st (by assumption)) rfl wi_RX5 (by decide) rfl fk_X5_23 rfl dX5_copyFrom_27 rfl ?_
  refine r_cV (q := 33) (As := [.ref _]) wc_X5_76 rfl im_X2_copyFrom se_X2_copyFrom (h_19.row (wRs (by assumption) (by decide))) rfl rfl (Nat.le_of_ble_eq_true rfl) (Nat.le_of_eq (Nat.zero_add _)) (Nat.le_of_eq (Nat.zero_add _)) dX5_copyFrom_30 rfl rfl (t_copy h_19 (wRs (by assumption) (by decide)) (fun e => hne e) (wRs ha2 (by decide)) fun M_30 h_30 => ?_)
  refine r_aload_n (q := 34) dX5_copyFrom_33 rfl rfl ?_
  refine r_get (q := 37) (kk := 3) (h_30.st (by assumption)) rfl wi_RX5 (by decide) rfl fk_X5_26 rfl dX5_copyFrom_34 rfl ?_
  refine r_aload_n (q := 38) dX5_copyFrom_37 rfl rfl ?_
  refine r_get (q := 41) (kk := 3) (h_30.st (by assumption)) rfl wi_RX5 (by decide) rfl fk_X5_26 rfl dX5_copyFrom_38 rfl ?_
  refine r_cV (q := 44) (As := [.ref _]) wc_X5_76 rfl im_X2_copyFrom se_X2_copyFrom (h_30.row (wRs (by assumption) (by decide))) rfl rfl (Nat.le_of_ble_eq_true rfl) (Nat.le_of_eq (Nat.zero_add _)) (Nat.le_of_eq (Nat.zero_add _)) dX5_copyFrom_41 rfl rfl (t_copy h_30 (wRs (by assumption) (by decide)) (fun e => hne e) (wRs ha2 (by decide)) fun M_41 h_41 => ?_)
  refine r_aload_n (q := 45) dX5_copyFrom_44 rfl rfl ?_
  refine r_get (q := 48) (kk := 4) (h_41.st (by assumption)) rfl wi_RX5 (by decide) rfl fk_X5_29 rfl dX5_copyFrom_45 rfl ?_
  refine r_aload_n (q := 49) dX5_copyFrom_48 rfl rfl ?_
  refine r_get (q := 52) (kk := 4) (h_41.st (by assumption)) rfl wi_RX5 (by decide) rfl fk_X5_29 rfl dX5_copyFrom_49 rfl ?_
  refine r_cV (q := 55) (As := [.ref _]) wc_X5_76 rfl im_X2_copyFrom se_X2_copyFrom (h_41.row (wRs (by assumption) (by decide))) rfl rfl (Nat.le_of_ble_eq_true rfl) (Nat.le_of_eq (Nat.zero_add _)) (Nat.le_of_eq (Nat.zero_add _)) dX5_copyFrom_52 rfl rfl (t_copy h_41 (wRs (by assumption) (by decide)) (fun e => hne e) (wRs ha2 (by decide)) fun M_52 h_52 => ?_)
  refine r_aload_n (q := 56) dX5_copyFrom_55 rfl rfl ?_
  refine r_get (q := 59) (kk := 5) (h_52.st (by assumption)) rfl wi_RX5 (by decide) rfl fk_X5_32 rfl dX5_copyFrom_56 rfl ?_
  refine r_aload_n (q := 60) dX5_copyFrom_59 rfl rfl ?_
  refine r_get (q := 63) (kk := 5) (h_52.st (by assumption)) rfl wi_RX5 (by decide) rfl fk_X5_32 rfl dX5_copyFrom_60 rfl ?_
  refine r_cV (q := 66) (As := [.ref _]) wc_X5_76 rfl im_X2_copyFrom se_X2_copyFrom (h_52.row (wRs (by assumption) (by decide))) rfl rfl (Nat.le_of_ble_eq_true rfl) (Nat.le_of_eq (Nat.zero_add _)) (Nat.le_of_eq (Nat.zero_add _)) dX5_copyFrom_63 rfl rfl (t_copy h_52 (wRs (by assumption) (by decide)) (fun e => hne e) (wRs ha2 (by decide)) fun M_63 h_63 => ?_)
  refine r_aload_n (q := 67) dX5_copyFrom_66 rfl rfl ?_
  refine r_get (q := 70) (kk := 6) (h_63.st (by assumption)) rfl wi_RX5 (by decide) rfl fk_X5_35 rfl dX5_copyFrom_67 rfl ?_
  refine r_aload_n (q := 71) dX5_copyFrom_70 rfl rfl ?_
  refine r_get (q := 74) (kk := 6) (h_63.st (by assumption)) rfl wi_RX5 (by decide) rfl fk_X5_35 rfl dX5_copyFrom_71 rfl ?_
  refine r_cV (q := 77) (As := [.ref _]) wc_X5_76 rfl im_X2_copyFrom se_X2_copyFrom (h_63.row (wRs (by assumption) (by decide))) rfl rfl (Nat.le_of_ble_eq_true rfl) (Nat.le_of_eq (Nat.zero_add _)) (Nat.le_of_eq (Nat.zero_add _)) dX5_copyFrom_74 rfl rfl (t_copy h_63 (wRs (by assumption) (by decide)) (fun e => hne e) (wRs ha2 (by decide)) fun M_74 h_74 => ?_)
  refine r_aload_n (q := 78) dX5_copyFrom_77 rfl rfl ?_
  refine r_get (q := 81) (kk := 7) (h_74.st (by assumption)) rfl wi_RX5 (by decide) rfl fk_X5_38 rfl dX5_copyFrom_78 rfl ?_
  refine r_aload_n (q := 82) dX5_copyFrom_81 rfl rfl ?_
  refine r_get (q := 85) (kk := 7) (h_74.st (by assumption)) rfl wi_RX5 (by decide) rfl fk_X5_38 rfl dX5_copyFrom_82 rfl ?_
  refine r_cV (q := 88) (As := [.ref _]) wc_X5_76 rfl im_X2_copyFrom se_X2_copyFrom (h_74.row (wRs (by assumption) (by decide))) rfl rfl (Nat.le_of_ble_eq_true rfl) (Nat.le_of_eq (Nat.zero_add _)) (Nat.le_of_eq (Nat.zero_add _)) dX5_copyFrom_85 rfl rfl (t_copy h_74 (wRs (by assumption) (by decide)) (fun e => hne e) (wRs ha2 (by decide)) fun M_85 h_85 => ?_)
  refine r_aload_n (q := 89) dX5_copyFrom_88 rfl rfl ?_
  refine r_get (q := 92) (kk := 8) (h_85.st (by assumption)) rfl wi_RX5 (by decide) rfl fk_X5_41 rfl dX5_copyFrom_89 rfl ?_
  refine r_aload_n (q := 93) dX5_copyFrom_92 rfl rfl ?_
  refine r_get (q := 96) (kk := 8) (h_85.st (by assumption)) rfl wi_RX5 (by decide) rfl fk_X5_41 rfl dX5_copyFrom_93 rfl ?_
  refine r_cV (q := 99) (As := [.ref _]) wc_X5_76 rfl im_X2_copyFrom se_X2_copyFrom (h_85.row (wRs (by assumption) (by decide))) rfl rfl (Nat.le_of_ble_eq_true rfl) (Nat.le_of_eq (Nat.zero_add _)) (Nat.le_of_eq (Nat.zero_add _)) dX5_copyFrom_96 rfl rfl (t_copy h_85 (wRs (by assumption) (by decide)) (fun e => hne e) (wRs ha2 (by decide)) fun M_96 h_96 => ?_)
  refine r_aload_n (q := 100) dX5_copyFrom_99 rfl rfl ?_
  refine r_get (q := 103) (kk := 9) (h_96.st (by assumption)) rfl wi_RX5 (by decide) rfl fk_X5_44 rfl dX5_copyFrom_100 rfl ?_
  refine r_aload_n (q := 104) dX5_copyFrom_103 rfl rfl ?_
  refine r_get (q := 107) (kk := 9) (h_96.st (by assumption)) rfl wi_RX5 (by decide) rfl fk_X5_44 rfl dX5_copyFrom_104 rfl ?_
  refine r_cV (q := 110) (As := [.ref _]) wc_X5_76 rfl im_X2_copyFrom se_X2_copyFrom (h_96.row (wRs (by assumption) (by decide))) rfl rfl (Nat.le_of_ble_eq_true rfl) (Nat.le_of_eq (Nat.zero_add _)) (Nat.le_of_eq (Nat.zero_add _)) dX5_copyFrom_107 rfl rfl (t_copy h_96 (wRs (by assumption) (by decide)) (fun e => hne e) (wRs ha2 (by decide)) fun M_107 h_107 => ?_)
  refine r_aload_n (q := 111) dX5_copyFrom_110 rfl rfl ?_
  refine r_get (q := 114) (kk := 10) (h_107.st (by assumption)) rfl wi_RX5 (by decide) rfl fk_X5_47 rfl dX5_copyFrom_111 rfl ?_
  refine r_aload_n (q := 115) dX5_copyFrom_114 rfl rfl ?_
  refine r_get (q := 118) (kk := 10) (h_107.st (by assumption)) rfl wi_RX5 (by decide) rfl fk_X5_47 rfl dX5_copyFrom_115 rfl ?_
  refine r_cV (q := 121) (As := [.ref _]) wc_X5_76 rfl im_X2_copyFrom se_X2_copyFrom (h_107.row (wRs (by assumption) (by decide))) rfl rfl (Nat.le_of_ble_eq_true rfl) (Nat.le_of_eq (Nat.zero_add _)) (Nat.le_of_eq (Nat.zero_add _)) dX5_copyFrom_118 rfl rfl (t_copy h_107 (wRs (by assumption) (by decide)) (fun e => hne e) (wRs ha2 (by decide)) fun M_118 h_118 => ?_)
  refine r_aload_n (q := 122) dX5_copyFrom_121 rfl rfl ?_
  refine r_get (q := 125) (kk := 11) (h_118.st (by assumption)) rfl wi_RX5 (by decide) rfl fk_X5_50 rfl dX5_copyFrom_122 rfl ?_
  refine r_aload_n (q := 126) dX5_copyFrom_125 rfl rfl ?_
  refine r_get (q := 129) (kk := 11) (h_118.st (by assumption)) rfl wi_RX5 (by decide) rfl fk_X5_50 rfl dX5_copyFrom_126 rfl ?_
  refine r_cV (q := 132) (As := [.ref _]) wc_X5_76 rfl im_X2_copyFrom se_X2_copyFrom (h_118.row (wRs (by assumption) (by decide))) rfl rfl (Nat.le_of_ble_eq_true rfl) (Nat.le_of_eq (Nat.zero_add _)) (Nat.le_of_eq (Nat.zero_add _)) dX5_copyFrom_129 rfl rfl (t_copy h_118 (wRs (by assumption) (by decide)) (fun e => hne e) (wRs ha2 (by decide)) fun M_129 h_129 => ?_)
  refine r_aload_n (q := 133) dX5_copyFrom_132 rfl rfl ?_
  refine r_get (q := 136) (kk := 12) (h_129.st (by assumption)) rfl wi_RX5 (by decide) rfl fk_X5_53 rfl dX5_copyFrom_133 rfl ?_
  refine r_aload_n (q := 137) dX5_copyFrom_136 rfl rfl ?_
  refine r_get (q := 140) (kk := 12) (h_129.st (by assumption)) rfl wi_RX5 (by decide) rfl fk_X5_53 rfl dX5_copyFrom_137 rfl ?_
  refine r_cV (q := 143) (As := [.ref _]) wc_X5_76 rfl im_X2_copyFrom se_X2_copyFrom (h_129.row (wRs (by assumption) (by decide))) rfl rfl (Nat.le_of_ble_eq_true rfl) (Nat.le_of_eq (Nat.zero_add _)) (Nat.le_of_eq (Nat.zero_add _)) dX5_copyFrom_140 rfl rfl (t_copy h_129 (wRs (by assumption) (by decide)) (fun e => hne e) (wRs ha2 (by decide)) fun M_140 h_140 => ?_)
  refine r_aload_n (q := 144) dX5_copyFrom_143 rfl rfl ?_
  refine r_aload_n (q := 145) dX5_copyFrom_144 rfl rfl ?_
  refine r_get (q := 148) (kk := 13) (h_140.st (by assumption)) rfl wi_RX5 (by decide) rfl fk_X5_56 rfl dX5_copyFrom_145 rfl ?_
  refine r_p5 (q := 151) (kk := 13) (j := 0) h_140 (by assumption) (by decide) rfl fk_X5_56 dX5_copyFrom_148 rfl fun M_148 h_148 => ?_
  refine r_aload_n (q := 152) dX5_copyFrom_151 rfl rfl ?_
  refine r_aload_n (q := 153) dX5_copyFrom_152 rfl rfl ?_
  refine r_get (q := 156) (kk := 14) (h_148.st (by assumption)) rfl wi_RX5 (by decide) rfl fk_X5_60 rfl dX5_copyFrom_153 rfl ?_
  refine r_p5 (q := 159) (kk := 14) (j := 1) h_148 (by assumption) (by decide) rfl fk_X5_60 dX5_copyFrom_156 rfl fun M_156 h_156 => ?_
  refine r_aload_n (q := 160) dX5_copyFrom_159 rfl rfl ?_
  refine r_aload_n (q := 161) dX5_copyFrom_160 rfl rfl ?_
  refine r_get (q := 164) (kk := 15) (h_156.st (by assumption)) rfl wi_RX5 (by decide) rfl fk_X5_63 rfl dX5_copyFrom_161 rfl ?_
  refine r_p5 (q := 167) (kk := 15) (j := 2) h_156 (by assumption) (by decide) rfl fk_X5_63 dX5_copyFrom_164 rfl fun M_164 h_164 => ?_
  refine r_aload_n (q := 168) dX5_copyFrom_167 rfl rfl ?_
  refine r_aload_n (q := 169) dX5_copyFrom_168 rfl rfl ?_
  refine r_get (q := 172) (kk := 16) (h_164.st (by assumption)) rfl wi_RX5 (by decide) rfl fk_X5_66 rfl dX5_copyFrom_169 rfl ?_
  refine r_p5 (q := 175) (kk := 16) (j := 3) h_164 (by assumption) (by decide) rfl fk_X5_66 dX5_copyFrom_172 rfl fun M_172 h_172 => ?_
  refine r_vret dX5_copyFrom_175 ?_
  refine hQ _ (h_172.cong (fun b hb => ?_) (fun j hj => ?_) ha)
  · have hl : wLen a b = wLen a2 b := by simp [wLen, ha, ha2]
    have hle : (gR σ a2 b).length ≤ wLen a b := by
      have := (h.rw (wRs ha2 hb)).2.1
      rw [gR_n hne] at this
      rw [hl]; exact this
    have ht : (gR σ a2 b).take (wLen a b) = (gS σ a2).1 b := List.take_of_length_le hle
    have hc : b = 0 ∨ b = 1 ∨ b = 2 ∨ b = 3 ∨ b = 4 ∨ b = 5 ∨ b = 6 ∨ b = 7 ∨ b = 8 ∨ b = 9 ∨ b = 10 ∨ b = 11 ∨ b = 12 := by omega
    rw [← ht]
    rcases hc with rfl | rfl | rfl | rfl | rfl | rfl | rfl | rfl | rfl | rfl | rfl | rfl | rfl <;> simp [uR_1, uI_1]
  · have hc : j = 0 ∨ j = 1 ∨ j = 2 ∨ j = 3 := by omega
    rcases hc with rfl | rfl | rfl | rfl <;> simp [uR_2, uI_2, gI_n hne, gI_gS]
theorem s_X5_giveSign (h : RX G Λ ρ (sS σ a S) M) (ha : a < 11) {l w : Nat} (hl : l < 7) (hw : w < 448) (hQ : ∀ M', RX G Λ ρ (sS σ a (uR S 0 ((S.1 0).set l w))) M' → Q (some (.int (nI (stm w)))) M')  : MS G yX5_giveSign cX5_giveSign 3 (some .int) (d + 3) 0 0 [.ref (Λ (1, a, 0)), .int (nI l), .int (nI w)] M Q QX := by
  refine MS.of (by decide) (by simp [Value.category]) (Nat.le_of_ble_eq_true rfl) ?_
  show AW _ (_, _, _, _, _, _, _, _, _) _ _ _ _ [some _, some _, some _] _ _
  refine r_aload_n (q := 1) dX5_giveSign_0 rfl rfl ?_
  refine r_get (q := 4) (kk := 0) (h.st ha) rfl wi_RX5 (by decide) rfl fk_X5_14 rfl dX5_giveSign_1 rfl ?_
  refine r_iload_n (q := 5) dX5_giveSign_4 rfl rfl ?_
  refine r_iload_n (q := 6) dX5_giveSign_5 rfl rfl ?_
  refine r_cV (q := 9) (As := [.int _, .int _]) wc_X5_80 rfl im_X2_put se_X2_put (h.row (wRs ha (by decide))) rfl rfl (Nat.le_of_ble_eq_true rfl) (Nat.le_of_eq (Nat.zero_add _)) (Nat.le_of_eq (Nat.zero_add _)) dX5_giveSign_6 rfl rfl (t_putN h (wRs ha (by decide)) rfl (by omega) (by omega) fun M_6 h_6 => ?_)
  refine r_iload_n (q := 10) dX5_giveSign_9 rfl rfl ?_
  refine r_cS (q := 13) (As := [.int _]) wc_X5_83 st_X7_steam rfl (Nat.le_of_ble_eq_true rfl) (Nat.le_of_eq (Nat.zero_add _)) (Nat.le_of_eq (Nat.zero_add _)) dX5_giveSign_10 rfl rfl (s_X7_steam (by omega) ?_)
  refine r_iret dX5_giveSign_13 ?_
  exact hQ _ h_6
theorem s_X5_takeSign (h : RX G Λ ρ (sS σ a S) M) (ha : a < 11) {l : Nat} (hl : l < 7) (hQ : ∀ M', RX G Λ ρ (sS σ a (uR S 0 ((S.1 0).set l 0))) M' → Q (some (.int (nI (((S.1 0).set l 0).countP (0 < ·))))) M')  : MS G yX5_takeSign cX5_takeSign 2 (some .int) (d + 2) 0 0 [.ref (Λ (1, a, 0)), .int (nI l)] M Q QX := by
  refine MS.of (by decide) (by simp [Value.category]) (Nat.le_of_ble_eq_true rfl) ?_
  show AW _ (_, _, _, _, _, _, _, _, _) _ _ _ _ [some _, some _] _ _
  refine r_aload_n (q := 1) dX5_takeSign_0 rfl rfl ?_
  refine r_get (q := 4) (kk := 0) (h.st ha) rfl wi_RX5 (by decide) rfl fk_X5_14 rfl dX5_takeSign_1 rfl ?_
  refine r_iload_n (q := 5) dX5_takeSign_4 rfl rfl ?_
  refine r_iconst (v := nI 0) (q := 6) dX5_takeSign_5 (by decide) rfl ?_
  refine r_cV (q := 9) (As := [.int _, .int _]) wc_X5_80 rfl im_X2_put se_X2_put (h.row (wRs ha (by decide))) rfl rfl (Nat.le_of_ble_eq_true rfl) (Nat.le_of_eq (Nat.zero_add _)) (Nat.le_of_eq (Nat.zero_add _)) dX5_takeSign_6 rfl rfl (t_putN h (wRs ha (by decide)) rfl (by omega) (by decide) fun M_6 h_6 => ?_)
  refine r_aload_n (q := 10) dX5_takeSign_9 rfl rfl ?_
  refine r_get (q := 13) (kk := 0) (h_6.st ha) rfl wi_RX5 (by decide) rfl fk_X5_14 rfl dX5_takeSign_10 rfl ?_
  refine r_cS (q := 16) (As := [.ref _]) wc_X5_88 st_X3_number rfl (Nat.le_of_ble_eq_true rfl) (Nat.le_of_eq (Nat.zero_add _)) (Nat.le_of_eq (Nat.zero_add _)) dX5_takeSign_13 rfl rfl (s_X3_number (h_6.rwS (wRs ha (by decide))) ?_)
  refine r_iret dX5_takeSign_16 ?_
  exact hQ _ h_6
theorem s_X5_givePriority (h : RX G Λ ρ (sS σ a S) M) (ha : a < 11) {l p : Nat} (hl : l < 7) (hp : p < 10) (hQ : ∀ M', RX G Λ ρ (sS σ a (uR S 1 ((S.1 1).set l p))) M' → Q (some (.int (nI ((S.1 1).getD l 0)))) M')  : MS G yX5_givePriority cX5_givePriority 4 (some .int) (d + 1) 0 0 [.ref (Λ (1, a, 0)), .int (nI l), .int (nI p)] M Q QX := by
  refine MS.of (by decide) (by simp [Value.category]) (Nat.le_of_ble_eq_true rfl) ?_
  show AW _ (_, _, _, _, _, _, _, _, _) _ _ _ _ [some _, some _, some _, _] _ _
  refine r_aload_n (q := 1) dX5_givePriority_0 rfl rfl ?_
  refine r_get (q := 4) (kk := 1) (h.st ha) rfl wi_RX5 (by decide) rfl fk_X5_20 rfl dX5_givePriority_1 rfl ?_
  refine r_iload_n (q := 5) dX5_givePriority_4 rfl rfl ?_
  refine r_cV (q := 8) (As := [.int _]) wc_X5_94 rfl im_X2_at se_X2_at (h.row (wRs ha (by decide))) rfl rfl (Nat.le_of_ble_eq_true rfl) (Nat.le_of_eq (Nat.zero_add _)) (Nat.le_of_eq (Nat.zero_add _)) dX5_givePriority_5 rfl rfl (t_atN h (wRs ha (by decide)) (by omega) ?_)
  refine r_istore_n (q := 9) dX5_givePriority_8 (Nat.le_of_ble_eq_true rfl) rfl rfl ?_
  show AW _ (_, _, _, _, _, _, _, _, _) _ _ _ _ [some _, some _, some _, some _] _ _
  refine r_aload_n (q := 10) dX5_givePriority_9 rfl rfl ?_
  refine r_get (q := 13) (kk := 1) (h.st ha) rfl wi_RX5 (by decide) rfl fk_X5_20 rfl dX5_givePriority_10 rfl ?_
  refine r_iload_n (q := 14) dX5_givePriority_13 rfl rfl ?_
  refine r_iload_n (q := 15) dX5_givePriority_14 rfl rfl ?_
  refine r_cV (q := 18) (As := [.int _, .int _]) wc_X5_80 rfl im_X2_put se_X2_put (h.row (wRs ha (by decide))) rfl rfl (Nat.le_of_ble_eq_true rfl) (Nat.le_of_eq (Nat.zero_add _)) (Nat.le_of_eq (Nat.zero_add _)) dX5_givePriority_15 rfl rfl (t_putN h (wRs ha (by decide)) rfl (by omega) (by omega) fun M_15 h_15 => ?_)
  refine r_iload_n (q := 19) dX5_givePriority_18 rfl rfl ?_
  refine r_iret dX5_givePriority_19 ?_
  exact hQ _ h_15
theorem s_X5_tellPlatform (h : RX G Λ ρ (sS σ a S) M) (ha : a < 11) {p dl m : Nat} (hp : p < 4) (hd : dl < 6) (hm : m < 128) (hQ : ∀ M', RX G Λ ρ (sS σ a (uR (uR S 8 ((S.1 8).set p dl)) 9 ((S.1 9).set p m))) M' → Q (some (.int (nI (((S.1 8).set p dl).countP (0 < ·))))) M')  : MS G yX5_tellPlatform cX5_tellPlatform 4 (some .int) (d + 1) 0 0 [.ref (Λ (1, a, 0)), .int (nI p), .int (nI dl), .int (nI m)] M Q QX := by
  refine MS.of (by decide) (by simp [Value.category]) (Nat.le_of_ble_eq_true rfl) ?_
  show AW _ (_, _, _, _, _, _, _, _, _) _ _ _ _ [some _, some _, some _, some _] _ _
  refine r_aload_n (q := 1) dX5_tellPlatform_0 rfl rfl ?_
  refine r_get (q := 4) (kk := 8) (h.st ha) rfl wi_RX5 (by decide) rfl fk_X5_41 rfl dX5_tellPlatform_1 rfl ?_
  refine r_iload_n (q := 5) dX5_tellPlatform_4 rfl rfl ?_
  refine r_iload_n (q := 6) dX5_tellPlatform_5 rfl rfl ?_
  refine r_cV (q := 9) (As := [.int _, .int _]) wc_X5_80 rfl im_X2_put se_X2_put (h.row (wRs ha (by decide))) rfl rfl (Nat.le_of_ble_eq_true rfl) (Nat.le_of_eq (Nat.zero_add _)) (Nat.le_of_eq (Nat.zero_add _)) dX5_tellPlatform_6 rfl rfl (t_putN h (wRs ha (by decide)) rfl (by omega) (by omega) fun M_6 h_6 => ?_)
  refine r_aload_n (q := 10) dX5_tellPlatform_9 rfl rfl ?_
  refine r_get (q := 13) (kk := 9) (h_6.st ha) rfl wi_RX5 (by decide) rfl fk_X5_44 rfl dX5_tellPlatform_10 rfl ?_
  refine r_iload_n (q := 14) dX5_tellPlatform_13 rfl rfl ?_
  refine r_iload_n (q := 15) dX5_tellPlatform_14 rfl rfl ?_
  refine r_cV (q := 18) (As := [.int _, .int _]) wc_X5_80 rfl im_X2_put se_X2_put (h_6.row (wRs ha (by decide))) rfl rfl (Nat.le_of_ble_eq_true rfl) (Nat.le_of_eq (Nat.zero_add _)) (Nat.le_of_eq (Nat.zero_add _)) dX5_tellPlatform_15 rfl rfl (t_putN h_6 (wRs ha (by decide)) rfl (by omega) (by omega) fun M_15 h_15 => ?_)
  refine r_aload_n (q := 19) dX5_tellPlatform_18 rfl rfl ?_
  refine r_get (q := 22) (kk := 8) (h_15.st ha) rfl wi_RX5 (by decide) rfl fk_X5_41 rfl dX5_tellPlatform_19 rfl ?_
  refine r_cV (q := 25) (As := []) wc_X5_97 rfl im_X2_numberAboveZero se_X2_numberAboveZero (h_15.row (wRs ha (by decide))) rfl rfl (Nat.le_of_ble_eq_true rfl) (Nat.le_of_eq (Nat.zero_add _)) (Nat.le_of_eq (Nat.zero_add _)) dX5_tellPlatform_22 rfl rfl (t_many h_15 (wRs ha (by decide)) ?_)
  refine r_iret dX5_tellPlatform_25 ?_
  exact hQ _ h_15
theorem s_X5_steamToBlow (h : RX G Λ ρ (sS σ a S) M) (ha : a < 11) {l t : Nat} (hl : l < 7) (ht : t < 7) (hQ : Q (some (.int (nI (cost S l t)))) M)  : MS G yX5_steamToBlow cX5_steamToBlow 4 (some .int) (d + 3) 0 0 [.ref (Λ (1, a, 0)), .int (nI l), .int (nI t)] M Q QX := by
  refine MS.of (by decide) (by simp [Value.category]) (Nat.le_of_ble_eq_true rfl) ?_
  show AW _ (_, _, _, _, _, _, _, _, _) _ _ _ _ [some _, some _, some _, _] _ _
  refine r_aload_n (q := 1) dX5_steamToBlow_0 rfl rfl ?_
  refine r_get (q := 4) (kk := 0) (h.st ha) rfl wi_RX5 (by decide) rfl fk_X5_14 rfl dX5_steamToBlow_1 rfl ?_
  refine r_iload_n (q := 5) dX5_steamToBlow_4 rfl rfl ?_
  refine r_cV (q := 8) (As := [.int _]) wc_X5_94 rfl im_X2_at se_X2_at (h.row (wRs ha (by decide))) rfl rfl (Nat.le_of_ble_eq_true rfl) (Nat.le_of_eq (Nat.zero_add _)) (Nat.le_of_eq (Nat.zero_add _)) dX5_steamToBlow_5 rfl rfl (t_atN h (wRs ha (by decide)) (by omega) ?_)
  refine r_cS (q := 11) (As := [.int _]) wc_X5_83 st_X7_steam rfl (Nat.le_of_ble_eq_true rfl) (Nat.le_of_eq (Nat.zero_add _)) (Nat.le_of_eq (Nat.zero_add _)) dX5_steamToBlow_8 rfl rfl (s_X7_steam (t_lt h (wRs ha (by decide)) _) ?_)
  refine r_istore_n (q := 12) dX5_steamToBlow_11 (Nat.le_of_ble_eq_true rfl) rfl rfl ?_
  show AW _ (_, _, _, _, _, _, _, _, _) _ _ _ _ [some _, some _, some _, some _] _ _
  refine r_iload_n (q := 13) dX5_steamToBlow_12 rfl rfl ?_
  refine r_iload_n (q := 14) dX5_steamToBlow_13 rfl rfl ?_
  refine r_icmp_ne (t := 21) (q := 17) dX5_steamToBlow_14 rfl rfl (fun c14 => ?_) (fun c14 => ?_)
  · simp (disch := omega) only [nI_leI, nI_ltI, nI_eq, nI_lt0, nI_ge0, nI_gt0, nI_le0, nI_eq0] at c14
    rw [cost, if_neg c14] at hQ
    refine r_iconst (v := nI 2) (q := 22) dX5_steamToBlow_21 (by decide) rfl ?_
    refine r_iload_n (q := 23) dX5_steamToBlow_22 rfl rfl ?_
    refine r_imul (q := 24) dX5_steamToBlow_23 rfl ?_
    rw [n_mul]
    refine r_iret dX5_steamToBlow_24 ?_
    exact hQ
  · simp (disch := omega) only [nI_leI, nI_ltI, nI_eq, nI_lt0, nI_ge0, nI_gt0, nI_le0, nI_eq0] at c14
    rw [cost, if_pos (show l = t by omega)] at hQ
    refine r_iload_n (q := 18) dX5_steamToBlow_17 rfl rfl ?_
    refine r_goto (t := 24) dX5_steamToBlow_18 rfl ?_
    refine r_iret dX5_steamToBlow_24 ?_
    exact hQ
def gWh (L : List Nat) (l : Nat) : Option Nat := (List.range L.length).find? fun i => decide (dE (L.getD i 0) = 0) && decide (dW (L.getD i 0) = l)
def gLie (L : List Nat) (l : Nat) : Option Nat := match gWh L l with
  | none => none
  | some i => if dT (L.getD i 0) = l ∨ dX (L.getD i 0) = true then none else some i
theorem oI_neg {o : Option Nat} (ho : ∀ i, o = some i → i < 2 ^ 31) : oI o < 0 ↔ o = none := by
  cases o with
  | none => exact ⟨fun _ => rfl, fun _ => by decide⟩
  | some i => exact ⟨fun h => absurd h (nI_pos (ho i rfl)), fun h => by cases h⟩
theorem gWh_lt {L : List Nat} {l i : Nat} (h : gWh L l = some i) : i < L.length := List.mem_range.mp (List.mem_of_find?_eq_some h)
theorem wLen_lt' (a b : Nat) : wLen a b < 2 ^ 31 := Nat.lt_of_le_of_lt (wLen_lt a b) (by decide)
theorem RX.lenS {b : Nat} (h : RX G Λ ρ (sS σ a S) M) (hr : wR a b = true) : (S.1 b).length ≤ 883 := Nat.le_trans (h.rwS hr).2.1 (wLen_lt a b)
theorem s_X5_indexOfWhistle (h : RX G Λ ρ (sS σ a S) M) (ha : a < 11) {l : Nat} (hl : l < 7) (hQ : Q (some (.int (oI (gWh (S.1 11) l)))) M)  : MS G yX5_indexOfWhistle cX5_indexOfWhistle 3 (some .int) (d + 1) 0 0 [.ref (Λ (1, a, 0)), .int (nI l)] M Q QX := by
  have loop : ∀ (m : Nat) j, m = (S.1 11).length - j → j ≤ (S.1 11).length → (∀ i, i < j → (decide (dE ((S.1 11).getD i 0) = 0) && decide (dW ((S.1 11).getD i 0) = l)) = false) → AW G (wX G yX5_indexOfWhistle cX5_indexOfWhistle 3 (some .int) 0 0 Q QX) (d + 1) 0 0 2 [some (.ref (Λ (1, a, 0))), some (.int (nI l)), some (.int (nI j))] [] M := by
    intro m
    induction m using Nat.strongRecOn with
    | _ m ih =>
    intro j hm hj hf
    subst hm
    have hlen := h.lenS (wRs ha (by decide : 11 < 13))
    refine r_iload_n (q := 3) dX5_indexOfWhistle_2 rfl rfl ?_
    refine r_aload_n (q := 4) dX5_indexOfWhistle_3 rfl rfl ?_
    refine r_get (q := 7) (kk := 11) (h.st ha) rfl wi_RX5 (by decide) rfl fk_X5_50 rfl dX5_indexOfWhistle_4 rfl ?_
    refine r_cV (q := 10) (As := []) wc_X5_143 rfl im_X2_size se_X2_size (h.row (wRs ha (by decide))) rfl rfl (Nat.le_of_ble_eq_true rfl) (Nat.le_of_eq (Nat.zero_add _)) (Nat.le_of_eq (Nat.zero_add _)) dX5_indexOfWhistle_7 rfl rfl (t_size h (wRs ha (by decide)) ?_)
    refine r_icmp_ge (t := 50) (q := 13) dX5_indexOfWhistle_10 rfl rfl (fun c10 => ?_) (fun c10 => ?_)
    · simp (disch := omega) only [nI_leI, nI_ltI, nI_eq, nI_lt0, nI_ge0, nI_gt0, nI_le0, nI_eq0] at c10
      refine r_iconst (v := (-1)) (q := 51) dX5_indexOfWhistle_50 (by decide) rfl ?_
      refine r_iret dX5_indexOfWhistle_51 ?_
      rw [show gWh (S.1 11) l = none from find_none fun i hi => hf i (by omega)] at hQ
      exact hQ
    · simp (disch := omega) only [nI_leI, nI_ltI, nI_eq, nI_lt0, nI_ge0, nI_gt0, nI_le0, nI_eq0] at c10
      have hE := dE_lt ((S.1 11).getD j 0)
      have hW := dW_lt ((S.1 11).getD j 0)
      refine r_aload_n (q := 14) dX5_indexOfWhistle_13 rfl rfl ?_
      refine r_get (q := 17) (kk := 11) (h.st ha) rfl wi_RX5 (by decide) rfl fk_X5_50 rfl dX5_indexOfWhistle_14 rfl ?_
      refine r_iload_n (q := 18) dX5_indexOfWhistle_17 rfl rfl ?_
      refine r_cV (q := 21) (As := [.int _]) wc_X5_94 rfl im_X2_at se_X2_at (h.row (wRs ha (by decide))) rfl rfl (Nat.le_of_ble_eq_true rfl) (Nat.le_of_eq (Nat.zero_add _)) (Nat.le_of_eq (Nat.zero_add _)) dX5_indexOfWhistle_18 rfl rfl (t_atN h (wRs ha (by decide)) (by omega) ?_)
      refine r_cS (q := 24) (As := [.int _]) wc_X5_152 st_X4_echoer rfl (Nat.le_of_ble_eq_true rfl) (Nat.le_of_eq (Nat.zero_add _)) (Nat.le_of_eq (Nat.zero_add _)) dX5_indexOfWhistle_21 rfl rfl (s_X4_echoer (t_lt h (wRs ha (by decide)) _) ?_)
      refine r_if_ge (t := 44) (q := 27) dX5_indexOfWhistle_24 rfl rfl (fun c24 => ?_) (fun c24 => ?_)
      · have hz : (decide (dE ((S.1 11).getD j 0) = 0) && decide (dW ((S.1 11).getD j 0) = l)) = false := by
          have : ¬ dE ((S.1 11).getD j 0) = 0 := fun e => absurd ((eI_neg hE).mpr e) (Int32.not_lt.mpr c24)
          rw [decide_eq_false this, Bool.false_and]
        refine r_inc1 (q := 47) dX5_indexOfWhistle_44 rfl (Nat.le_of_ble_eq_true rfl) rfl rfl ?_
        show AW _ (_, _, _, _, _, _, _, _, _) _ _ _ _ [some _, some _, some _] _ _
        refine r_goto (t := 2) dX5_indexOfWhistle_47 rfl ?_
        exact ih ((S.1 11).length - (j + 1)) (by omega) (j + 1) rfl (by omega) (lt_s' (p := fun i => (decide (dE ((S.1 11).getD i 0) = 0) && decide (dW ((S.1 11).getD i 0) = l)) = false) hf hz)
      · replace c24 := (eI_neg hE).mp (Int32.not_le.mp c24)
        refine r_aload_n (q := 28) dX5_indexOfWhistle_27 rfl rfl ?_
        refine r_get (q := 31) (kk := 11) (h.st ha) rfl wi_RX5 (by decide) rfl fk_X5_50 rfl dX5_indexOfWhistle_28 rfl ?_
        refine r_iload_n (q := 32) dX5_indexOfWhistle_31 rfl rfl ?_
        refine r_cV (q := 35) (As := [.int _]) wc_X5_94 rfl im_X2_at se_X2_at (h.row (wRs ha (by decide))) rfl rfl (Nat.le_of_ble_eq_true rfl) (Nat.le_of_eq (Nat.zero_add _)) (Nat.le_of_eq (Nat.zero_add _)) dX5_indexOfWhistle_32 rfl rfl (t_atN h (wRs ha (by decide)) (by omega) ?_)
        refine r_cS (q := 38) (As := [.int _]) wc_X5_165 st_X4_whistler rfl (Nat.le_of_ble_eq_true rfl) (Nat.le_of_eq (Nat.zero_add _)) (Nat.le_of_eq (Nat.zero_add _)) dX5_indexOfWhistle_35 rfl rfl (s_X4_whistler (t_lt h (wRs ha (by decide)) _) ?_)
        refine r_iload_n (q := 39) dX5_indexOfWhistle_38 rfl rfl ?_
        refine r_icmp_ne (t := 44) (q := 42) dX5_indexOfWhistle_39 rfl rfl (fun c39 => ?_) (fun c39 => ?_)
        · simp (disch := omega) only [nI_leI, nI_ltI, nI_eq, nI_lt0, nI_ge0, nI_gt0, nI_le0, nI_eq0] at c39
          have hz : (decide (dE ((S.1 11).getD j 0) = 0) && decide (dW ((S.1 11).getD j 0) = l)) = false := by rw [decide_eq_false c39, Bool.and_false]
          refine r_inc1 (q := 47) dX5_indexOfWhistle_44 rfl (Nat.le_of_ble_eq_true rfl) rfl rfl ?_
          show AW _ (_, _, _, _, _, _, _, _, _) _ _ _ _ [some _, some _, some _] _ _
          refine r_goto (t := 2) dX5_indexOfWhistle_47 rfl ?_
          exact ih ((S.1 11).length - (j + 1)) (by omega) (j + 1) rfl (by omega) (lt_s' (p := fun i => (decide (dE ((S.1 11).getD i 0) = 0) && decide (dW ((S.1 11).getD i 0) = l)) = false) hf hz)
        · simp (disch := omega) only [nI_leI, nI_ltI, nI_eq, nI_lt0, nI_ge0, nI_gt0, nI_le0, nI_eq0] at c39
          refine r_iload_n (q := 43) dX5_indexOfWhistle_42 rfl rfl ?_
          refine r_iret dX5_indexOfWhistle_43 ?_
          rw [show gWh (S.1 11) l = some j from find_some (by omega) hf (by rw [decide_eq_true c24, decide_eq_true c39]; rfl)] at hQ
          exact hQ
  refine MS.of (by decide) (by simp [Value.category]) (Nat.le_of_ble_eq_true rfl) ?_
  show AW _ (_, _, _, _, _, _, _, _, _) _ _ _ _ [some _, some _, _] _ _
  refine r_iconst (v := nI 0) (q := 1) dX5_indexOfWhistle_0 (by decide) rfl ?_
  refine r_istore_n (q := 2) dX5_indexOfWhistle_1 (Nat.le_of_ble_eq_true rfl) rfl rfl ?_
  show AW _ (_, _, _, _, _, _, _, _, _) _ _ _ _ [some _, some _, some _] _ _
  exact loop _ 0 rfl (by omega) (fun i hi => absurd hi (by omega))
theorem s_X5_hasWhistled (h : RX G Λ ρ (sS σ a S) M) (ha : a < 11) {l : Nat} (hl : l < 7) (hQ : Q (some (.int (bI (gWh (S.1 11) l).isSome))) M)  : MS G yX5_hasWhistled cX5_hasWhistled 2 (some .boolean) (d + 2) 0 0 [.ref (Λ (1, a, 0)), .int (nI l)] M Q QX := by
  refine MS.of (by decide) (by simp [Value.category]) (Nat.le_of_ble_eq_true rfl) ?_
  show AW _ (_, _, _, _, _, _, _, _, _) _ _ _ _ [some _, some _] _ _
  have hlen := h.lenS (wRs ha (by decide : 11 < 13))
  have ho : ∀ i, gWh (S.1 11) l = some i → i < 2 ^ 31 := fun i e => by have := gWh_lt e; omega
  refine r_aload_n (q := 1) dX5_hasWhistled_0 rfl rfl ?_
  refine r_iload_n (q := 2) dX5_hasWhistled_1 rfl rfl ?_
  refine r_cV (q := 5) (As := [.int _]) wc_X5_168 rfl im_X5_indexOfWhistle se_X5_indexOfWhistle (h.st ha) rfl rfl (Nat.le_of_ble_eq_true rfl) (Nat.le_of_eq (Nat.zero_add _)) (Nat.le_of_eq (Nat.zero_add _)) dX5_hasWhistled_2 rfl rfl (s_X5_indexOfWhistle h ha hl ?_)
  refine r_if_lt (t := 12) (q := 8) dX5_hasWhistled_5 rfl rfl (fun c5 => ?_) (fun c5 => ?_)
  · rw [(oI_neg ho).mp c5] at hQ
    refine r_iconst (v := nI 0) (q := 13) dX5_hasWhistled_12 (by decide) rfl ?_
    refine r_zret dX5_hasWhistled_13 rfl ?_
    exact hQ
  · have h9 : (gWh (S.1 11) l).isSome = true := by
      cases e : gWh (S.1 11) l with
      | none => exact absurd ((oI_neg ho).mpr e) c5
      | some i => rfl
    rw [h9] at hQ
    refine r_iconst (v := nI 1) (q := 9) dX5_hasWhistled_8 (by decide) rfl ?_
    refine r_goto (t := 13) dX5_hasWhistled_9 rfl ?_
    refine r_zret dX5_hasWhistled_13 rfl ?_
    exact hQ
theorem s_X5_indexOfLie (h : RX G Λ ρ (sS σ a S) M) (ha : a < 11) {l : Nat} (hl : l < 7) (hQ : Q (some (.int (oI (gLie (S.1 11) l)))) M)  : MS G yX5_indexOfLie cX5_indexOfLie 4 (some .int) (d + 2) 0 0 [.ref (Λ (1, a, 0)), .int (nI l)] M Q QX := by
  refine MS.of (by decide) (by simp [Value.category]) (Nat.le_of_ble_eq_true rfl) ?_
  show AW _ (_, _, _, _, _, _, _, _, _) _ _ _ _ [some _, some _, _, _] _ _
  have hlen := h.lenS (wRs ha (by decide : 11 < 13))
  have ho : ∀ i, gWh (S.1 11) l = some i → i < 2 ^ 31 := fun i e => by have := gWh_lt e; omega
  have hlg : gLie (S.1 11) l = match gWh (S.1 11) l with | none => none | some i => if dT ((S.1 11).getD i 0) = l ∨ dX ((S.1 11).getD i 0) = true then none else some i := rfl
  refine r_aload_n (q := 1) dX5_indexOfLie_0 rfl rfl ?_
  refine r_iload_n (q := 2) dX5_indexOfLie_1 rfl rfl ?_
  refine r_cV (q := 5) (As := [.int _]) wc_X5_168 rfl im_X5_indexOfWhistle se_X5_indexOfWhistle (h.st ha) rfl rfl (Nat.le_of_ble_eq_true rfl) (Nat.le_of_eq (Nat.zero_add _)) (Nat.le_of_eq (Nat.zero_add _)) dX5_indexOfLie_2 rfl rfl (s_X5_indexOfWhistle h ha hl ?_)
  refine r_istore_n (q := 6) dX5_indexOfLie_5 (Nat.le_of_ble_eq_true rfl) rfl rfl ?_
  show AW _ (_, _, _, _, _, _, _, _, _) _ _ _ _ [some _, some _, some _, _] _ _
  refine r_aload_n (q := 7) dX5_indexOfLie_6 rfl rfl ?_
  refine r_get (q := 10) (kk := 11) (h.st ha) rfl wi_RX5 (by decide) rfl fk_X5_50 rfl dX5_indexOfLie_7 rfl ?_
  refine r_iload_n (q := 11) dX5_indexOfLie_10 rfl rfl ?_
  refine r_cV (q := 14) (As := [.int _]) wc_X5_94 rfl im_X2_at se_X2_at (h.row (wRs ha (by decide))) rfl rfl (Nat.le_of_ble_eq_true rfl) (Nat.le_of_eq (Nat.zero_add _)) (Nat.le_of_eq (Nat.zero_add _)) dX5_indexOfLie_11 rfl rfl (t_at h (wRs ha (by decide)) ?_)
  refine r_istore_n (q := 15) dX5_indexOfLie_14 (Nat.le_of_ble_eq_true rfl) rfl rfl ?_
  show AW _ (_, _, _, _, _, _, _, _, _) _ _ _ _ [some _, some _, some _, some _] _ _
  refine r_iload_n (q := 16) dX5_indexOfLie_15 rfl rfl ?_
  refine r_if_lt (t := 34) (q := 19) dX5_indexOfLie_16 rfl rfl (fun c16 => ?_) (fun c16 => ?_)
  · rw [(oI_neg ho).mp c16] at hlg
    rw [hlg] at hQ
    refine r_iconst (v := (-1)) (q := 35) dX5_indexOfLie_34 (by decide) rfl ?_
    refine r_goto (t := 39) dX5_indexOfLie_35 rfl ?_
    refine r_iret dX5_indexOfLie_39 ?_
    exact hQ
  · obtain ⟨i, e, hi, e2⟩ : ∃ i, gWh (S.1 11) l = some i ∧ i < 2 ^ 31 ∧ rAt (S.1 11) (oI (gWh (S.1 11) l)) = nI ((S.1 11).getD i 0) := by
      cases e : gWh (S.1 11) l with
      | none => exact absurd ((oI_neg ho).mpr e) c16
      | some i => exact ⟨i, rfl, ho i e, rAt_nI (ho i e)⟩
    rw [e2]
    rw [e] at hlg
    dsimp only at hlg
    have hT := dT_lt ((S.1 11).getD i 0)
    refine r_iload_n (q := 20) dX5_indexOfLie_19 rfl rfl ?_
    refine r_cS (q := 23) (As := [.int _]) wc_X5_158 st_X4_told rfl (Nat.le_of_ble_eq_true rfl) (Nat.le_of_eq (Nat.zero_add _)) (Nat.le_of_eq (Nat.zero_add _)) dX5_indexOfLie_20 rfl rfl (s_X4_told (t_lt h (wRs ha (by decide)) _) ?_)
    refine r_iload_n (q := 24) dX5_indexOfLie_23 rfl rfl ?_
    refine r_icmp_eq (t := 34) (q := 27) dX5_indexOfLie_24 rfl rfl (fun c24 => ?_) (fun c24 => ?_)
    · simp (disch := omega) only [nI_leI, nI_ltI, nI_eq, nI_lt0, nI_ge0, nI_gt0, nI_le0, nI_eq0] at c24
      rw [hlg, if_pos (Or.inl c24)] at hQ
      refine r_iconst (v := (-1)) (q := 35) dX5_indexOfLie_34 (by decide) rfl ?_
      refine r_goto (t := 39) dX5_indexOfLie_35 rfl ?_
      refine r_iret dX5_indexOfLie_39 ?_
      exact hQ
    · simp (disch := omega) only [nI_leI, nI_ltI, nI_eq, nI_lt0, nI_ge0, nI_gt0, nI_le0, nI_eq0] at c24
      refine r_iload_n (q := 28) dX5_indexOfLie_27 rfl rfl ?_
      refine r_cS (q := 31) (As := [.int _]) wc_X5_161 st_X4_isExposed rfl (Nat.le_of_ble_eq_true rfl) (Nat.le_of_eq (Nat.zero_add _)) (Nat.le_of_eq (Nat.zero_add _)) dX5_indexOfLie_28 rfl rfl (s_X4_isExposed (t_lt h (wRs ha (by decide)) _) ?_)
      refine r_if_eq (t := 38) (q := 34) dX5_indexOfLie_31 rfl rfl (fun c31 => ?_) (fun c31 => ?_)
      · have hx := bI_eq0.mp c31
        rw [hlg, if_neg (fun g => g.elim c24 (fun g => by rw [hx] at g; cases g))] at hQ
        rw [e]
        refine r_iload_n (q := 39) dX5_indexOfLie_38 rfl rfl ?_
        refine r_iret dX5_indexOfLie_39 ?_
        exact hQ
      · rw [hlg, if_pos (Or.inr (bI_ne c31))] at hQ
        refine r_iconst (v := (-1)) (q := 35) dX5_indexOfLie_34 (by decide) rfl ?_
        refine r_goto (t := 39) dX5_indexOfLie_35 rfl ?_
        refine r_iret dX5_indexOfLie_39 ?_
        exact hQ
end W25
