/-! THE CLASS ITSELF: the orders of an input -/
section W43
variable {G : En} {Λ : Ob → Nat} {ρ : Me} {σ : Sg} {M : Me} {d : Nat} {Q : Option Value → Me → Prop} {QX : String → Me → Prop} {S : St}
theorem s_X1_kindO (h : RX G Λ ρ σ M) {i : Nat} (hi : i < 2 ^ 31) (hQ : Q (some (.int (nI ((gR σ 11 1).getD i 0)))) M)  : MS G yX1_kind cX1_kind 2 (some .int) (d + 1) 0 0 [.ref (Λ (6, 0, 0)), .int (nI i)] M Q QX := by
  refine MS.of (by decide) (by simp [Value.category]) (Nat.le_of_ble_eq_true rfl) ?_
  show AW _ (_, _, _, _, _, _, _, _, _) _ _ _ _ [some _, some _] _ _
  refine r_aload_n (q := 1) dX1_kind_0 rfl rfl ?_
  refine r_get (q := 4) (kk := 1) h.inp rfl wi_RX1 (by decide) rfl fk_X1_20 rfl dX1_kind_1 rfl ?_
  refine r_iload_n (q := 5) dX1_kind_4 rfl rfl ?_
  refine r_cV (q := 8) (As := [.int _]) wc_X1_50 rfl im_X2_at se_X2_at (h.row (by decide)) rfl rfl (Nat.le_of_ble_eq_true rfl) (Nat.le_of_eq (Nat.zero_add _)) (Nat.le_of_eq (Nat.zero_add _)) dX1_kind_5 rfl rfl (x_atN h (by decide) (by omega) ?_)
  refine r_iret dX1_kind_8 ?_
  exact hQ
theorem s_X1_lineO (h : RX G Λ ρ σ M) {i : Nat} (hi : i < 2 ^ 31) (hQ : Q (some (.int (nI ((gR σ 11 2).getD i 0)))) M)  : MS G yX1_line cX1_line 2 (some .int) (d + 1) 0 0 [.ref (Λ (6, 0, 0)), .int (nI i)] M Q QX := by
  refine MS.of (by decide) (by simp [Value.category]) (Nat.le_of_ble_eq_true rfl) ?_
  show AW _ (_, _, _, _, _, _, _, _, _) _ _ _ _ [some _, some _] _ _
  refine r_aload_n (q := 1) dX1_line_0 rfl rfl ?_
  refine r_get (q := 4) (kk := 2) h.inp rfl wi_RX1 (by decide) rfl fk_X1_23 rfl dX1_line_1 rfl ?_
  refine r_iload_n (q := 5) dX1_line_4 rfl rfl ?_
  refine r_cV (q := 8) (As := [.int _]) wc_X1_50 rfl im_X2_at se_X2_at (h.row (by decide)) rfl rfl (Nat.le_of_ble_eq_true rfl) (Nat.le_of_eq (Nat.zero_add _)) (Nat.le_of_eq (Nat.zero_add _)) dX1_line_5 rfl rfl (x_atN h (by decide) (by omega) ?_)
  refine r_iret dX1_line_8 ?_
  exact hQ
theorem s_X1_secondO (h : RX G Λ ρ σ M) {i : Nat} (hi : i < 2 ^ 31) (hQ : Q (some (.int (nI ((gR σ 11 3).getD i 0)))) M)  : MS G yX1_second cX1_second 2 (some .int) (d + 1) 0 0 [.ref (Λ (6, 0, 0)), .int (nI i)] M Q QX := by
  refine MS.of (by decide) (by simp [Value.category]) (Nat.le_of_ble_eq_true rfl) ?_
  show AW _ (_, _, _, _, _, _, _, _, _) _ _ _ _ [some _, some _] _ _
  refine r_aload_n (q := 1) dX1_second_0 rfl rfl ?_
  refine r_get (q := 4) (kk := 3) h.inp rfl wi_RX1 (by decide) rfl fk_X1_26 rfl dX1_second_1 rfl ?_
  refine r_iload_n (q := 5) dX1_second_4 rfl rfl ?_
  refine r_cV (q := 8) (As := [.int _]) wc_X1_50 rfl im_X2_at se_X2_at (h.row (by decide)) rfl rfl (Nat.le_of_ble_eq_true rfl) (Nat.le_of_eq (Nat.zero_add _)) (Nat.le_of_eq (Nat.zero_add _)) dX1_second_5 rfl rfl (x_atN h (by decide) (by omega) ?_)
  refine r_iret dX1_second_8 ?_
  exact hQ
theorem s_X1_ordersO (h : RX G Λ ρ σ M) (hQ : Q (some (.int (nI (gR σ 11 1).length))) M)  : MS G yX1_orders cX1_orders 1 (some .int) (d + 1) 0 0 [.ref (Λ (6, 0, 0))] M Q QX := by
  refine MS.of (by decide) (by simp [Value.category]) (Nat.le_of_ble_eq_true rfl) ?_
  show AW _ (_, _, _, _, _, _, _, _, _) _ _ _ _ [some _] _ _
  refine r_aload_n (q := 1) dX1_orders_0 rfl rfl ?_
  refine r_get (q := 4) (kk := 1) h.inp rfl wi_RX1 (by decide) rfl fk_X1_20 rfl dX1_orders_1 rfl ?_
  refine r_cV (q := 7) (As := []) wc_X1_39 rfl im_X2_size se_X2_size (h.row (by decide)) rfl rfl (Nat.le_of_ble_eq_true rfl) (Nat.le_of_eq (Nat.zero_add _)) (Nat.le_of_eq (Nat.zero_add _)) dX1_orders_4 rfl rfl (s_X2_size (h.rw (by decide)) ?_)
  refine r_iret dX1_orders_7 ?_
  exact hQ
def fOrd (S : St) (k l s : Nat) : Fl := if k = 115 then fSign S (nI l) (nI (s / 64)) (nI (s % 64)) else if k = 117 then fUns S (nI l) else if k = 112 then fPri S (nI l) (nI s) else if k = 119 then fWhi S (nI l) else if k = 108 then fLi S (nI l) (nI s) else if k = 120 then fXp S (nI l) else if k = 109 then fMu S (nI l) (nI s) else if k = 102 then fFi S (nI l) else no
def oOrd (S : St) (k l s : Nat) : St := if k = 115 then uR S 0 ((S.1 0).set l s) else if k = 117 then uR S 0 ((S.1 0).set l 0) else if k = 112 then uR S 1 ((S.1 1).set l s) else if k = 119 then fBlow S l l else if k = 108 then fBlow S l s else if k = 120 then fExp S l ((gLie (S.1 11) l).getD 0) else if k = 109 then uR S 4 ((S.1 4).set l s) else if k = 102 then fPay S l else fHour S
theorem f_115 (S : St) (l s : Nat) : fOrd S 115 l s = fSign S (nI l) (nI (s / 64)) (nI (s % 64)) := by rw [fOrd]; exact if_pos rfl
theorem o_115 (S : St) (l s : Nat) : oOrd S 115 l s = uR S 0 ((S.1 0).set l s) := by rw [oOrd]; exact if_pos rfl
theorem f_117 (S : St) (l s : Nat) : fOrd S 117 l s = fUns S (nI l) := by rw [fOrd]; rw [if_neg (by decide)]; exact if_pos rfl
theorem o_117 (S : St) (l s : Nat) : oOrd S 117 l s = uR S 0 ((S.1 0).set l 0) := by rw [oOrd]; rw [if_neg (by decide)]; exact if_pos rfl
theorem f_112 (S : St) (l s : Nat) : fOrd S 112 l s = fPri S (nI l) (nI s) := by rw [fOrd]; rw [if_neg (by decide)]; rw [if_neg (by decide)]; exact if_pos rfl
theorem o_112 (S : St) (l s : Nat) : oOrd S 112 l s = uR S 1 ((S.1 1).set l s) := by rw [oOrd]; rw [if_neg (by decide)]; rw [if_neg (by decide)]; exact if_pos rfl
theorem f_119 (S : St) (l s : Nat) : fOrd S 119 l s = fWhi S (nI l) := by rw [fOrd]; rw [if_neg (by decide)]; rw [if_neg (by decide)]; rw [if_neg (by decide)]; exact if_pos rfl
theorem o_119 (S : St) (l s : Nat) : oOrd S 119 l s = fBlow S l l := by rw [oOrd]; rw [if_neg (by decide)]; rw [if_neg (by decide)]; rw [if_neg (by decide)]; exact if_pos rfl
theorem f_108 (S : St) (l s : Nat) : fOrd S 108 l s = fLi S (nI l) (nI s) := by rw [fOrd]; rw [if_neg (by decide)]; rw [if_neg (by decide)]; rw [if_neg (by decide)]; rw [if_neg (by decide)]; exact if_pos rfl
theorem o_108 (S : St) (l s : Nat) : oOrd S 108 l s = fBlow S l s := by rw [oOrd]; rw [if_neg (by decide)]; rw [if_neg (by decide)]; rw [if_neg (by decide)]; rw [if_neg (by decide)]; exact if_pos rfl
theorem f_120 (S : St) (l s : Nat) : fOrd S 120 l s = fXp S (nI l) := by rw [fOrd]; rw [if_neg (by decide)]; rw [if_neg (by decide)]; rw [if_neg (by decide)]; rw [if_neg (by decide)]; rw [if_neg (by decide)]; exact if_pos rfl
theorem o_120 (S : St) (l s : Nat) : oOrd S 120 l s = fExp S l ((gLie (S.1 11) l).getD 0) := by rw [oOrd]; rw [if_neg (by decide)]; rw [if_neg (by decide)]; rw [if_neg (by decide)]; rw [if_neg (by decide)]; rw [if_neg (by decide)]; exact if_pos rfl
theorem f_109 (S : St) (l s : Nat) : fOrd S 109 l s = fMu S (nI l) (nI s) := by rw [fOrd]; rw [if_neg (by decide)]; rw [if_neg (by decide)]; rw [if_neg (by decide)]; rw [if_neg (by decide)]; rw [if_neg (by decide)]; rw [if_neg (by decide)]; exact if_pos rfl
theorem o_109 (S : St) (l s : Nat) : oOrd S 109 l s = uR S 4 ((S.1 4).set l s) := by rw [oOrd]; rw [if_neg (by decide)]; rw [if_neg (by decide)]; rw [if_neg (by decide)]; rw [if_neg (by decide)]; rw [if_neg (by decide)]; rw [if_neg (by decide)]; exact if_pos rfl
theorem f_102 (S : St) (l s : Nat) : fOrd S 102 l s = fFi S (nI l) := by rw [fOrd]; rw [if_neg (by decide)]; rw [if_neg (by decide)]; rw [if_neg (by decide)]; rw [if_neg (by decide)]; rw [if_neg (by decide)]; rw [if_neg (by decide)]; rw [if_neg (by decide)]; exact if_pos rfl
theorem o_102 (S : St) (l s : Nat) : oOrd S 102 l s = fPay S l := by rw [oOrd]; rw [if_neg (by decide)]; rw [if_neg (by decide)]; rw [if_neg (by decide)]; rw [if_neg (by decide)]; rw [if_neg (by decide)]; rw [if_neg (by decide)]; rw [if_neg (by decide)]; exact if_pos rfl
theorem f_104 (S : St) (l s : Nat) : fOrd S 104 l s = no := by rw [fOrd, if_neg (by decide), if_neg (by decide), if_neg (by decide), if_neg (by decide), if_neg (by decide), if_neg (by decide), if_neg (by decide), if_neg (by decide)]
theorem o_104 (S : St) (l s : Nat) : oOrd S 104 l s = fHour S := by rw [oOrd, if_neg (by decide), if_neg (by decide), if_neg (by decide), if_neg (by decide), if_neg (by decide), if_neg (by decide), if_neg (by decide), if_neg (by decide)]
theorem nI_inj {a b : Nat} (ha : a < 2 ^ 31) (hb : b < 2 ^ 31) (h : nI a = nI b) : a = b := (nI_eq ha hb).mp h
theorem s_X8_faultOfOrder {i k l s : Nat} (h : RX G Λ ρ (sS σ 0 S) M) (hs : Sm S) (hw : ∀ x ∈ S.1 0, x < 448) (hm4 : ∀ x ∈ S.1 4, x < 2 ^ 29) (hi : i < 2 ^ 31) (hk1 : (gR σ 11 1).getD i 0 = k) (hl0 : (gR σ 11 2).getD i 0 = l) (hs0 : (gR σ 11 3).getD i 0 = s) (hl1 : l < 2 ^ 31) (hs1 : s < 2 ^ 31) (hk : k = 115 ∨ k = 117 ∨ k = 112 ∨ k = 119 ∨ k = 108 ∨ k = 120 ∨ k = 109 ∨ k = 102 ∨ k = 104) (hQ : ∀ M', RX G Λ ρ (sS (fR σ (fOrd S k l s).2) 0 S) M' → Q (some (.int (nI (fOrd S k l s).1))) M')  : MS G yX8_faultOfOrder cX8_faultOfOrder 4 (some .int) (d + 6) 0 0 [.ref (Λ (0, 0, 0)), .int (nI i)] M Q QX := by
  refine MS.of (by decide) (by simp [Value.category]) (Nat.le_of_ble_eq_true rfl) ?_
  show AW _ (_, _, _, _, _, _, _, _, _) _ _ _ _ [some _, some _, _, _] _ _
  refine r_aload_n (q := 1) dX8_faultOfOrder_0 rfl rfl ?_
  refine r_get (q := 4) (kk := 5) h.x rfl wi_RX8 (by decide) rfl fk_X8_36 rfl dX8_faultOfOrder_1 rfl ?_
  refine r_iload_n (q := 5) dX8_faultOfOrder_4 rfl rfl ?_
  refine r_cV (q := 8) (As := [.int _]) wc_X8_420 rfl im_X1_line se_X1_line h.inp rfl rfl (Nat.le_of_ble_eq_true rfl) (Nat.le_of_eq (Nat.zero_add _)) (Nat.le_of_eq (Nat.zero_add _)) dX8_faultOfOrder_5 rfl rfl (s_X1_lineO h hi ?_)
  rw [show (gR (sS σ 0 S) 11 2).getD i 0 = l from hl0]
  refine r_istore_n (q := 9) dX8_faultOfOrder_8 (Nat.le_of_ble_eq_true rfl) rfl rfl ?_
  show AW _ (_, _, _, _, _, _, _, _, _) _ _ _ _ [some _, some _, some _, _] _ _
  refine r_aload_n (q := 10) dX8_faultOfOrder_9 rfl rfl ?_
  refine r_get (q := 13) (kk := 5) h.x rfl wi_RX8 (by decide) rfl fk_X8_36 rfl dX8_faultOfOrder_10 rfl ?_
  refine r_iload_n (q := 14) dX8_faultOfOrder_13 rfl rfl ?_
  refine r_cV (q := 17) (As := [.int _]) wc_X8_423 rfl im_X1_second se_X1_second h.inp rfl rfl (Nat.le_of_ble_eq_true rfl) (Nat.le_of_eq (Nat.zero_add _)) (Nat.le_of_eq (Nat.zero_add _)) dX8_faultOfOrder_14 rfl rfl (s_X1_secondO h hi ?_)
  rw [show (gR (sS σ 0 S) 11 3).getD i 0 = s from hs0]
  refine r_istore_n (q := 18) dX8_faultOfOrder_17 (Nat.le_of_ble_eq_true rfl) rfl rfl ?_
  show AW _ (_, _, _, _, _, _, _, _, _) _ _ _ _ [some _, some _, some _, some _] _ _
  refine r_aload_n (q := 19) dX8_faultOfOrder_18 rfl rfl ?_
  refine r_get (q := 22) (kk := 5) h.x rfl wi_RX8 (by decide) rfl fk_X8_36 rfl dX8_faultOfOrder_19 rfl ?_
  refine r_iload_n (q := 23) dX8_faultOfOrder_22 rfl rfl ?_
  refine r_cV (q := 26) (As := [.int _]) wc_X8_426 rfl im_X1_kind se_X1_kind h.inp rfl rfl (Nat.le_of_ble_eq_true rfl) (Nat.le_of_eq (Nat.zero_add _)) (Nat.le_of_eq (Nat.zero_add _)) dX8_faultOfOrder_23 rfl rfl (s_X1_kindO h hi ?_)
  rw [show (gR (sS σ 0 S) 11 1).getD i 0 = k from hk1]
  rcases hk with rfl | rfl | rfl | rfl | rfl | rfl | rfl | rfl | rfl
  · rw [f_115] at hQ
    refine r_tableIn dX8_faultOfOrder_26 (by decide) (by decide) rfl rfl ?_
    refine r_aload_n (q := 117) dX8_faultOfOrder_116 rfl rfl ?_
    refine r_iload_n (q := 118) dX8_faultOfOrder_117 rfl rfl ?_
    refine r_iload_n (q := 119) dX8_faultOfOrder_118 rfl rfl ?_
    refine r_cS (q := 122) (As := [.int _]) wc_X8_429 st_X7_length rfl (Nat.le_of_ble_eq_true rfl) (Nat.le_of_eq (Nat.zero_add _)) (Nat.le_of_eq (Nat.zero_add _)) dX8_faultOfOrder_119 rfl rfl (s_X7_length hs1 ?_)
    refine r_iload_n (q := 123) dX8_faultOfOrder_122 rfl rfl ?_
    refine r_cS (q := 126) (As := [.int _]) wc_X8_431 st_X7_bits rfl (Nat.le_of_ble_eq_true rfl) (Nat.le_of_eq (Nat.zero_add _)) (Nat.le_of_eq (Nat.zero_add _)) dX8_faultOfOrder_123 rfl rfl (s_X7_bits hs1 ?_)
    refine r_cV (q := 129) (As := [.int _, .int _, .int _]) wc_X8_83 rfl im_X8_faultOfSign se_X8_faultOfSign h.x rfl rfl (Nat.le_of_ble_eq_true rfl) (Nat.le_of_eq (Nat.zero_add _)) (Nat.le_of_eq (Nat.zero_add _)) dX8_faultOfOrder_126 rfl rfl (s_X8_faultOfSign h fun M_126 h_126 => ?_)
    refine r_iret dX8_faultOfOrder_129 ?_
    exact hQ _ h_126
  · rw [f_117] at hQ
    refine r_tableIn dX8_faultOfOrder_26 (by decide) (by decide) rfl rfl ?_
    refine r_aload_n (q := 131) dX8_faultOfOrder_130 rfl rfl ?_
    refine r_iload_n (q := 132) dX8_faultOfOrder_131 rfl rfl ?_
    refine r_cV (q := 135) (As := [.int _]) wc_X8_100 rfl im_X8_faultOfUnsign se_X8_faultOfUnsign h.x rfl rfl (Nat.le_of_ble_eq_true rfl) (Nat.le_of_eq (Nat.zero_add _)) (Nat.le_of_eq (Nat.zero_add _)) dX8_faultOfOrder_132 rfl rfl (s_X8_faultOfUnsign h fun M_132 h_132 => ?_)
    refine r_iret dX8_faultOfOrder_135 ?_
    exact hQ _ h_132
  · rw [f_112] at hQ
    refine r_tableIn dX8_faultOfOrder_26 (by decide) (by decide) rfl rfl ?_
    refine r_aload_n (q := 137) dX8_faultOfOrder_136 rfl rfl ?_
    refine r_iload_n (q := 138) dX8_faultOfOrder_137 rfl rfl ?_
    refine r_iload_n (q := 139) dX8_faultOfOrder_138 rfl rfl ?_
    refine r_cV (q := 142) (As := [.int _, .int _]) wc_X8_107 rfl im_X8_faultOfPriority se_X8_faultOfPriority h.x rfl rfl (Nat.le_of_ble_eq_true rfl) (Nat.le_of_eq (Nat.zero_add _)) (Nat.le_of_eq (Nat.zero_add _)) dX8_faultOfOrder_139 rfl rfl (s_X8_faultOfPriority h fun M_139 h_139 => ?_)
    refine r_iret dX8_faultOfOrder_142 ?_
    exact hQ _ h_139
  · rw [f_119] at hQ
    refine r_tableIn dX8_faultOfOrder_26 (by decide) (by decide) rfl rfl ?_
    refine r_aload_n (q := 144) dX8_faultOfOrder_143 rfl rfl ?_
    refine r_iload_n (q := 145) dX8_faultOfOrder_144 rfl rfl ?_
    refine r_cV (q := 148) (As := [.int _]) wc_X8_168 rfl im_X8_faultOfWhistle se_X8_faultOfWhistle h.x rfl rfl (Nat.le_of_ble_eq_true rfl) (Nat.le_of_eq (Nat.zero_add _)) (Nat.le_of_eq (Nat.zero_add _)) dX8_faultOfOrder_145 rfl rfl (s_X8_faultOfWhistle h hs hw fun M_145 h_145 => ?_)
    refine r_iret dX8_faultOfOrder_148 ?_
    exact hQ _ h_145
  · rw [f_108] at hQ
    refine r_tableIn dX8_faultOfOrder_26 (by decide) (by decide) rfl rfl ?_
    refine r_aload_n (q := 150) dX8_faultOfOrder_149 rfl rfl ?_
    refine r_iload_n (q := 151) dX8_faultOfOrder_150 rfl rfl ?_
    refine r_iload_n (q := 152) dX8_faultOfOrder_151 rfl rfl ?_
    refine r_cV (q := 155) (As := [.int _, .int _]) wc_X8_174 rfl im_X8_faultOfLie se_X8_faultOfLie h.x rfl rfl (Nat.le_of_ble_eq_true rfl) (Nat.le_of_eq (Nat.zero_add _)) (Nat.le_of_eq (Nat.zero_add _)) dX8_faultOfOrder_152 rfl rfl (s_X8_faultOfLie h hs hw fun M_152 h_152 => ?_)
    refine r_iret dX8_faultOfOrder_155 ?_
    exact hQ _ h_152
  · rw [f_120] at hQ
    refine r_tableIn dX8_faultOfOrder_26 (by decide) (by decide) rfl rfl ?_
    refine r_aload_n (q := 157) dX8_faultOfOrder_156 rfl rfl ?_
    refine r_iload_n (q := 158) dX8_faultOfOrder_157 rfl rfl ?_
    refine r_cV (q := 161) (As := [.int _]) wc_X8_177 rfl im_X8_faultOfExpose se_X8_faultOfExpose h.x rfl rfl (Nat.le_of_ble_eq_true rfl) (Nat.le_of_eq (Nat.zero_add _)) (Nat.le_of_eq (Nat.zero_add _)) dX8_faultOfOrder_158 rfl rfl (s_X8_faultOfExpose h fun M_158 h_158 => ?_)
    refine r_iret dX8_faultOfOrder_161 ?_
    exact hQ _ h_158
  · rw [f_109] at hQ
    refine r_tableIn dX8_faultOfOrder_26 (by decide) (by decide) rfl rfl ?_
    refine r_aload_n (q := 163) dX8_faultOfOrder_162 rfl rfl ?_
    refine r_iload_n (q := 164) dX8_faultOfOrder_163 rfl rfl ?_
    refine r_iload_n (q := 165) dX8_faultOfOrder_164 rfl rfl ?_
    refine r_cV (q := 168) (As := [.int _, .int _]) wc_X8_183 rfl im_X8_faultOfMute se_X8_faultOfMute h.x rfl rfl (Nat.le_of_ble_eq_true rfl) (Nat.le_of_eq (Nat.zero_add _)) (Nat.le_of_eq (Nat.zero_add _)) dX8_faultOfOrder_165 rfl rfl (s_X8_faultOfMute h fun M_165 h_165 => ?_)
    refine r_iret dX8_faultOfOrder_168 ?_
    exact hQ _ h_165
  · rw [f_102] at hQ
    refine r_tableIn dX8_faultOfOrder_26 (by decide) (by decide) rfl rfl ?_
    refine r_aload_n (q := 170) dX8_faultOfOrder_169 rfl rfl ?_
    refine r_iload_n (q := 171) dX8_faultOfOrder_170 rfl rfl ?_
    refine r_cV (q := 174) (As := [.int _]) wc_X8_189 rfl im_X8_faultOfFine se_X8_faultOfFine h.x rfl rfl (Nat.le_of_ble_eq_true rfl) (Nat.le_of_eq (Nat.zero_add _)) (Nat.le_of_eq (Nat.zero_add _)) dX8_faultOfOrder_171 rfl rfl (s_X8_faultOfFine h hs hm4 fun M_171 h_171 => ?_)
    refine r_iret dX8_faultOfOrder_174 ?_
    exact hQ _ h_171
  · rw [f_104] at hQ
    refine r_tableIn dX8_faultOfOrder_26 (by decide) (by decide) rfl rfl ?_
    refine r_iconst (v := nI 0) (q := 176) dX8_faultOfOrder_175 (by decide) rfl ?_
    refine r_iret dX8_faultOfOrder_176 ?_
    exact hQ _ h
theorem s_X8_carryOut {i k l s : Nat} (h : RX G Λ ρ (sS σ 0 S) M) (hs : Sm S) (hw : ∀ x ∈ S.1 0, x < 448) (hm4 : ∀ x ∈ S.1 4, x < 2 ^ 29) (hd8 : ∀ x ∈ S.1 8, x < 8) (he : ∀ x ∈ S.1 12, 262144 ≤ x ∧ 1 ≤ dE x) (hi : i < 2 ^ 31) (hk1 : (gR σ 11 1).getD i 0 = k) (hl0 : (gR σ 11 2).getD i 0 = l) (hs0 : (gR σ 11 3).getD i 0 = s) (hl1 : l < 2 ^ 31) (hs1 : s < 2 ^ 31) (hk : k = 115 ∨ k = 117 ∨ k = 112 ∨ k = 119 ∨ k = 108 ∨ k = 120 ∨ k = 109 ∨ k = 102 ∨ k = 104) (hz : (fOrd S k l s).1 = 0) (hQ : ∀ M', RX G Λ ρ (sS σ 0 (oOrd S k l s)) M' → Q none M')  : MS G yX8_carryOut cX8_carryOut 4 none (d + 6) 0 0 [.ref (Λ (0, 0, 0)), .int (nI i)] M Q QX := by
  refine MS.of (by decide) (by simp [Value.category]) (Nat.le_of_ble_eq_true rfl) ?_
  show AW _ (_, _, _, _, _, _, _, _, _) _ _ _ _ [some _, some _, _, _] _ _
  refine r_aload_n (q := 1) dX8_carryOut_0 rfl rfl ?_
  refine r_get (q := 4) (kk := 5) h.x rfl wi_RX8 (by decide) rfl fk_X8_36 rfl dX8_carryOut_1 rfl ?_
  refine r_iload_n (q := 5) dX8_carryOut_4 rfl rfl ?_
  refine r_cV (q := 8) (As := [.int _]) wc_X8_420 rfl im_X1_line se_X1_line h.inp rfl rfl (Nat.le_of_ble_eq_true rfl) (Nat.le_of_eq (Nat.zero_add _)) (Nat.le_of_eq (Nat.zero_add _)) dX8_carryOut_5 rfl rfl (s_X1_lineO h hi ?_)
  rw [show (gR (sS σ 0 S) 11 2).getD i 0 = l from hl0]
  refine r_istore_n (q := 9) dX8_carryOut_8 (Nat.le_of_ble_eq_true rfl) rfl rfl ?_
  show AW _ (_, _, _, _, _, _, _, _, _) _ _ _ _ [some _, some _, some _, _] _ _
  refine r_aload_n (q := 10) dX8_carryOut_9 rfl rfl ?_
  refine r_get (q := 13) (kk := 5) h.x rfl wi_RX8 (by decide) rfl fk_X8_36 rfl dX8_carryOut_10 rfl ?_
  refine r_iload_n (q := 14) dX8_carryOut_13 rfl rfl ?_
  refine r_cV (q := 17) (As := [.int _]) wc_X8_423 rfl im_X1_second se_X1_second h.inp rfl rfl (Nat.le_of_ble_eq_true rfl) (Nat.le_of_eq (Nat.zero_add _)) (Nat.le_of_eq (Nat.zero_add _)) dX8_carryOut_14 rfl rfl (s_X1_secondO h hi ?_)
  rw [show (gR (sS σ 0 S) 11 3).getD i 0 = s from hs0]
  refine r_istore_n (q := 18) dX8_carryOut_17 (Nat.le_of_ble_eq_true rfl) rfl rfl ?_
  show AW _ (_, _, _, _, _, _, _, _, _) _ _ _ _ [some _, some _, some _, some _] _ _
  refine r_aload_n (q := 19) dX8_carryOut_18 rfl rfl ?_
  refine r_get (q := 22) (kk := 5) h.x rfl wi_RX8 (by decide) rfl fk_X8_36 rfl dX8_carryOut_19 rfl ?_
  refine r_iload_n (q := 23) dX8_carryOut_22 rfl rfl ?_
  refine r_cV (q := 26) (As := [.int _]) wc_X8_426 rfl im_X1_kind se_X1_kind h.inp rfl rfl (Nat.le_of_ble_eq_true rfl) (Nat.le_of_eq (Nat.zero_add _)) (Nat.le_of_eq (Nat.zero_add _)) dX8_carryOut_23 rfl rfl (s_X1_kindO h hi ?_)
  rw [show (gR (sS σ 0 S) 11 1).getD i 0 = k from hk1]
  rcases hk with rfl | rfl | rfl | rfl | rfl | rfl | rfl | rfl | rfl
  · rw [f_115] at hz
    rw [o_115] at hQ
    refine r_tableIn dX8_carryOut_26 (by decide) (by decide) rfl rfl ?_
    obtain ⟨j, m, b9, hj, hm1, hm6, hb6, -, e1, e2, e3⟩ := fSign_0 hz
    obtain rfl := nI_inj hl1 (by omega) e1
    have e4 := nI_inj (show s / 64 < 2 ^ 31 by omega) (by omega) e2
    refine r_aload_n (q := 117) dX8_carryOut_116 rfl rfl ?_
    refine r_get (q := 120) (kk := 0) h.x rfl wi_RX8 (by decide) rfl fk_X8_12 rfl dX8_carryOut_117 rfl ?_
    refine r_iload_n (q := 121) dX8_carryOut_120 rfl rfl ?_
    refine r_iload_n (q := 122) dX8_carryOut_121 rfl rfl ?_
    refine r_cV (q := 125) (As := [.int _, .int _]) wc_X8_97 rfl im_X5_giveSign se_X5_giveSign (h.st (by decide)) rfl rfl (Nat.le_of_ble_eq_true rfl) (Nat.le_of_eq (Nat.zero_add _)) (Nat.le_of_eq (Nat.zero_add _)) dX8_carryOut_122 rfl rfl (s_X5_giveSign h (by decide) hj (by omega) fun M_122 h_122 => ?_)
    refine r_pop (q := 126) dX8_carryOut_125 rfl rfl ?_
    refine r_goto (t := 225) dX8_carryOut_126 rfl ?_
    refine r_vret dX8_carryOut_225 ?_
    exact hQ _ h_122
  · rw [f_117] at hz
    rw [o_117] at hQ
    refine r_tableIn dX8_carryOut_26 (by decide) (by decide) rfl rfl ?_
    obtain ⟨j, hj, e1⟩ := fUns_0 hz
    obtain rfl := nI_inj hl1 (by omega) e1
    refine r_aload_n (q := 130) dX8_carryOut_129 rfl rfl ?_
    refine r_get (q := 133) (kk := 0) h.x rfl wi_RX8 (by decide) rfl fk_X8_12 rfl dX8_carryOut_130 rfl ?_
    refine r_iload_n (q := 134) dX8_carryOut_133 rfl rfl ?_
    refine r_cV (q := 137) (As := [.int _]) wc_X8_104 rfl im_X5_takeSign se_X5_takeSign (h.st (by decide)) rfl rfl (Nat.le_of_ble_eq_true rfl) (Nat.le_of_eq (Nat.zero_add _)) (Nat.le_of_eq (Nat.zero_add _)) dX8_carryOut_134 rfl rfl (s_X5_takeSign h (by decide) hj fun M_134 h_134 => ?_)
    refine r_pop (q := 138) dX8_carryOut_137 rfl rfl ?_
    refine r_goto (t := 225) dX8_carryOut_138 rfl ?_
    refine r_vret dX8_carryOut_225 ?_
    exact hQ _ h_134
  · rw [f_112] at hz
    rw [o_112] at hQ
    refine r_tableIn dX8_carryOut_26 (by decide) (by decide) rfl rfl ?_
    obtain ⟨j, b9, hj, hb9, e1, e2⟩ := fPri_0 hz
    obtain rfl := nI_inj hl1 (by omega) e1
    obtain rfl := nI_inj hs1 (by omega) e2
    refine r_aload_n (q := 142) dX8_carryOut_141 rfl rfl ?_
    refine r_get (q := 145) (kk := 0) h.x rfl wi_RX8 (by decide) rfl fk_X8_12 rfl dX8_carryOut_142 rfl ?_
    refine r_iload_n (q := 146) dX8_carryOut_145 rfl rfl ?_
    refine r_iload_n (q := 147) dX8_carryOut_146 rfl rfl ?_
    refine r_cV (q := 150) (As := [.int _, .int _]) wc_X8_110 rfl im_X5_givePriority se_X5_givePriority (h.st (by decide)) rfl rfl (Nat.le_of_ble_eq_true rfl) (Nat.le_of_eq (Nat.zero_add _)) (Nat.le_of_eq (Nat.zero_add _)) dX8_carryOut_147 rfl rfl (s_X5_givePriority h (by decide) hj hb9 fun M_147 h_147 => ?_)
    refine r_pop (q := 151) dX8_carryOut_150 rfl rfl ?_
    refine r_goto (t := 225) dX8_carryOut_151 rfl ?_
    refine r_vret dX8_carryOut_225 ?_
    exact hQ _ h_147
  · rw [f_119] at hz
    rw [o_119] at hQ
    refine r_tableIn dX8_carryOut_26 (by decide) (by decide) rfl rfl ?_
    obtain ⟨j, hj, e1, hco⟩ := fWhi_0 hz
    obtain rfl := nI_inj hl1 (by omega) e1
    refine r_aload_n (q := 155) dX8_carryOut_154 rfl rfl ?_
    refine r_get (q := 158) (kk := 0) h.x rfl wi_RX8 (by decide) rfl fk_X8_12 rfl dX8_carryOut_155 rfl ?_
    refine r_iload_n (q := 159) dX8_carryOut_158 rfl rfl ?_
    refine r_iload_n (q := 160) dX8_carryOut_159 rfl rfl ?_
    refine r_cV (q := 163) (As := [.int _, .int _]) wc_X8_171 rfl im_X5_blow se_X5_blow (h.st (by decide)) rfl rfl (Nat.le_of_ble_eq_true rfl) (Nat.le_of_eq (Nat.zero_add _)) (Nat.le_of_eq (Nat.zero_add _)) dX8_carryOut_160 rfl rfl (s_X5_blow h (by decide) hs hd8 hw hj hj hco fun M_160 h_160 => ?_)
    refine r_pop (q := 164) dX8_carryOut_163 rfl rfl ?_
    refine r_goto (t := 225) dX8_carryOut_164 rfl ?_
    refine r_vret dX8_carryOut_225 ?_
    exact hQ _ h_160
  · rw [f_108] at hz
    rw [o_108] at hQ
    refine r_tableIn dX8_carryOut_26 (by decide) (by decide) rfl rfl ?_
    obtain ⟨j, b9, hj, hb9, e1, e2, hco⟩ := fLi_0 hz
    obtain rfl := nI_inj hl1 (by omega) e1
    obtain rfl := nI_inj hs1 (by omega) e2
    refine r_aload_n (q := 168) dX8_carryOut_167 rfl rfl ?_
    refine r_get (q := 171) (kk := 0) h.x rfl wi_RX8 (by decide) rfl fk_X8_12 rfl dX8_carryOut_168 rfl ?_
    refine r_iload_n (q := 172) dX8_carryOut_171 rfl rfl ?_
    refine r_iload_n (q := 173) dX8_carryOut_172 rfl rfl ?_
    refine r_cV (q := 176) (As := [.int _, .int _]) wc_X8_171 rfl im_X5_blow se_X5_blow (h.st (by decide)) rfl rfl (Nat.le_of_ble_eq_true rfl) (Nat.le_of_eq (Nat.zero_add _)) (Nat.le_of_eq (Nat.zero_add _)) dX8_carryOut_173 rfl rfl (s_X5_blow h (by decide) hs hd8 hw hj hb9 hco fun M_173 h_173 => ?_)
    refine r_pop (q := 177) dX8_carryOut_176 rfl rfl ?_
    refine r_goto (t := 225) dX8_carryOut_177 rfl ?_
    refine r_vret dX8_carryOut_225 ?_
    exact hQ _ h_173
  · rw [f_120] at hz
    rw [o_120] at hQ
    refine r_tableIn dX8_carryOut_26 (by decide) (by decide) rfl rfl ?_
    obtain ⟨j, b9, hj, e1, hgl⟩ := fXp_0 hz
    obtain rfl := nI_inj hl1 (by omega) e1
    rw [hgl, Option.getD_some] at hQ
    refine r_aload_n (q := 181) dX8_carryOut_180 rfl rfl ?_
    refine r_get (q := 184) (kk := 0) h.x rfl wi_RX8 (by decide) rfl fk_X8_12 rfl dX8_carryOut_181 rfl ?_
    refine r_iload_n (q := 185) dX8_carryOut_184 rfl rfl ?_
    refine r_cV (q := 188) (As := [.int _]) wc_X8_180 rfl im_X5_exposeLiar se_X5_exposeLiar (h.st (by decide)) rfl rfl (Nat.le_of_ble_eq_true rfl) (Nat.le_of_eq (Nat.zero_add _)) (Nat.le_of_eq (Nat.zero_add _)) dX8_carryOut_185 rfl rfl (s_X5_exposeLiar h (by decide) hs hj hgl fun M_185 h_185 => ?_)
    refine r_pop (q := 189) dX8_carryOut_188 rfl rfl ?_
    refine r_goto (t := 225) dX8_carryOut_189 rfl ?_
    refine r_vret dX8_carryOut_225 ?_
    exact hQ _ h_185
  · rw [f_109] at hz
    rw [o_109] at hQ
    refine r_tableIn dX8_carryOut_26 (by decide) (by decide) rfl rfl ?_
    obtain ⟨j, b9, hj, hb9, e1, e2⟩ := fMu_0 hz
    obtain rfl := nI_inj hl1 (by omega) e1
    obtain rfl := nI_inj hs1 (by omega) e2
    refine r_aload_n (q := 193) dX8_carryOut_192 rfl rfl ?_
    refine r_get (q := 196) (kk := 0) h.x rfl wi_RX8 (by decide) rfl fk_X8_12 rfl dX8_carryOut_193 rfl ?_
    refine r_iload_n (q := 197) dX8_carryOut_196 rfl rfl ?_
    refine r_iload_n (q := 198) dX8_carryOut_197 rfl rfl ?_
    refine r_cV (q := 201) (As := [.int _, .int _]) wc_X8_186 rfl im_X5_silence se_X5_silence (h.st (by decide)) rfl rfl (Nat.le_of_ble_eq_true rfl) (Nat.le_of_eq (Nat.zero_add _)) (Nat.le_of_eq (Nat.zero_add _)) dX8_carryOut_198 rfl rfl (s_X5_silence h (by decide) hj hb9 fun M_198 h_198 => ?_)
    refine r_pop (q := 202) dX8_carryOut_201 rfl rfl ?_
    refine r_goto (t := 225) dX8_carryOut_202 rfl ?_
    refine r_vret dX8_carryOut_225 ?_
    exact hQ _ h_198
  · rw [f_102] at hz
    rw [o_102] at hQ
    refine r_tableIn dX8_carryOut_26 (by decide) (by decide) rfl rfl ?_
    obtain ⟨j, hj, e1, hco⟩ := fFi_0 hz
    obtain rfl := nI_inj hl1 (by omega) e1
    refine r_aload_n (q := 206) dX8_carryOut_205 rfl rfl ?_
    refine r_get (q := 209) (kk := 0) h.x rfl wi_RX8 (by decide) rfl fk_X8_12 rfl dX8_carryOut_206 rfl ?_
    refine r_iload_n (q := 210) dX8_carryOut_209 rfl rfl ?_
    refine r_cV (q := 213) (As := [.int _]) wc_X8_192 rfl im_X5_payFine se_X5_payFine (h.st (by decide)) rfl rfl (Nat.le_of_ble_eq_true rfl) (Nat.le_of_eq (Nat.zero_add _)) (Nat.le_of_eq (Nat.zero_add _)) dX8_carryOut_210 rfl rfl (s_X5_payFine h (by decide) hj hco fun M_210 h_210 => ?_)
    refine r_pop (q := 214) dX8_carryOut_213 rfl rfl ?_
    refine r_goto (t := 225) dX8_carryOut_214 rfl ?_
    refine r_vret dX8_carryOut_225 ?_
    exact hQ _ h_210
  · rw [f_104] at hz
    rw [o_104] at hQ
    refine r_tableIn dX8_carryOut_26 (by decide) (by decide) rfl rfl ?_
    skip
    refine r_aload_n (q := 218) dX8_carryOut_217 rfl rfl ?_
    refine r_get (q := 221) (kk := 0) h.x rfl wi_RX8 (by decide) rfl fk_X8_12 rfl dX8_carryOut_218 rfl ?_
    refine r_cV (q := 224) (As := []) wc_X8_195 rfl im_X5_endHour se_X5_endHour (h.st (by decide)) rfl rfl (Nat.le_of_ble_eq_true rfl) (Nat.le_of_eq (Nat.zero_add _)) (Nat.le_of_eq (Nat.zero_add _)) dX8_carryOut_221 rfl rfl (s_X5_endHour h (by decide) hs he fun M_221 h_221 => ?_)
    refine r_pop (q := 225) dX8_carryOut_224 rfl rfl ?_
    refine r_vret dX8_carryOut_225 ?_
    exact hQ _ h_221
def cdOk (x : Nat) : Bool := decide (x = 0) || (decide (32 ≤ x) && decide (x ≤ 126))
def byR (w r : Nat) : Nat := w / 2 ^ (8 * r) % 256
def apC (w : Nat) : Nat → Nat → Option Nat
  | 0, m => some m
  | r + 1, m => if cdOk (byR w r) = false then none else apC w r (m + if byR w r = 0 then 0 else 1)
def qApp (σ : Sg) (x : Int32) : An := match apC (wdN x) 4 0 with
  | none => (1, 0)
  | some m => if 60 < (gR σ 11 0).length + m then (2, 0) else (0, nI (aAll (wdN x) 4 (gR σ 11 0)).length)
theorem nI_wd (x : Int32) : nI (wdN x) = x := by
  refine Int32.toBitVec_inj.mp ?_
  show BitVec.ofNat 32 x.toBitVec.toNat = x.toBitVec
  simp
theorem iS_s : iS σ S (gM σ 7) (gM σ 8) (gM σ 9) = sS σ 11 S := by
  refine Prod.ext rfl (Prod.ext rfl (Prod.ext (funext fun j => ?_) rfl))
  show (if j = 9 then _ else if j = 8 then _ else if j = 7 then _ else _) = _
  split
  · rename_i e; rw [e]; rfl
  · split
    · rename_i e; rw [e]; rfl
    · split
      · rename_i e; rw [e]; rfl
      · rfl
theorem cd_f {x : Nat} (h0 : ¬ x = 0) (h : x < 32 ∨ 126 < x) : cdOk x = false := by
  simp only [cdOk, Bool.or_eq_false_iff, decide_eq_false_iff_not, Bool.and_eq_false_iff]
  omega
theorem cd_t {x : Nat} (h : x = 0 ∨ (32 ≤ x ∧ x ≤ 126)) : ¬ cdOk x = false := by
  simp only [cdOk, Bool.or_eq_false_iff, decide_eq_false_iff_not, Bool.and_eq_false_iff]
  omega
theorem x_addAll (h : RX G Λ ρ σ M) {x : Int32} (hQ : ∀ M', RX G Λ ρ (sS σ 11 (uR (gS σ 11) 0 (aAll (wdN x) 4 (gR σ 11 0)))) M' → Q none M') : MS G yX1_addAll cX1_addAll 4 none (d + 1) 0 0 [.ref (Λ (6, 0, 0)), .int x] M Q QX :=
  s_X1_addAll (σ := σ) (S := gS σ 11) (p := wdN (gM σ 7)) (l := gM σ 8) (s := gM σ 9) (by rw [nI_wd, iS_self]; exact h) fun M' h1 => hQ M' (by rw [nI_wd, iS_s] at h1; exact h1)
theorem s_X8_append (h : RX G Λ ρ σ M) {x : Int32} (hQ : (qApp σ x).1 = 0 → ∀ M', RX G Λ ρ (sS σ 11 (uR (gS σ 11) 0 (aAll (wdN x) 4 (gR σ 11 0)))) M' → Q (some (.int (qApp σ x).2)) M') (hX : ∀ E, exL ["java/lang/IllegalArgumentException", "java/lang/IllegalStateException"] (qApp σ x).1 = some E → QX E M)  : MS G yX8_append cX8_append 5 (some .int) (d + 12) 1 6 [.ref (Λ (0, 0, 0)), .int x] M Q QX := by
  have loop : ∀ (m : Nat) r m0 u, m = r → r ≤ 4 → m0 + r ≤ 4 → apC (wdN x) 4 0 = apC (wdN x) r m0 → AW G (wX G yX8_append cX8_append 5 (some .int) 1 6 Q QX) (d + 12) 1 6 5 [some (.ref (Λ (0, 0, 0))), some (.int x), some (.int (nI m0)), some (.int (nI (8 * r) - nI 8)), u] [] M := by
    intro m
    induction m using Nat.strongRecOn with
    | _ m ih =>
    intro r m0 u hm hr hm0 hg
    subst hm
    have hl60 : (gR σ 11 0).length ≤ 60 := (h.rw (by decide : wR 11 0 = true)).2.1
    refine r_iload_n (q := 6) dX8_append_5 rfl rfl ?_
    refine r_if_lt (t := 67) (q := 9) dX8_append_6 rfl rfl (fun c6 => ?_) (fun c6 => ?_)
    · obtain rfl := (e8_neg hr).mp c6
      replace hg : apC (wdN x) 4 0 = some m0 := hg
      refine r_aload_n (q := 68) dX8_append_67 rfl rfl ?_
      refine r_get (q := 71) (kk := 5) h.x rfl wi_RX8 (by decide) rfl fk_X8_36 rfl dX8_append_68 rfl ?_
      refine r_cV (q := 74) (As := []) wc_X8_298 rfl im_X1_size se_X1_size h.inp rfl rfl (Nat.le_of_ble_eq_true rfl) (Nat.le_of_eq (Nat.zero_add _)) (Nat.le_of_eq (Nat.zero_add _)) dX8_append_71 rfl rfl (s_X1_sizeO h ?_)
      refine r_iload_n (q := 75) dX8_append_74 rfl rfl ?_
      refine r_iadd (q := 76) dX8_append_75 rfl ?_
      rw [n_add]
      refine r_bipush (v := nI 60) (q := 78) dX8_append_76 (by decide) rfl ?_
      refine r_icmp_le (t := 92) (q := 81) dX8_append_78 rfl rfl (fun c78 => ?_) (fun c78 => ?_)
      · simp (disch := omega) only [nI_leI, nI_ltI, nI_eq, nI_lt0, nI_ge0, nI_gt0, nI_le0, nI_eq0] at c78
        have e : qApp σ x = (0, nI (aAll (wdN x) 4 (gR σ 11 0)).length) := by rw [qApp, hg]; exact if_neg (by omega)
        rw [e] at hQ
        refine r_aload_n (q := 93) dX8_append_92 rfl rfl ?_
        refine r_get (q := 96) (kk := 5) h.x rfl wi_RX8 (by decide) rfl fk_X8_36 rfl dX8_append_93 rfl ?_
        refine r_iload_n (q := 97) dX8_append_96 rfl rfl ?_
        refine r_cV (q := 100) (As := [.int _]) wc_X8_326 rfl im_X1_addAll se_X1_addAll h.inp rfl rfl (Nat.le_of_ble_eq_true rfl) (Nat.le_of_eq (Nat.zero_add _)) (Nat.le_of_eq (Nat.zero_add _)) dX8_append_97 rfl rfl (x_addAll h fun M_97 h_97 => ?_)
        refine r_aload_n (q := 101) dX8_append_100 rfl rfl ?_
        refine r_get (q := 104) (kk := 5) h_97.x rfl wi_RX8 (by decide) rfl fk_X8_36 rfl dX8_append_101 rfl ?_
        refine r_cV (q := 107) (As := []) wc_X8_298 rfl im_X1_size se_X1_size h_97.inp rfl rfl (Nat.le_of_ble_eq_true rfl) (Nat.le_of_eq (Nat.zero_add _)) (Nat.le_of_eq (Nat.zero_add _)) dX8_append_104 rfl rfl (s_X1_sizeO h_97 ?_)
        refine r_iret dX8_append_107 ?_
        rw [show gR (sS σ 11 (uR (gS σ 11) 0 (aAll (wdN x) 4 (gR σ 11 0)))) 11 0 = aAll (wdN x) 4 (gR σ 11 0) from by rw [gR_s]; rfl]
        exact hQ rfl _ h_97
      · simp (disch := omega) only [nI_leI, nI_ltI, nI_eq, nI_lt0, nI_ge0, nI_gt0, nI_le0, nI_eq0] at c78
        have e : qApp σ x = (2, 0) := by rw [qApp, hg]; exact if_pos (by omega)
        exact r_throwW (names := nm_IllegalStateException) (j := 30) (by decide +kernel) (by decide +kernel) ck_X8_291 ini_IllegalStateException rfl at_X8_295 og_X8_295 (by decide) (by omega) (Nat.le_of_ble_eq_true rfl) (by decide) (by decide) dX8_append_81 dX8_append_84 dX8_append_85 dX8_append_88 dX8_append_91 (hX _ (by rw [e]; rfl))
    · obtain ⟨r, rfl⟩ : ∃ r0, m = r0 + 1 := ⟨m - 1, by have := mt (e8_neg hr).mpr c6; omega⟩
      rw [e8]
      have hb : byR (wdN x) r < 256 := Nat.mod_lt _ (by decide)
      refine r_iload_n (q := 10) dX8_append_9 rfl rfl ?_
      refine r_iload_n (q := 11) dX8_append_10 rfl rfl ?_
      refine r_iushr (q := 12) dX8_append_11 rfl ?_
      refine r_sipush (v := nI 255) (q := 15) dX8_append_12 (by decide) rfl ?_
      refine r_iand (q := 16) dX8_append_15 rfl ?_
      rw [n_byte x (by omega), show wdN x / 2 ^ (8 * r) % 256 = byR (wdN x) r from rfl]
      refine r_istore (q := 18) dX8_append_16 (Nat.le_of_ble_eq_true rfl) rfl rfl ?_
      show AW _ (_, _, _, _, _, _, _, _, _) _ _ _ _ [some _, some _, some _, some _, some _] _ _
      refine r_iload (q := 20) dX8_append_18 rfl rfl ?_
      refine r_if_eq (t := 48) (q := 23) dX8_append_20 rfl rfl (fun c20 => ?_) (fun c20 => ?_)
      · simp (disch := omega) only [nI_leI, nI_ltI, nI_eq, nI_lt0, nI_ge0, nI_gt0, nI_le0, nI_eq0] at c20
        refine r_iload_n (q := 49) dX8_append_48 rfl rfl ?_
        refine r_iload (q := 51) dX8_append_49 rfl rfl ?_
        refine r_if_ne (t := 58) (q := 54) dX8_append_51 rfl rfl (fun c51 => ?_) (fun c51 => ?_)
        · simp (disch := omega) only [nI_leI, nI_ltI, nI_eq, nI_lt0, nI_ge0, nI_gt0, nI_le0, nI_eq0] at c51
          have hz : (if byR (wdN x) r = 0 then 0 else 1 : Nat) = 1 := if_neg c51
          refine r_iconst (v := nI 1) (q := 59) dX8_append_58 (by decide) rfl ?_
          refine r_iadd (q := 60) dX8_append_59 rfl ?_
          rw [n_add]
          refine r_istore_n (q := 61) dX8_append_60 (Nat.le_of_ble_eq_true rfl) rfl rfl ?_
          show AW _ (_, _, _, _, _, _, _, _, _) _ _ _ _ [some _, some _, some _, some _, some _] _ _
          refine r_iinc (q := 64) dX8_append_61 rfl (show nI (8 * r) + Int32.ofInt (-8) = nI (8 * r) - nI 8 by rw [show Int32.ofInt (-8) = -nI 8 by decide, ← Int32.sub_eq_add_neg]) (Nat.le_of_ble_eq_true rfl) rfl rfl ?_
          show AW _ (_, _, _, _, _, _, _, _, _) _ _ _ _ [some _, some _, some _, some _, some _] _ _
          refine r_goto (t := 5) dX8_append_64 rfl ?_
          refine ih r (by omega) r _ _ rfl (by omega) (by omega) ?_
          rw [hg, apC, if_neg (cd_t (by omega))]
          first
            | (rw [hz]; done)
            | (rw [hz])
        · simp (disch := omega) only [nI_leI, nI_ltI, nI_eq, nI_lt0, nI_ge0, nI_gt0, nI_le0, nI_eq0] at c51
          have hz : (if byR (wdN x) r = 0 then 0 else 1 : Nat) = 0 := if_pos c51
          refine r_iconst (v := nI 0) (q := 55) dX8_append_54 (by decide) rfl ?_
          refine r_goto (t := 59) dX8_append_55 rfl ?_
          refine r_iadd (q := 60) dX8_append_59 rfl ?_
          rw [n_add]
          refine r_istore_n (q := 61) dX8_append_60 (Nat.le_of_ble_eq_true rfl) rfl rfl ?_
          show AW _ (_, _, _, _, _, _, _, _, _) _ _ _ _ [some _, some _, some _, some _, some _] _ _
          refine r_iinc (q := 64) dX8_append_61 rfl (show nI (8 * r) + Int32.ofInt (-8) = nI (8 * r) - nI 8 by rw [show Int32.ofInt (-8) = -nI 8 by decide, ← Int32.sub_eq_add_neg]) (Nat.le_of_ble_eq_true rfl) rfl rfl ?_
          show AW _ (_, _, _, _, _, _, _, _, _) _ _ _ _ [some _, some _, some _, some _, some _] _ _
          refine r_goto (t := 5) dX8_append_64 rfl ?_
          refine ih r (by omega) r _ _ rfl (by omega) (by omega) ?_
          rw [hg, apC, if_neg (cd_t (by omega))]
          first
            | (rw [hz]; done)
            | (rw [hz])
      · simp (disch := omega) only [nI_leI, nI_ltI, nI_eq, nI_lt0, nI_ge0, nI_gt0, nI_le0, nI_eq0] at c20
        refine r_iload (q := 25) dX8_append_23 rfl rfl ?_
        refine r_bipush (v := nI 32) (q := 27) dX8_append_25 (by decide) rfl ?_
        refine r_icmp_lt (t := 37) (q := 30) dX8_append_27 rfl rfl (fun c27 => ?_) (fun c27 => ?_)
        · simp (disch := omega) only [nI_leI, nI_ltI, nI_eq, nI_lt0, nI_ge0, nI_gt0, nI_le0, nI_eq0] at c27
          have e : qApp σ x = (1, 0) := by rw [qApp, hg, apC, if_pos (cd_f c20 (by omega))]
          exact r_throwW (names := nm_IllegalArgumentException) (j := 29) (by decide +kernel) (by decide +kernel) ck_X8_130 ini_IllegalArgumentException rfl at_X8_134 og_X8_134 (by decide) (by omega) (Nat.le_of_ble_eq_true rfl) (by decide) (by decide) dX8_append_37 dX8_append_40 dX8_append_41 dX8_append_44 dX8_append_47 (hX _ (by rw [e]; rfl))
        · simp (disch := omega) only [nI_leI, nI_ltI, nI_eq, nI_lt0, nI_ge0, nI_gt0, nI_le0, nI_eq0] at c27
          refine r_iload (q := 32) dX8_append_30 rfl rfl ?_
          refine r_bipush (v := nI 126) (q := 34) dX8_append_32 (by decide) rfl ?_
          refine r_icmp_le (t := 48) (q := 37) dX8_append_34 rfl rfl (fun c34 => ?_) (fun c34 => ?_)
          · simp (disch := omega) only [nI_leI, nI_ltI, nI_eq, nI_lt0, nI_ge0, nI_gt0, nI_le0, nI_eq0] at c34
            refine r_iload_n (q := 49) dX8_append_48 rfl rfl ?_
            refine r_iload (q := 51) dX8_append_49 rfl rfl ?_
            refine r_if_ne (t := 58) (q := 54) dX8_append_51 rfl rfl (fun c51 => ?_) (fun c51 => ?_)
            · simp (disch := omega) only [nI_leI, nI_ltI, nI_eq, nI_lt0, nI_ge0, nI_gt0, nI_le0, nI_eq0] at c51
              have hz : (if byR (wdN x) r = 0 then 0 else 1 : Nat) = 1 := if_neg c51
              refine r_iconst (v := nI 1) (q := 59) dX8_append_58 (by decide) rfl ?_
              refine r_iadd (q := 60) dX8_append_59 rfl ?_
              rw [n_add]
              refine r_istore_n (q := 61) dX8_append_60 (Nat.le_of_ble_eq_true rfl) rfl rfl ?_
              show AW _ (_, _, _, _, _, _, _, _, _) _ _ _ _ [some _, some _, some _, some _, some _] _ _
              refine r_iinc (q := 64) dX8_append_61 rfl (show nI (8 * r) + Int32.ofInt (-8) = nI (8 * r) - nI 8 by rw [show Int32.ofInt (-8) = -nI 8 by decide, ← Int32.sub_eq_add_neg]) (Nat.le_of_ble_eq_true rfl) rfl rfl ?_
              show AW _ (_, _, _, _, _, _, _, _, _) _ _ _ _ [some _, some _, some _, some _, some _] _ _
              refine r_goto (t := 5) dX8_append_64 rfl ?_
              refine ih r (by omega) r _ _ rfl (by omega) (by omega) ?_
              rw [hg, apC, if_neg (cd_t (by omega))]
              first
                | (rw [hz]; done)
                | (rw [hz])
            · simp (disch := omega) only [nI_leI, nI_ltI, nI_eq, nI_lt0, nI_ge0, nI_gt0, nI_le0, nI_eq0] at c51
              have hz : (if byR (wdN x) r = 0 then 0 else 1 : Nat) = 0 := if_pos c51
              refine r_iconst (v := nI 0) (q := 55) dX8_append_54 (by decide) rfl ?_
              refine r_goto (t := 59) dX8_append_55 rfl ?_
              refine r_iadd (q := 60) dX8_append_59 rfl ?_
              rw [n_add]
              refine r_istore_n (q := 61) dX8_append_60 (Nat.le_of_ble_eq_true rfl) rfl rfl ?_
              show AW _ (_, _, _, _, _, _, _, _, _) _ _ _ _ [some _, some _, some _, some _, some _] _ _
              refine r_iinc (q := 64) dX8_append_61 rfl (show nI (8 * r) + Int32.ofInt (-8) = nI (8 * r) - nI 8 by rw [show Int32.ofInt (-8) = -nI 8 by decide, ← Int32.sub_eq_add_neg]) (Nat.le_of_ble_eq_true rfl) rfl rfl ?_
              show AW _ (_, _, _, _, _, _, _, _, _) _ _ _ _ [some _, some _, some _, some _, some _] _ _
              refine r_goto (t := 5) dX8_append_64 rfl ?_
              refine ih r (by omega) r _ _ rfl (by omega) (by omega) ?_
              rw [hg, apC, if_neg (cd_t (by omega))]
              first
                | (rw [hz]; done)
                | (rw [hz])
          · simp (disch := omega) only [nI_leI, nI_ltI, nI_eq, nI_lt0, nI_ge0, nI_gt0, nI_le0, nI_eq0] at c34
            have e : qApp σ x = (1, 0) := by rw [qApp, hg, apC, if_pos (cd_f c20 (by omega))]
            exact r_throwW (names := nm_IllegalArgumentException) (j := 29) (by decide +kernel) (by decide +kernel) ck_X8_130 ini_IllegalArgumentException rfl at_X8_134 og_X8_134 (by decide) (by omega) (Nat.le_of_ble_eq_true rfl) (by decide) (by decide) dX8_append_37 dX8_append_40 dX8_append_41 dX8_append_44 dX8_append_47 (hX _ (by rw [e]; rfl))
  refine MS.of (by decide) (by simp [Value.category]) (Nat.le_of_ble_eq_true rfl) ?_
  show AW _ (_, _, _, _, _, _, _, _, _) _ _ _ _ [some _, some _, _, _, _] _ _
  refine r_iconst (v := nI 0) (q := 1) dX8_append_0 (by decide) rfl ?_
  refine r_istore_n (q := 2) dX8_append_1 (Nat.le_of_ble_eq_true rfl) rfl rfl ?_
  show AW _ (_, _, _, _, _, _, _, _, _) _ _ _ _ [some _, some _, some _, _, _] _ _
  refine r_bipush (v := nI 24) (q := 4) dX8_append_2 (by decide) rfl ?_
  refine r_istore_n (q := 5) dX8_append_4 (Nat.le_of_ble_eq_true rfl) rfl rfl ?_
  show AW _ (_, _, _, _, _, _, _, _, _) _ _ _ _ [some _, some _, some _, some _, _] _ _
  exact loop _ 4 0 none rfl (by decide) (by decide) rfl
end W43
