/-! THE MODEL: the orders of an input carried out -/
section W64
variable {G : En} {Λ : Ob → Nat} {ρ : Me} {μ : Mg} {M : Me} {d : Nat} {Q : Option Value → Me → Prop} {QX : String → Me → Prop} {S : St} {F : Nat → Nat} {L : List Nat} {z : Nat}
def HXF (F : Nat → Nat) : Prop := ∀ j, j < 7 → lF F j 9 = 2 → ∃ a, a < F 1 ∧ (∀ i, i < a → ¬ isW F j i) ∧ isW F j a
/-- what the model's orders need -/
def OKF (F : Nat → Nat) : Prop := BW F ∧ CN F ∧ HXF F ∧ HOK F ∧ (∀ j, j < 7 → lF F j 4 < 2 ^ 28 ∧ lF F j 5 < 2 ^ 28 ∧ lF F j 8 < 2 ^ 28) ∧ F 6 < 2 ^ 28 ∧ F 9 < 2 ^ 28
def mCo (F : Nat → Nat) (kd a b c : Nat) : Fl := if kd = 104 then no else if isL (nI a) = false then (2, none) else if kd = 115 then mFl (mrSign F b c) else if kd = 117 then mFl (mrNo F a) else if kd = 112 then mFl (mrPri F a b) else if kd = 119 then mFl (mrHu F a a 1) else if kd = 108 then (if isL (nI b) = false ∨ a = b then (2, none) else mFl (mrHu F a b 2)) else if kd = 120 then mFl (mrXp F a) else if kd = 109 then (if inI (nI b) (nI 1) (nI 9) = false then (2, none) else mFl (mrMu F a)) else mFl (mrFi F a)
def mCF (F : Nat → Nat) (kd a b c : Nat) : Nat → Nat := if kd = 104 then gbF F (mWv F (mBest F)) else if kd = 115 then tellF F a b c else if kd = 117 then tellF F a 0 0 else if kd = 112 then uL F a 2 b else if kd = 119 then whF F a else if kd = 108 then liF F a b else if kd = 120 then exF F a (mAt F a) else if kd = 109 then uL F a 5 b else payF F a
def mCR (μ : Mg) (f : Fl) (F' : Nat → Nat) : Mg := match f.2 with
  | some x => rfM (sN μ 26 (bI false)) (some x)
  | none => if f.1 = 0 then sA (sN μ 26 (bI false)) 0 F' else sN μ 26 (bI true)
theorem s_X9_isNot (h : RM G Λ ρ μ M) {b : Bool} (hQ : ∀ M', RM G Λ ρ (sN μ 26 (bI (!b))) M' → Q (some (.int (bI (!b)))) M')  : MS G yX9_isNot cX9_isNot 2 (some .boolean) d 0 0 [.ref (Λ (10, 0, 0)), .int (bI b)] M Q QX := by
  refine MS.of (by decide) (by simp [Value.category]) (Nat.le_of_ble_eq_true rfl) ?_
  show AW _ (_, _, _, _, _, _, _, _, _) _ _ _ _ [some _, some _] _ _
  refine r_aload_n (q := 1) dX9_isNot_0 rfl rfl ?_
  refine r_iload_n (q := 2) dX9_isNot_1 rfl rfl ?_
  refine r_if_ne (t := 9) (q := 5) dX9_isNot_2 rfl rfl (fun c2 => ?_) (fun c2 => ?_)
  · rw [bI_ne c2] at hQ
    refine r_iconst (v := nI 0) (q := 10) dX9_isNot_9 (by decide) rfl ?_
    refine r_p9b (q := 13) (b := !true) (kk := 26) h (Or.inr (Or.inr rfl)) rfl fk_X9_90 dX9_isNot_10 fun M_10 h_10 => ?_
    refine r_aload_n (q := 14) dX9_isNot_13 rfl rfl ?_
    refine r_get (q := 17) (kk := 26) h_10.m rfl wi_RX9 (by decide) rfl fk_X9_90 rfl dX9_isNot_14 rfl ?_
    rw [gN_sNs]
    refine r_zret dX9_isNot_17 (by first | rfl | exact narrow_bI _) ?_
    exact hQ _ h_10
  · rw [bI_eq0.mp c2] at hQ
    refine r_iconst (v := nI 1) (q := 6) dX9_isNot_5 (by decide) rfl ?_
    refine r_goto (t := 10) dX9_isNot_6 rfl ?_
    refine r_p9b (q := 13) (b := !false) (kk := 26) h (Or.inr (Or.inr rfl)) rfl fk_X9_90 dX9_isNot_10 fun M_10 h_10 => ?_
    refine r_aload_n (q := 14) dX9_isNot_13 rfl rfl ?_
    refine r_get (q := 17) (kk := 26) h_10.m rfl wi_RX9 (by decide) rfl fk_X9_90 rfl dX9_isNot_14 rfl ?_
    rw [gN_sNs]
    refine r_zret dX9_isNot_17 (by first | rfl | exact narrow_bI _) ?_
    exact hQ _ h_10
theorem s_X9_cannot (h : RM G Λ ρ μ M) {k kd a b c : Nat} (hF : gA μ 0 = F) (hk : OKF F) (hk60 : k < 60) (hK : gA μ 8 k = kd) (ha : gA μ 9 (3 * k) = a) (hb : gA μ 9 (3 * k + 1) = b) (hc : gA μ 9 (3 * k + 2) = c) (hkd : kd = 115 ∨ kd = 117 ∨ kd = 112 ∨ kd = 119 ∨ kd = 108 ∨ kd = 120 ∨ kd = 109 ∨ kd = 102 ∨ kd = 104) (ha9 : a < 100) (hb9 : b < 100) (hc9 : c < 100) (hb6 : kd = 115 → b ≤ 6 ∧ c < 64) (hQ : ∀ M', RM G Λ ρ (mCR μ (mCo F kd a b c) (mCF F kd a b c)) M' → Q (some (.int (bI (decide (¬ (mCo F kd a b c).1 = 0))))) M')  : MS G yX9_cannot cX9_cannot 6 (some .boolean) (d + 4) 0 0 [.ref (Λ (10, 0, 0)), .int (nI k)] M Q QX := by
  refine MS.of (by decide) (by simp [Value.category]) (Nat.le_of_ble_eq_true rfl) ?_
  show AW _ (_, _, _, _, _, _, _, _, _) _ _ _ _ [some _, some _, _, _, _, _] _ _
  refine r_iconst (v := nI 0) (q := 1) dX9_cannot_0 (by decide) rfl ?_
  refine r_istore_n (q := 2) dX9_cannot_1 (Nat.le_of_ble_eq_true rfl) rfl rfl ?_
  show AW _ (_, _, _, _, _, _, _, _, _) _ _ _ _ [some _, some _, some _, _, _, _] _ _
  have hF0 : gA (sN μ 26 (bI false)) 0 = F := hF
  rcases hkd with rfl | rfl | rfl | rfl | rfl | rfl | rfl | rfl | rfl
  · refine r_aload_n (q := 3) dX9_cannot_2 rfl rfl ?_
    refine r_get (q := 6) (kk := 20) h.m rfl wi_RX9 (by decide) rfl fk_X9_72 rfl dX9_cannot_3 rfl ?_
    refine r_iconst (v := nI 3) (q := 7) dX9_cannot_6 (by decide) rfl ?_
    refine r_iload_n (q := 8) dX9_cannot_7 rfl rfl ?_
    refine r_imul (q := 9) dX9_cannot_8 rfl ?_
    rw [n_mul]
    refine r_ialdM (q := 10) h (by decide) (by simp only [mLen]; omega) dX9_cannot_9 rfl ?_
    rw [ha]
    refine r_istore_n (q := 11) dX9_cannot_10 (Nat.le_of_ble_eq_true rfl) rfl rfl ?_
    show AW _ (_, _, _, _, _, _, _, _, _) _ _ _ _ [some _, some _, some _, some _, _, _] _ _
    refine r_aload_n (q := 12) dX9_cannot_11 rfl rfl ?_
    refine r_get (q := 15) (kk := 20) h.m rfl wi_RX9 (by decide) rfl fk_X9_72 rfl dX9_cannot_12 rfl ?_
    refine r_iconst (v := nI 3) (q := 16) dX9_cannot_15 (by decide) rfl ?_
    refine r_iload_n (q := 17) dX9_cannot_16 rfl rfl ?_
    refine r_imul (q := 18) dX9_cannot_17 rfl ?_
    rw [n_mul]
    refine r_iconst (v := nI 1) (q := 19) dX9_cannot_18 (by decide) rfl ?_
    refine r_iadd (q := 20) dX9_cannot_19 rfl ?_
    rw [n_add]
    refine r_ialdM (q := 21) h (by decide) (by simp only [mLen]; omega) dX9_cannot_20 rfl ?_
    rw [hb]
    refine r_istore (q := 23) dX9_cannot_21 (Nat.le_of_ble_eq_true rfl) rfl rfl ?_
    show AW _ (_, _, _, _, _, _, _, _, _) _ _ _ _ [some _, some _, some _, some _, some _, _] _ _
    refine r_aload_n (q := 24) dX9_cannot_23 rfl rfl ?_
    refine r_get (q := 27) (kk := 20) h.m rfl wi_RX9 (by decide) rfl fk_X9_72 rfl dX9_cannot_24 rfl ?_
    refine r_iconst (v := nI 3) (q := 28) dX9_cannot_27 (by decide) rfl ?_
    refine r_iload_n (q := 29) dX9_cannot_28 rfl rfl ?_
    refine r_imul (q := 30) dX9_cannot_29 rfl ?_
    rw [n_mul]
    refine r_iconst (v := nI 2) (q := 31) dX9_cannot_30 (by decide) rfl ?_
    refine r_iadd (q := 32) dX9_cannot_31 rfl ?_
    rw [n_add]
    refine r_ialdM (q := 33) h (by decide) (by simp only [mLen]; omega) dX9_cannot_32 rfl ?_
    rw [hc]
    refine r_istore (q := 35) dX9_cannot_33 (Nat.le_of_ble_eq_true rfl) rfl rfl ?_
    show AW _ (_, _, _, _, _, _, _, _, _) _ _ _ _ [some _, some _, some _, some _, some _, some _] _ _
    refine r_aload_n (q := 36) dX9_cannot_35 rfl rfl ?_
    refine r_iconst (v := nI 0) (q := 37) dX9_cannot_36 (by decide) rfl ?_
    refine r_p9b (q := 40) (b := false) (kk := 26) h (Or.inr (Or.inr rfl)) rfl fk_X9_90 dX9_cannot_37 fun M_37 h_37 => ?_
    refine r_aload_n (q := 41) dX9_cannot_40 rfl rfl ?_
    refine r_get (q := 44) (kk := 19) h_37.m rfl wi_RX9 (by decide) rfl fk_X9_69 rfl dX9_cannot_41 rfl ?_
    refine r_iload_n (q := 45) dX9_cannot_44 rfl rfl ?_
    refine r_ialdM (q := 46) h_37 (by decide) (by simp only [mLen]; omega) dX9_cannot_45 rfl ?_
    rw [gA_sNe, hK]
    refine r_bipush (v := nI 104) (q := 48) dX9_cannot_46 (by decide) rfl ?_
    refine r_icmp_eq (t := 64) (q := 51) dX9_cannot_48 rfl rfl (fun c48 => ?_) (fun c48 => ?_)
    · exact absurd c48 (by decide)
    · refine r_aload_n (q := 52) dX9_cannot_51 rfl rfl ?_
      refine r_iload_n (q := 53) dX9_cannot_52 rfl rfl ?_
      refine r_cS (q := 56) (As := [.int _]) wc_X9_133 st_X9_isLine rfl (Nat.le_of_ble_eq_true rfl) (Nat.le_of_eq (Nat.zero_add _)) (Nat.le_of_eq (Nat.zero_add _)) dX9_cannot_53 rfl rfl (s_X9_isLine ?_)
      refine r_cV (q := 59) (As := [.int _]) wc_X9_309 rfl im_X9_isNot se_X9_isNot h_37.m rfl rfl (Nat.le_of_ble_eq_true rfl) (Nat.le_of_eq (Nat.zero_add _)) (Nat.le_of_eq (Nat.zero_add _)) dX9_cannot_56 rfl rfl (s_X9_isNot h_37 fun M_56 h_56 => ?_)
      try simp only [sN_sN] at h_56
      refine r_if_eq (t := 64) (q := 62) dX9_cannot_59 rfl rfl (fun c59 => ?_) (fun c59 => ?_)
      · have il0 := bI_eq0.mp c59
        have ilt : isL (nI a) = true := by rw [Bool.not_eq_false'] at il0; exact il0
        have il : ¬ isL (nI a) = false := by rw [ilt]; decide
        have ha7 : a < 7 := by obtain ⟨j, hj, e⟩ := isL_t ilt; rw [nI_inj (by omega) (by omega) e]; exact hj
        rw [il0] at h_56
        refine r_aload_n (q := 65) dX9_cannot_64 rfl rfl ?_
        refine r_get (q := 68) (kk := 19) h_56.m rfl wi_RX9 (by decide) rfl fk_X9_69 rfl dX9_cannot_65 rfl ?_
        refine r_iload_n (q := 69) dX9_cannot_68 rfl rfl ?_
        refine r_ialdM (q := 70) h_56 (by decide) (by simp only [mLen]; omega) dX9_cannot_69 rfl ?_
        rw [gA_sNe, hK]
        · refine r_tableIn dX9_cannot_70 (by decide) (by decide) rfl rfl ?_
          refine r_aload_n (q := 161) dX9_cannot_160 rfl rfl ?_
          refine r_iload (q := 163) dX9_cannot_161 rfl rfl ?_
          refine r_iload (q := 165) dX9_cannot_163 rfl rfl ?_
          refine r_cV (q := 168) (As := [.int _, .int _]) wc_X9_140 rfl im_X9_isRefusedSign se_X9_isRefusedSign h_56.m rfl rfl (Nat.le_of_ble_eq_true rfl) (Nat.le_of_eq (Nat.zero_add _)) (Nat.le_of_eq (Nat.zero_add _)) dX9_cannot_165 rfl rfl (s_X9_isRefusedSign h_56 (by omega) (by omega) fun M_165 h_165 => ?_)
          try simp only [sN_sN] at h_165
          rw [gA_sNe, hF] at h_165 ⊢
          refine r_if_eq (t := 173) (q := 171) dX9_cannot_168 rfl rfl (fun c168 => ?_) (fun c168 => ?_)
          · have e0 := none_of c168
            have e : mCo F 115 a b c = no := by rw [mCo, if_neg (by decide), if_neg il, if_pos rfl]; rw [e0]; rfl
            have ef : mCF F 115 a b c = tellF F a b c := by rw [mCF, if_neg (by decide), if_pos rfl]
            rw [e, ef] at hQ
            rw [e0] at h_165
            replace h_165 : RM G Λ ρ (sN μ 26 (bI false)) _ := h_165
            refine r_aload_n (q := 174) dX9_cannot_173 rfl rfl ?_
            refine r_iload_n (q := 175) dX9_cannot_174 rfl rfl ?_
            refine r_iload (q := 177) dX9_cannot_175 rfl rfl ?_
            refine r_iload (q := 179) dX9_cannot_177 rfl rfl ?_
            refine r_cV (q := 182) (As := [.int _, .int _, .int _]) wc_X9_146 rfl im_X9_tells se_X9_tells h_165.m rfl rfl (Nat.le_of_ble_eq_true rfl) (Nat.le_of_eq (Nat.zero_add _)) (Nat.le_of_eq (Nat.zero_add _)) dX9_cannot_179 rfl rfl (s_X9_tells (F := F) (show RM G Λ ρ (sA (sN μ 26 (bI false)) 0 F) _ by rw [← hF, show sA (sN μ 26 (bI false)) 0 (gA μ 0) = sN μ 26 (bI false) from sA_self]; exact h_165) ha7 (hb6 rfl).1 (hb6 rfl).2 fun M_179 h_179 => ?_)
            try simp only [sN_sN] at h_179
            refine r_istore_n (q := 183) dX9_cannot_182 (Nat.le_of_ble_eq_true rfl) rfl rfl ?_
            show AW _ (_, _, _, _, _, _, _, _, _) _ _ _ _ [some _, some _, some _, some _, some _, some _] _ _
            refine r_iconst (v := nI 0) (q := 184) dX9_cannot_183 (by decide) rfl ?_
            refine r_zret dX9_cannot_184 (by first | rfl | exact narrow_bI _) ?_
            exact hQ _ h_179
          · obtain ⟨x, e0⟩ := some_of c168
            have e : mCo F 115 a b c = (3, some x) := by rw [mCo, if_neg (by decide), if_neg il, if_pos rfl]; rw [e0]; rfl
            rw [e] at hQ
            rw [e0] at h_165
            refine r_iconst (v := nI 1) (q := 172) dX9_cannot_171 (by decide) rfl ?_
            refine r_zret dX9_cannot_172 (by first | rfl | exact narrow_bI _) ?_
            exact hQ _ h_165
      · have il0 := bI_ne c59
        have il : isL (nI a) = false := by rw [Bool.not_eq_true'] at il0; exact il0
        have e : mCo F 115 a b c = (2, none) := by rw [mCo, if_neg (by decide), if_pos il]
        rw [il0] at h_56
        rw [e] at hQ
        refine r_iconst (v := nI 1) (q := 63) dX9_cannot_62 (by decide) rfl ?_
        refine r_zret dX9_cannot_63 (by first | rfl | exact narrow_bI _) ?_
        exact hQ _ h_56
  · refine r_aload_n (q := 3) dX9_cannot_2 rfl rfl ?_
    refine r_get (q := 6) (kk := 20) h.m rfl wi_RX9 (by decide) rfl fk_X9_72 rfl dX9_cannot_3 rfl ?_
    refine r_iconst (v := nI 3) (q := 7) dX9_cannot_6 (by decide) rfl ?_
    refine r_iload_n (q := 8) dX9_cannot_7 rfl rfl ?_
    refine r_imul (q := 9) dX9_cannot_8 rfl ?_
    rw [n_mul]
    refine r_ialdM (q := 10) h (by decide) (by simp only [mLen]; omega) dX9_cannot_9 rfl ?_
    rw [ha]
    refine r_istore_n (q := 11) dX9_cannot_10 (Nat.le_of_ble_eq_true rfl) rfl rfl ?_
    show AW _ (_, _, _, _, _, _, _, _, _) _ _ _ _ [some _, some _, some _, some _, _, _] _ _
    refine r_aload_n (q := 12) dX9_cannot_11 rfl rfl ?_
    refine r_get (q := 15) (kk := 20) h.m rfl wi_RX9 (by decide) rfl fk_X9_72 rfl dX9_cannot_12 rfl ?_
    refine r_iconst (v := nI 3) (q := 16) dX9_cannot_15 (by decide) rfl ?_
    refine r_iload_n (q := 17) dX9_cannot_16 rfl rfl ?_
    refine r_imul (q := 18) dX9_cannot_17 rfl ?_
    rw [n_mul]
    refine r_iconst (v := nI 1) (q := 19) dX9_cannot_18 (by decide) rfl ?_
    refine r_iadd (q := 20) dX9_cannot_19 rfl ?_
    rw [n_add]
    refine r_ialdM (q := 21) h (by decide) (by simp only [mLen]; omega) dX9_cannot_20 rfl ?_
    rw [hb]
    refine r_istore (q := 23) dX9_cannot_21 (Nat.le_of_ble_eq_true rfl) rfl rfl ?_
    show AW _ (_, _, _, _, _, _, _, _, _) _ _ _ _ [some _, some _, some _, some _, some _, _] _ _
    refine r_aload_n (q := 24) dX9_cannot_23 rfl rfl ?_
    refine r_get (q := 27) (kk := 20) h.m rfl wi_RX9 (by decide) rfl fk_X9_72 rfl dX9_cannot_24 rfl ?_
    refine r_iconst (v := nI 3) (q := 28) dX9_cannot_27 (by decide) rfl ?_
    refine r_iload_n (q := 29) dX9_cannot_28 rfl rfl ?_
    refine r_imul (q := 30) dX9_cannot_29 rfl ?_
    rw [n_mul]
    refine r_iconst (v := nI 2) (q := 31) dX9_cannot_30 (by decide) rfl ?_
    refine r_iadd (q := 32) dX9_cannot_31 rfl ?_
    rw [n_add]
    refine r_ialdM (q := 33) h (by decide) (by simp only [mLen]; omega) dX9_cannot_32 rfl ?_
    rw [hc]
    refine r_istore (q := 35) dX9_cannot_33 (Nat.le_of_ble_eq_true rfl) rfl rfl ?_
    show AW _ (_, _, _, _, _, _, _, _, _) _ _ _ _ [some _, some _, some _, some _, some _, some _] _ _
    refine r_aload_n (q := 36) dX9_cannot_35 rfl rfl ?_
    refine r_iconst (v := nI 0) (q := 37) dX9_cannot_36 (by decide) rfl ?_
    refine r_p9b (q := 40) (b := false) (kk := 26) h (Or.inr (Or.inr rfl)) rfl fk_X9_90 dX9_cannot_37 fun M_37 h_37 => ?_
    refine r_aload_n (q := 41) dX9_cannot_40 rfl rfl ?_
    refine r_get (q := 44) (kk := 19) h_37.m rfl wi_RX9 (by decide) rfl fk_X9_69 rfl dX9_cannot_41 rfl ?_
    refine r_iload_n (q := 45) dX9_cannot_44 rfl rfl ?_
    refine r_ialdM (q := 46) h_37 (by decide) (by simp only [mLen]; omega) dX9_cannot_45 rfl ?_
    rw [gA_sNe, hK]
    refine r_bipush (v := nI 104) (q := 48) dX9_cannot_46 (by decide) rfl ?_
    refine r_icmp_eq (t := 64) (q := 51) dX9_cannot_48 rfl rfl (fun c48 => ?_) (fun c48 => ?_)
    · exact absurd c48 (by decide)
    · refine r_aload_n (q := 52) dX9_cannot_51 rfl rfl ?_
      refine r_iload_n (q := 53) dX9_cannot_52 rfl rfl ?_
      refine r_cS (q := 56) (As := [.int _]) wc_X9_133 st_X9_isLine rfl (Nat.le_of_ble_eq_true rfl) (Nat.le_of_eq (Nat.zero_add _)) (Nat.le_of_eq (Nat.zero_add _)) dX9_cannot_53 rfl rfl (s_X9_isLine ?_)
      refine r_cV (q := 59) (As := [.int _]) wc_X9_309 rfl im_X9_isNot se_X9_isNot h_37.m rfl rfl (Nat.le_of_ble_eq_true rfl) (Nat.le_of_eq (Nat.zero_add _)) (Nat.le_of_eq (Nat.zero_add _)) dX9_cannot_56 rfl rfl (s_X9_isNot h_37 fun M_56 h_56 => ?_)
      try simp only [sN_sN] at h_56
      refine r_if_eq (t := 64) (q := 62) dX9_cannot_59 rfl rfl (fun c59 => ?_) (fun c59 => ?_)
      · have il0 := bI_eq0.mp c59
        have ilt : isL (nI a) = true := by rw [Bool.not_eq_false'] at il0; exact il0
        have il : ¬ isL (nI a) = false := by rw [ilt]; decide
        have ha7 : a < 7 := by obtain ⟨j, hj, e⟩ := isL_t ilt; rw [nI_inj (by omega) (by omega) e]; exact hj
        rw [il0] at h_56
        refine r_aload_n (q := 65) dX9_cannot_64 rfl rfl ?_
        refine r_get (q := 68) (kk := 19) h_56.m rfl wi_RX9 (by decide) rfl fk_X9_69 rfl dX9_cannot_65 rfl ?_
        refine r_iload_n (q := 69) dX9_cannot_68 rfl rfl ?_
        refine r_ialdM (q := 70) h_56 (by decide) (by simp only [mLen]; omega) dX9_cannot_69 rfl ?_
        rw [gA_sNe, hK]
        · refine r_tableIn dX9_cannot_70 (by decide) (by decide) rfl rfl ?_
          refine r_aload_n (q := 186) dX9_cannot_185 rfl rfl ?_
          refine r_iload_n (q := 187) dX9_cannot_186 rfl rfl ?_
          refine r_cV (q := 190) (As := [.int _]) wc_X9_153 rfl im_X9_hasNoSign se_X9_hasNoSign h_56.m rfl rfl (Nat.le_of_ble_eq_true rfl) (Nat.le_of_eq (Nat.zero_add _)) (Nat.le_of_eq (Nat.zero_add _)) dX9_cannot_187 rfl rfl (s_X9_hasNoSign h_56 ha7 fun M_187 h_187 => ?_)
          try simp only [sN_sN] at h_187
          rw [gA_sNe, hF] at h_187 ⊢
          refine r_if_eq (t := 195) (q := 193) dX9_cannot_190 rfl rfl (fun c190 => ?_) (fun c190 => ?_)
          · have e0 := none_of c190
            have e : mCo F 117 a b c = no := by rw [mCo, if_neg (by decide), if_neg il, if_neg (by decide), if_pos rfl]; rw [e0]; rfl
            have ef : mCF F 117 a b c = tellF F a 0 0 := by rw [mCF, if_neg (by decide), if_neg (by decide), if_pos rfl]
            rw [e, ef] at hQ
            rw [e0] at h_187
            replace h_187 : RM G Λ ρ (sN μ 26 (bI false)) _ := h_187
            refine r_aload_n (q := 196) dX9_cannot_195 rfl rfl ?_
            refine r_iload_n (q := 197) dX9_cannot_196 rfl rfl ?_
            refine r_cV (q := 200) (As := [.int _]) wc_X9_156 rfl im_X9_unsigns se_X9_unsigns h_187.m rfl rfl (Nat.le_of_ble_eq_true rfl) (Nat.le_of_eq (Nat.zero_add _)) (Nat.le_of_eq (Nat.zero_add _)) dX9_cannot_197 rfl rfl (s_X9_unsigns (F := F) (show RM G Λ ρ (sA (sN μ 26 (bI false)) 0 F) _ by rw [← hF, show sA (sN μ 26 (bI false)) 0 (gA μ 0) = sN μ 26 (bI false) from sA_self]; exact h_187) ha7 fun M_197 h_197 => ?_)
            try simp only [sN_sN] at h_197
            refine r_istore_n (q := 201) dX9_cannot_200 (Nat.le_of_ble_eq_true rfl) rfl rfl ?_
            show AW _ (_, _, _, _, _, _, _, _, _) _ _ _ _ [some _, some _, some _, some _, some _, some _] _ _
            refine r_iconst (v := nI 0) (q := 202) dX9_cannot_201 (by decide) rfl ?_
            refine r_zret dX9_cannot_202 (by first | rfl | exact narrow_bI _) ?_
            exact hQ _ h_197
          · obtain ⟨x, e0⟩ := some_of c190
            have e : mCo F 117 a b c = (3, some x) := by rw [mCo, if_neg (by decide), if_neg il, if_neg (by decide), if_pos rfl]; rw [e0]; rfl
            rw [e] at hQ
            rw [e0] at h_187
            refine r_iconst (v := nI 1) (q := 194) dX9_cannot_193 (by decide) rfl ?_
            refine r_zret dX9_cannot_194 (by first | rfl | exact narrow_bI _) ?_
            exact hQ _ h_187
      · have il0 := bI_ne c59
        have il : isL (nI a) = false := by rw [Bool.not_eq_true'] at il0; exact il0
        have e : mCo F 117 a b c = (2, none) := by rw [mCo, if_neg (by decide), if_pos il]
        rw [il0] at h_56
        rw [e] at hQ
        refine r_iconst (v := nI 1) (q := 63) dX9_cannot_62 (by decide) rfl ?_
        refine r_zret dX9_cannot_63 (by first | rfl | exact narrow_bI _) ?_
        exact hQ _ h_56
  · refine r_aload_n (q := 3) dX9_cannot_2 rfl rfl ?_
    refine r_get (q := 6) (kk := 20) h.m rfl wi_RX9 (by decide) rfl fk_X9_72 rfl dX9_cannot_3 rfl ?_
    refine r_iconst (v := nI 3) (q := 7) dX9_cannot_6 (by decide) rfl ?_
    refine r_iload_n (q := 8) dX9_cannot_7 rfl rfl ?_
    refine r_imul (q := 9) dX9_cannot_8 rfl ?_
    rw [n_mul]
    refine r_ialdM (q := 10) h (by decide) (by simp only [mLen]; omega) dX9_cannot_9 rfl ?_
    rw [ha]
    refine r_istore_n (q := 11) dX9_cannot_10 (Nat.le_of_ble_eq_true rfl) rfl rfl ?_
    show AW _ (_, _, _, _, _, _, _, _, _) _ _ _ _ [some _, some _, some _, some _, _, _] _ _
    refine r_aload_n (q := 12) dX9_cannot_11 rfl rfl ?_
    refine r_get (q := 15) (kk := 20) h.m rfl wi_RX9 (by decide) rfl fk_X9_72 rfl dX9_cannot_12 rfl ?_
    refine r_iconst (v := nI 3) (q := 16) dX9_cannot_15 (by decide) rfl ?_
    refine r_iload_n (q := 17) dX9_cannot_16 rfl rfl ?_
    refine r_imul (q := 18) dX9_cannot_17 rfl ?_
    rw [n_mul]
    refine r_iconst (v := nI 1) (q := 19) dX9_cannot_18 (by decide) rfl ?_
    refine r_iadd (q := 20) dX9_cannot_19 rfl ?_
    rw [n_add]
    refine r_ialdM (q := 21) h (by decide) (by simp only [mLen]; omega) dX9_cannot_20 rfl ?_
    rw [hb]
    refine r_istore (q := 23) dX9_cannot_21 (Nat.le_of_ble_eq_true rfl) rfl rfl ?_
    show AW _ (_, _, _, _, _, _, _, _, _) _ _ _ _ [some _, some _, some _, some _, some _, _] _ _
    refine r_aload_n (q := 24) dX9_cannot_23 rfl rfl ?_
    refine r_get (q := 27) (kk := 20) h.m rfl wi_RX9 (by decide) rfl fk_X9_72 rfl dX9_cannot_24 rfl ?_
    refine r_iconst (v := nI 3) (q := 28) dX9_cannot_27 (by decide) rfl ?_
    refine r_iload_n (q := 29) dX9_cannot_28 rfl rfl ?_
    refine r_imul (q := 30) dX9_cannot_29 rfl ?_
    rw [n_mul]
    refine r_iconst (v := nI 2) (q := 31) dX9_cannot_30 (by decide) rfl ?_
    refine r_iadd (q := 32) dX9_cannot_31 rfl ?_
    rw [n_add]
    refine r_ialdM (q := 33) h (by decide) (by simp only [mLen]; omega) dX9_cannot_32 rfl ?_
    rw [hc]
    refine r_istore (q := 35) dX9_cannot_33 (Nat.le_of_ble_eq_true rfl) rfl rfl ?_
    show AW _ (_, _, _, _, _, _, _, _, _) _ _ _ _ [some _, some _, some _, some _, some _, some _] _ _
    refine r_aload_n (q := 36) dX9_cannot_35 rfl rfl ?_
    refine r_iconst (v := nI 0) (q := 37) dX9_cannot_36 (by decide) rfl ?_
    refine r_p9b (q := 40) (b := false) (kk := 26) h (Or.inr (Or.inr rfl)) rfl fk_X9_90 dX9_cannot_37 fun M_37 h_37 => ?_
    refine r_aload_n (q := 41) dX9_cannot_40 rfl rfl ?_
    refine r_get (q := 44) (kk := 19) h_37.m rfl wi_RX9 (by decide) rfl fk_X9_69 rfl dX9_cannot_41 rfl ?_
    refine r_iload_n (q := 45) dX9_cannot_44 rfl rfl ?_
    refine r_ialdM (q := 46) h_37 (by decide) (by simp only [mLen]; omega) dX9_cannot_45 rfl ?_
    rw [gA_sNe, hK]
    refine r_bipush (v := nI 104) (q := 48) dX9_cannot_46 (by decide) rfl ?_
    refine r_icmp_eq (t := 64) (q := 51) dX9_cannot_48 rfl rfl (fun c48 => ?_) (fun c48 => ?_)
    · exact absurd c48 (by decide)
    · refine r_aload_n (q := 52) dX9_cannot_51 rfl rfl ?_
      refine r_iload_n (q := 53) dX9_cannot_52 rfl rfl ?_
      refine r_cS (q := 56) (As := [.int _]) wc_X9_133 st_X9_isLine rfl (Nat.le_of_ble_eq_true rfl) (Nat.le_of_eq (Nat.zero_add _)) (Nat.le_of_eq (Nat.zero_add _)) dX9_cannot_53 rfl rfl (s_X9_isLine ?_)
      refine r_cV (q := 59) (As := [.int _]) wc_X9_309 rfl im_X9_isNot se_X9_isNot h_37.m rfl rfl (Nat.le_of_ble_eq_true rfl) (Nat.le_of_eq (Nat.zero_add _)) (Nat.le_of_eq (Nat.zero_add _)) dX9_cannot_56 rfl rfl (s_X9_isNot h_37 fun M_56 h_56 => ?_)
      try simp only [sN_sN] at h_56
      refine r_if_eq (t := 64) (q := 62) dX9_cannot_59 rfl rfl (fun c59 => ?_) (fun c59 => ?_)
      · have il0 := bI_eq0.mp c59
        have ilt : isL (nI a) = true := by rw [Bool.not_eq_false'] at il0; exact il0
        have il : ¬ isL (nI a) = false := by rw [ilt]; decide
        have ha7 : a < 7 := by obtain ⟨j, hj, e⟩ := isL_t ilt; rw [nI_inj (by omega) (by omega) e]; exact hj
        rw [il0] at h_56
        refine r_aload_n (q := 65) dX9_cannot_64 rfl rfl ?_
        refine r_get (q := 68) (kk := 19) h_56.m rfl wi_RX9 (by decide) rfl fk_X9_69 rfl dX9_cannot_65 rfl ?_
        refine r_iload_n (q := 69) dX9_cannot_68 rfl rfl ?_
        refine r_ialdM (q := 70) h_56 (by decide) (by simp only [mLen]; omega) dX9_cannot_69 rfl ?_
        rw [gA_sNe, hK]
        · refine r_tableIn dX9_cannot_70 (by decide) (by decide) rfl rfl ?_
          refine r_aload_n (q := 204) dX9_cannot_203 rfl rfl ?_
          refine r_iload_n (q := 205) dX9_cannot_204 rfl rfl ?_
          refine r_iload (q := 207) dX9_cannot_205 rfl rfl ?_
          refine r_cV (q := 210) (As := [.int _, .int _]) wc_X9_162 rfl im_X9_isRefusedPriority se_X9_isRefusedPriority h_56.m rfl rfl (Nat.le_of_ble_eq_true rfl) (Nat.le_of_eq (Nat.zero_add _)) (Nat.le_of_eq (Nat.zero_add _)) dX9_cannot_207 rfl rfl (s_X9_isRefusedPriority h_56 ha7 (by omega) fun M_207 h_207 => ?_)
          try simp only [sN_sN] at h_207
          rw [gA_sNe, hF] at h_207 ⊢
          refine r_if_eq (t := 215) (q := 213) dX9_cannot_210 rfl rfl (fun c210 => ?_) (fun c210 => ?_)
          · have e0 := none_of c210
            have e : mCo F 112 a b c = no := by rw [mCo, if_neg (by decide), if_neg il, if_neg (by decide), if_neg (by decide), if_pos rfl]; rw [e0]; rfl
            have ef : mCF F 112 a b c = uL F a 2 b := by rw [mCF, if_neg (by decide), if_neg (by decide), if_neg (by decide), if_pos rfl]
            rw [e, ef] at hQ
            rw [e0] at h_207
            replace h_207 : RM G Λ ρ (sN μ 26 (bI false)) _ := h_207
            refine r_aload_n (q := 216) dX9_cannot_215 rfl rfl ?_
            refine r_iload_n (q := 217) dX9_cannot_216 rfl rfl ?_
            refine r_iload (q := 219) dX9_cannot_217 rfl rfl ?_
            refine r_cV (q := 222) (As := [.int _, .int _]) wc_X9_165 rfl im_X9_orders se_X9_orders h_207.m rfl rfl (Nat.le_of_ble_eq_true rfl) (Nat.le_of_eq (Nat.zero_add _)) (Nat.le_of_eq (Nat.zero_add _)) dX9_cannot_219 rfl rfl (s_X9_orders (F := F) (show RM G Λ ρ (sA (sN μ 26 (bI false)) 0 F) _ by rw [← hF, show sA (sN μ 26 (bI false)) 0 (gA μ 0) = sN μ 26 (bI false) from sA_self]; exact h_207) ha7 (by omega) fun M_219 h_219 => ?_)
            try simp only [sN_sN] at h_219
            refine r_istore_n (q := 223) dX9_cannot_222 (Nat.le_of_ble_eq_true rfl) rfl rfl ?_
            show AW _ (_, _, _, _, _, _, _, _, _) _ _ _ _ [some _, some _, some _, some _, some _, some _] _ _
            refine r_iconst (v := nI 0) (q := 224) dX9_cannot_223 (by decide) rfl ?_
            refine r_zret dX9_cannot_224 (by first | rfl | exact narrow_bI _) ?_
            exact hQ _ h_219
          · obtain ⟨x, e0⟩ := some_of c210
            have e : mCo F 112 a b c = (3, some x) := by rw [mCo, if_neg (by decide), if_neg il, if_neg (by decide), if_neg (by decide), if_pos rfl]; rw [e0]; rfl
            rw [e] at hQ
            rw [e0] at h_207
            refine r_iconst (v := nI 1) (q := 214) dX9_cannot_213 (by decide) rfl ?_
            refine r_zret dX9_cannot_214 (by first | rfl | exact narrow_bI _) ?_
            exact hQ _ h_207
      · have il0 := bI_ne c59
        have il : isL (nI a) = false := by rw [Bool.not_eq_true'] at il0; exact il0
        have e : mCo F 112 a b c = (2, none) := by rw [mCo, if_neg (by decide), if_pos il]
        rw [il0] at h_56
        rw [e] at hQ
        refine r_iconst (v := nI 1) (q := 63) dX9_cannot_62 (by decide) rfl ?_
        refine r_zret dX9_cannot_63 (by first | rfl | exact narrow_bI _) ?_
        exact hQ _ h_56
  · refine r_aload_n (q := 3) dX9_cannot_2 rfl rfl ?_
    refine r_get (q := 6) (kk := 20) h.m rfl wi_RX9 (by decide) rfl fk_X9_72 rfl dX9_cannot_3 rfl ?_
    refine r_iconst (v := nI 3) (q := 7) dX9_cannot_6 (by decide) rfl ?_
    refine r_iload_n (q := 8) dX9_cannot_7 rfl rfl ?_
    refine r_imul (q := 9) dX9_cannot_8 rfl ?_
    rw [n_mul]
    refine r_ialdM (q := 10) h (by decide) (by simp only [mLen]; omega) dX9_cannot_9 rfl ?_
    rw [ha]
    refine r_istore_n (q := 11) dX9_cannot_10 (Nat.le_of_ble_eq_true rfl) rfl rfl ?_
    show AW _ (_, _, _, _, _, _, _, _, _) _ _ _ _ [some _, some _, some _, some _, _, _] _ _
    refine r_aload_n (q := 12) dX9_cannot_11 rfl rfl ?_
    refine r_get (q := 15) (kk := 20) h.m rfl wi_RX9 (by decide) rfl fk_X9_72 rfl dX9_cannot_12 rfl ?_
    refine r_iconst (v := nI 3) (q := 16) dX9_cannot_15 (by decide) rfl ?_
    refine r_iload_n (q := 17) dX9_cannot_16 rfl rfl ?_
    refine r_imul (q := 18) dX9_cannot_17 rfl ?_
    rw [n_mul]
    refine r_iconst (v := nI 1) (q := 19) dX9_cannot_18 (by decide) rfl ?_
    refine r_iadd (q := 20) dX9_cannot_19 rfl ?_
    rw [n_add]
    refine r_ialdM (q := 21) h (by decide) (by simp only [mLen]; omega) dX9_cannot_20 rfl ?_
    rw [hb]
    refine r_istore (q := 23) dX9_cannot_21 (Nat.le_of_ble_eq_true rfl) rfl rfl ?_
    show AW _ (_, _, _, _, _, _, _, _, _) _ _ _ _ [some _, some _, some _, some _, some _, _] _ _
    refine r_aload_n (q := 24) dX9_cannot_23 rfl rfl ?_
    refine r_get (q := 27) (kk := 20) h.m rfl wi_RX9 (by decide) rfl fk_X9_72 rfl dX9_cannot_24 rfl ?_
    refine r_iconst (v := nI 3) (q := 28) dX9_cannot_27 (by decide) rfl ?_
    refine r_iload_n (q := 29) dX9_cannot_28 rfl rfl ?_
    refine r_imul (q := 30) dX9_cannot_29 rfl ?_
    rw [n_mul]
    refine r_iconst (v := nI 2) (q := 31) dX9_cannot_30 (by decide) rfl ?_
    refine r_iadd (q := 32) dX9_cannot_31 rfl ?_
    rw [n_add]
    refine r_ialdM (q := 33) h (by decide) (by simp only [mLen]; omega) dX9_cannot_32 rfl ?_
    rw [hc]
    refine r_istore (q := 35) dX9_cannot_33 (Nat.le_of_ble_eq_true rfl) rfl rfl ?_
    show AW _ (_, _, _, _, _, _, _, _, _) _ _ _ _ [some _, some _, some _, some _, some _, some _] _ _
    refine r_aload_n (q := 36) dX9_cannot_35 rfl rfl ?_
    refine r_iconst (v := nI 0) (q := 37) dX9_cannot_36 (by decide) rfl ?_
    refine r_p9b (q := 40) (b := false) (kk := 26) h (Or.inr (Or.inr rfl)) rfl fk_X9_90 dX9_cannot_37 fun M_37 h_37 => ?_
    refine r_aload_n (q := 41) dX9_cannot_40 rfl rfl ?_
    refine r_get (q := 44) (kk := 19) h_37.m rfl wi_RX9 (by decide) rfl fk_X9_69 rfl dX9_cannot_41 rfl ?_
    refine r_iload_n (q := 45) dX9_cannot_44 rfl rfl ?_
    refine r_ialdM (q := 46) h_37 (by decide) (by simp only [mLen]; omega) dX9_cannot_45 rfl ?_
    rw [gA_sNe, hK]
    refine r_bipush (v := nI 104) (q := 48) dX9_cannot_46 (by decide) rfl ?_
    refine r_icmp_eq (t := 64) (q := 51) dX9_cannot_48 rfl rfl (fun c48 => ?_) (fun c48 => ?_)
    · exact absurd c48 (by decide)
    · refine r_aload_n (q := 52) dX9_cannot_51 rfl rfl ?_
      refine r_iload_n (q := 53) dX9_cannot_52 rfl rfl ?_
      refine r_cS (q := 56) (As := [.int _]) wc_X9_133 st_X9_isLine rfl (Nat.le_of_ble_eq_true rfl) (Nat.le_of_eq (Nat.zero_add _)) (Nat.le_of_eq (Nat.zero_add _)) dX9_cannot_53 rfl rfl (s_X9_isLine ?_)
      refine r_cV (q := 59) (As := [.int _]) wc_X9_309 rfl im_X9_isNot se_X9_isNot h_37.m rfl rfl (Nat.le_of_ble_eq_true rfl) (Nat.le_of_eq (Nat.zero_add _)) (Nat.le_of_eq (Nat.zero_add _)) dX9_cannot_56 rfl rfl (s_X9_isNot h_37 fun M_56 h_56 => ?_)
      try simp only [sN_sN] at h_56
      refine r_if_eq (t := 64) (q := 62) dX9_cannot_59 rfl rfl (fun c59 => ?_) (fun c59 => ?_)
      · have il0 := bI_eq0.mp c59
        have ilt : isL (nI a) = true := by rw [Bool.not_eq_false'] at il0; exact il0
        have il : ¬ isL (nI a) = false := by rw [ilt]; decide
        have ha7 : a < 7 := by obtain ⟨j, hj, e⟩ := isL_t ilt; rw [nI_inj (by omega) (by omega) e]; exact hj
        rw [il0] at h_56
        refine r_aload_n (q := 65) dX9_cannot_64 rfl rfl ?_
        refine r_get (q := 68) (kk := 19) h_56.m rfl wi_RX9 (by decide) rfl fk_X9_69 rfl dX9_cannot_65 rfl ?_
        refine r_iload_n (q := 69) dX9_cannot_68 rfl rfl ?_
        refine r_ialdM (q := 70) h_56 (by decide) (by simp only [mLen]; omega) dX9_cannot_69 rfl ?_
        rw [gA_sNe, hK]
        · refine r_tableIn dX9_cannot_70 (by decide) (by decide) rfl rfl ?_
          refine r_aload_n (q := 226) dX9_cannot_225 rfl rfl ?_
          refine r_iload_n (q := 227) dX9_cannot_226 rfl rfl ?_
          refine r_iload_n (q := 228) dX9_cannot_227 rfl rfl ?_
          refine r_iconst (v := nI 1) (q := 229) dX9_cannot_228 (by decide) rfl ?_
          refine r_cV (q := 232) (As := [.int _, .int _, .int _]) wc_X9_196 rfl im_X9_isHushed se_X9_isHushed h_56.m rfl rfl (Nat.le_of_ble_eq_true rfl) (Nat.le_of_eq (Nat.zero_add _)) (Nat.le_of_eq (Nat.zero_add _)) dX9_cannot_229 rfl rfl (s_X9_isHushed h_56 ha7 ha7 (by rw [gA_sNe, hF]; exact hk.1 a ha7) (by decide) fun M_229 h_229 => ?_)
          try simp only [sN_sN] at h_229
          rw [gA_sNe, hF] at h_229 ⊢
          refine r_if_eq (t := 237) (q := 235) dX9_cannot_232 rfl rfl (fun c232 => ?_) (fun c232 => ?_)
          · have e0 := none_of c232
            have e : mCo F 119 a b c = no := by rw [mCo, if_neg (by decide), if_neg il, if_neg (by decide), if_neg (by decide), if_neg (by decide), if_pos rfl]; rw [e0]; rfl
            have ef : mCF F 119 a b c = whF F a := by rw [mCF, if_neg (by decide), if_neg (by decide), if_neg (by decide), if_neg (by decide), if_pos rfl]
            rw [e, ef] at hQ
            rw [e0] at h_229
            replace h_229 : RM G Λ ρ (sN μ 26 (bI false)) _ := h_229
            refine r_aload_n (q := 238) dX9_cannot_237 rfl rfl ?_
            refine r_iload_n (q := 239) dX9_cannot_238 rfl rfl ?_
            refine r_cV (q := 242) (As := [.int _]) wc_X9_199 rfl im_X9_whistles se_X9_whistles h_229.m rfl rfl (Nat.le_of_ble_eq_true rfl) (Nat.le_of_eq (Nat.zero_add _)) (Nat.le_of_eq (Nat.zero_add _)) dX9_cannot_239 rfl rfl (s_X9_whistles (F := F) (show RM G Λ ρ (sA (sN μ 26 (bI false)) 0 F) _ by rw [← hF, show sA (sN μ 26 (bI false)) 0 (gA μ 0) = sN μ 26 (bI false) from sA_self]; exact h_229) ha7 (hk.1 a ha7) (by have := mrHu_0 e0; omega) hk.2.1 fun M_239 h_239 => ?_)
            try simp only [sN_sN] at h_239
            refine r_istore_n (q := 243) dX9_cannot_242 (Nat.le_of_ble_eq_true rfl) rfl rfl ?_
            show AW _ (_, _, _, _, _, _, _, _, _) _ _ _ _ [some _, some _, some _, some _, some _, some _] _ _
            refine r_iconst (v := nI 0) (q := 244) dX9_cannot_243 (by decide) rfl ?_
            refine r_zret dX9_cannot_244 (by first | rfl | exact narrow_bI _) ?_
            exact hQ _ h_239
          · obtain ⟨x, e0⟩ := some_of c232
            have e : mCo F 119 a b c = (3, some x) := by rw [mCo, if_neg (by decide), if_neg il, if_neg (by decide), if_neg (by decide), if_neg (by decide), if_pos rfl]; rw [e0]; rfl
            rw [e] at hQ
            rw [e0] at h_229
            refine r_iconst (v := nI 1) (q := 236) dX9_cannot_235 (by decide) rfl ?_
            refine r_zret dX9_cannot_236 (by first | rfl | exact narrow_bI _) ?_
            exact hQ _ h_229
      · have il0 := bI_ne c59
        have il : isL (nI a) = false := by rw [Bool.not_eq_true'] at il0; exact il0
        have e : mCo F 119 a b c = (2, none) := by rw [mCo, if_neg (by decide), if_pos il]
        rw [il0] at h_56
        rw [e] at hQ
        refine r_iconst (v := nI 1) (q := 63) dX9_cannot_62 (by decide) rfl ?_
        refine r_zret dX9_cannot_63 (by first | rfl | exact narrow_bI _) ?_
        exact hQ _ h_56
  · refine r_aload_n (q := 3) dX9_cannot_2 rfl rfl ?_
    refine r_get (q := 6) (kk := 20) h.m rfl wi_RX9 (by decide) rfl fk_X9_72 rfl dX9_cannot_3 rfl ?_
    refine r_iconst (v := nI 3) (q := 7) dX9_cannot_6 (by decide) rfl ?_
    refine r_iload_n (q := 8) dX9_cannot_7 rfl rfl ?_
    refine r_imul (q := 9) dX9_cannot_8 rfl ?_
    rw [n_mul]
    refine r_ialdM (q := 10) h (by decide) (by simp only [mLen]; omega) dX9_cannot_9 rfl ?_
    rw [ha]
    refine r_istore_n (q := 11) dX9_cannot_10 (Nat.le_of_ble_eq_true rfl) rfl rfl ?_
    show AW _ (_, _, _, _, _, _, _, _, _) _ _ _ _ [some _, some _, some _, some _, _, _] _ _
    refine r_aload_n (q := 12) dX9_cannot_11 rfl rfl ?_
    refine r_get (q := 15) (kk := 20) h.m rfl wi_RX9 (by decide) rfl fk_X9_72 rfl dX9_cannot_12 rfl ?_
    refine r_iconst (v := nI 3) (q := 16) dX9_cannot_15 (by decide) rfl ?_
    refine r_iload_n (q := 17) dX9_cannot_16 rfl rfl ?_
    refine r_imul (q := 18) dX9_cannot_17 rfl ?_
    rw [n_mul]
    refine r_iconst (v := nI 1) (q := 19) dX9_cannot_18 (by decide) rfl ?_
    refine r_iadd (q := 20) dX9_cannot_19 rfl ?_
    rw [n_add]
    refine r_ialdM (q := 21) h (by decide) (by simp only [mLen]; omega) dX9_cannot_20 rfl ?_
    rw [hb]
    refine r_istore (q := 23) dX9_cannot_21 (Nat.le_of_ble_eq_true rfl) rfl rfl ?_
    show AW _ (_, _, _, _, _, _, _, _, _) _ _ _ _ [some _, some _, some _, some _, some _, _] _ _
    refine r_aload_n (q := 24) dX9_cannot_23 rfl rfl ?_
    refine r_get (q := 27) (kk := 20) h.m rfl wi_RX9 (by decide) rfl fk_X9_72 rfl dX9_cannot_24 rfl ?_
    refine r_iconst (v := nI 3) (q := 28) dX9_cannot_27 (by decide) rfl ?_
    refine r_iload_n (q := 29) dX9_cannot_28 rfl rfl ?_
    refine r_imul (q := 30) dX9_cannot_29 rfl ?_
    rw [n_mul]
    refine r_iconst (v := nI 2) (q := 31) dX9_cannot_30 (by decide) rfl ?_
    refine r_iadd (q := 32) dX9_cannot_31 rfl ?_
    rw [n_add]
    refine r_ialdM (q := 33) h (by decide) (by simp only [mLen]; omega) dX9_cannot_32 rfl ?_
    rw [hc]
    refine r_istore (q := 35) dX9_cannot_33 (Nat.le_of_ble_eq_true rfl) rfl rfl ?_
    show AW _ (_, _, _, _, _, _, _, _, _) _ _ _ _ [some _, some _, some _, some _, some _, some _] _ _
    refine r_aload_n (q := 36) dX9_cannot_35 rfl rfl ?_
    refine r_iconst (v := nI 0) (q := 37) dX9_cannot_36 (by decide) rfl ?_
    refine r_p9b (q := 40) (b := false) (kk := 26) h (Or.inr (Or.inr rfl)) rfl fk_X9_90 dX9_cannot_37 fun M_37 h_37 => ?_
    refine r_aload_n (q := 41) dX9_cannot_40 rfl rfl ?_
    refine r_get (q := 44) (kk := 19) h_37.m rfl wi_RX9 (by decide) rfl fk_X9_69 rfl dX9_cannot_41 rfl ?_
    refine r_iload_n (q := 45) dX9_cannot_44 rfl rfl ?_
    refine r_ialdM (q := 46) h_37 (by decide) (by simp only [mLen]; omega) dX9_cannot_45 rfl ?_
    rw [gA_sNe, hK]
    refine r_bipush (v := nI 104) (q := 48) dX9_cannot_46 (by decide) rfl ?_
    refine r_icmp_eq (t := 64) (q := 51) dX9_cannot_48 rfl rfl (fun c48 => ?_) (fun c48 => ?_)
    · exact absurd c48 (by decide)
    · refine r_aload_n (q := 52) dX9_cannot_51 rfl rfl ?_
      refine r_iload_n (q := 53) dX9_cannot_52 rfl rfl ?_
      refine r_cS (q := 56) (As := [.int _]) wc_X9_133 st_X9_isLine rfl (Nat.le_of_ble_eq_true rfl) (Nat.le_of_eq (Nat.zero_add _)) (Nat.le_of_eq (Nat.zero_add _)) dX9_cannot_53 rfl rfl (s_X9_isLine ?_)
      refine r_cV (q := 59) (As := [.int _]) wc_X9_309 rfl im_X9_isNot se_X9_isNot h_37.m rfl rfl (Nat.le_of_ble_eq_true rfl) (Nat.le_of_eq (Nat.zero_add _)) (Nat.le_of_eq (Nat.zero_add _)) dX9_cannot_56 rfl rfl (s_X9_isNot h_37 fun M_56 h_56 => ?_)
      try simp only [sN_sN] at h_56
      refine r_if_eq (t := 64) (q := 62) dX9_cannot_59 rfl rfl (fun c59 => ?_) (fun c59 => ?_)
      · have il0 := bI_eq0.mp c59
        have ilt : isL (nI a) = true := by rw [Bool.not_eq_false'] at il0; exact il0
        have il : ¬ isL (nI a) = false := by rw [ilt]; decide
        have ha7 : a < 7 := by obtain ⟨j, hj, e⟩ := isL_t ilt; rw [nI_inj (by omega) (by omega) e]; exact hj
        rw [il0] at h_56
        refine r_aload_n (q := 65) dX9_cannot_64 rfl rfl ?_
        refine r_get (q := 68) (kk := 19) h_56.m rfl wi_RX9 (by decide) rfl fk_X9_69 rfl dX9_cannot_65 rfl ?_
        refine r_iload_n (q := 69) dX9_cannot_68 rfl rfl ?_
        refine r_ialdM (q := 70) h_56 (by decide) (by simp only [mLen]; omega) dX9_cannot_69 rfl ?_
        rw [gA_sNe, hK]
        · refine r_tableIn dX9_cannot_70 (by decide) (by decide) rfl rfl ?_
          refine r_aload_n (q := 246) dX9_cannot_245 rfl rfl ?_
          refine r_iload (q := 248) dX9_cannot_246 rfl rfl ?_
          refine r_cS (q := 251) (As := [.int _]) wc_X9_133 st_X9_isLine rfl (Nat.le_of_ble_eq_true rfl) (Nat.le_of_eq (Nat.zero_add _)) (Nat.le_of_eq (Nat.zero_add _)) dX9_cannot_248 rfl rfl (s_X9_isLine ?_)
          refine r_if_eq (t := 264) (q := 254) dX9_cannot_251 rfl rfl (fun c251 => ?_) (fun c251 => ?_)
          · have ilb0 := bI_eq0.mp c251
            have e : mCo F 108 a b c = (2, none) := by rw [mCo, if_neg (by decide), if_neg il, if_neg (by decide), if_neg (by decide), if_neg (by decide), if_neg (by decide), if_pos rfl, if_pos (Or.inl ilb0)]
            rw [e] at hQ
            refine r_iconst (v := nI 0) (q := 265) dX9_cannot_264 (by decide) rfl ?_
            refine r_cV (q := 268) (As := [.int _]) wc_X9_309 rfl im_X9_isNot se_X9_isNot h_56.m rfl rfl (Nat.le_of_ble_eq_true rfl) (Nat.le_of_eq (Nat.zero_add _)) (Nat.le_of_eq (Nat.zero_add _)) dX9_cannot_265 rfl rfl (s_X9_isNot (b := false) h_56 fun M_265 h_265 => ?_)
            try simp only [sN_sN] at h_265
            refine r_if_ne (t := 282) (q := 271) dX9_cannot_268 rfl rfl (fun c268 => ?_) (fun c268 => ?_)
            · refine r_iconst (v := nI 1) (q := 283) dX9_cannot_282 (by decide) rfl ?_
              refine r_zret dX9_cannot_283 (by first | rfl | exact narrow_bI _) ?_
              exact hQ _ h_265
            · exact absurd c268 (by decide)
          · have ilb : ¬ isL (nI b) = false := by rw [bI_ne c251]; decide
            have hb7 : b < 7 := by obtain ⟨j, hj, e⟩ := isL_t (bI_ne c251); rw [nI_inj (by omega) (by omega) e]; exact hj
            refine r_iload_n (q := 255) dX9_cannot_254 rfl rfl ?_
            refine r_iload (q := 257) dX9_cannot_255 rfl rfl ?_
            refine r_icmp_eq (t := 264) (q := 260) dX9_cannot_257 rfl rfl (fun c257 => ?_) (fun c257 => ?_)
            · have hab0 : a = b := (nI_eq (by omega) (by omega)).mp c257
              have e : mCo F 108 a b c = (2, none) := by rw [mCo, if_neg (by decide), if_neg il, if_neg (by decide), if_neg (by decide), if_neg (by decide), if_neg (by decide), if_pos rfl, if_pos (Or.inr hab0)]
              rw [e] at hQ
              refine r_iconst (v := nI 0) (q := 265) dX9_cannot_264 (by decide) rfl ?_
              refine r_cV (q := 268) (As := [.int _]) wc_X9_309 rfl im_X9_isNot se_X9_isNot h_56.m rfl rfl (Nat.le_of_ble_eq_true rfl) (Nat.le_of_eq (Nat.zero_add _)) (Nat.le_of_eq (Nat.zero_add _)) dX9_cannot_265 rfl rfl (s_X9_isNot (b := false) h_56 fun M_265 h_265 => ?_)
              try simp only [sN_sN] at h_265
              refine r_if_ne (t := 282) (q := 271) dX9_cannot_268 rfl rfl (fun c268 => ?_) (fun c268 => ?_)
              · refine r_iconst (v := nI 1) (q := 283) dX9_cannot_282 (by decide) rfl ?_
                refine r_zret dX9_cannot_283 (by first | rfl | exact narrow_bI _) ?_
                exact hQ _ h_265
              · exact absurd c268 (by decide)
            · have hab : ¬ a = b := fun g => c257 (by rw [g])
              refine r_iconst (v := nI 1) (q := 261) dX9_cannot_260 (by decide) rfl ?_
              refine r_goto (t := 265) dX9_cannot_261 rfl ?_
              refine r_cV (q := 268) (As := [.int _]) wc_X9_309 rfl im_X9_isNot se_X9_isNot h_56.m rfl rfl (Nat.le_of_ble_eq_true rfl) (Nat.le_of_eq (Nat.zero_add _)) (Nat.le_of_eq (Nat.zero_add _)) dX9_cannot_265 rfl rfl (s_X9_isNot (b := true) h_56 fun M_265 h_265 => ?_)
              try simp only [sN_sN] at h_265
              refine r_if_ne (t := 282) (q := 271) dX9_cannot_268 rfl rfl (fun c268 => ?_) (fun c268 => ?_)
              · exact absurd rfl c268
              · refine r_aload_n (q := 272) dX9_cannot_271 rfl rfl ?_
                refine r_iload_n (q := 273) dX9_cannot_272 rfl rfl ?_
                refine r_iload (q := 275) dX9_cannot_273 rfl rfl ?_
                refine r_iconst (v := nI 2) (q := 276) dX9_cannot_275 (by decide) rfl ?_
                refine r_cV (q := 279) (As := [.int _, .int _, .int _]) wc_X9_196 rfl im_X9_isHushed se_X9_isHushed h_265.m rfl rfl (Nat.le_of_ble_eq_true rfl) (Nat.le_of_eq (Nat.zero_add _)) (Nat.le_of_eq (Nat.zero_add _)) dX9_cannot_276 rfl rfl (s_X9_isHushed h_265 ha7 hb7 (by rw [gA_sNe, hF]; exact hk.1 b hb7) (by decide) fun M_276 h_276 => ?_)
                try simp only [sN_sN] at h_276
                rw [gA_sNe, hF] at h_276 ⊢
                refine r_if_eq (t := 284) (q := 282) dX9_cannot_279 rfl rfl (fun c279 => ?_) (fun c279 => ?_)
                · have e0 := none_of c279
                  have e : mCo F 108 a b c = no := by rw [mCo, if_neg (by decide), if_neg il, if_neg (by decide), if_neg (by decide), if_neg (by decide), if_neg (by decide), if_pos rfl, if_neg (fun g => g.elim ilb hab)]; rw [e0]; rfl
                  have ef : mCF F 108 a b c = liF F a b := by rw [mCF, if_neg (by decide), if_neg (by decide), if_neg (by decide), if_neg (by decide), if_neg (by decide), if_pos rfl]
                  rw [e, ef] at hQ
                  rw [e0] at h_276
                  replace h_276 : RM G Λ ρ (sN μ 26 (bI false)) _ := h_276
                  refine r_aload_n (q := 285) dX9_cannot_284 rfl rfl ?_
                  refine r_iload_n (q := 286) dX9_cannot_285 rfl rfl ?_
                  refine r_iload (q := 288) dX9_cannot_286 rfl rfl ?_
                  refine r_cV (q := 291) (As := [.int _, .int _]) wc_X9_202 rfl im_X9_lies se_X9_lies h_276.m rfl rfl (Nat.le_of_ble_eq_true rfl) (Nat.le_of_eq (Nat.zero_add _)) (Nat.le_of_eq (Nat.zero_add _)) dX9_cannot_288 rfl rfl (s_X9_lies (F := F) (show RM G Λ ρ (sA (sN μ 26 (bI false)) 0 F) _ by rw [← hF, show sA (sN μ 26 (bI false)) 0 (gA μ 0) = sN μ 26 (bI false) from sA_self]; exact h_276) ha7 hb7 (hk.1 b hb7) (by have := mrHu_0 e0; omega) hk.2.1 fun M_288 h_288 => ?_)
                  try simp only [sN_sN] at h_288
                  refine r_istore_n (q := 292) dX9_cannot_291 (Nat.le_of_ble_eq_true rfl) rfl rfl ?_
                  show AW _ (_, _, _, _, _, _, _, _, _) _ _ _ _ [some _, some _, some _, some _, some _, some _] _ _
                  refine r_iconst (v := nI 0) (q := 293) dX9_cannot_292 (by decide) rfl ?_
                  refine r_zret dX9_cannot_293 (by first | rfl | exact narrow_bI _) ?_
                  exact hQ _ h_288
                · obtain ⟨x, e0⟩ := some_of c279
                  have e : mCo F 108 a b c = (3, some x) := by rw [mCo, if_neg (by decide), if_neg il, if_neg (by decide), if_neg (by decide), if_neg (by decide), if_neg (by decide), if_pos rfl, if_neg (fun g => g.elim ilb hab)]; rw [e0]; rfl
                  rw [e] at hQ
                  rw [e0] at h_276
                  refine r_iconst (v := nI 1) (q := 283) dX9_cannot_282 (by decide) rfl ?_
                  refine r_zret dX9_cannot_283 (by first | rfl | exact narrow_bI _) ?_
                  exact hQ _ h_276
      · have il0 := bI_ne c59
        have il : isL (nI a) = false := by rw [Bool.not_eq_true'] at il0; exact il0
        have e : mCo F 108 a b c = (2, none) := by rw [mCo, if_neg (by decide), if_pos il]
        rw [il0] at h_56
        rw [e] at hQ
        refine r_iconst (v := nI 1) (q := 63) dX9_cannot_62 (by decide) rfl ?_
        refine r_zret dX9_cannot_63 (by first | rfl | exact narrow_bI _) ?_
        exact hQ _ h_56
  · refine r_aload_n (q := 3) dX9_cannot_2 rfl rfl ?_
    refine r_get (q := 6) (kk := 20) h.m rfl wi_RX9 (by decide) rfl fk_X9_72 rfl dX9_cannot_3 rfl ?_
    refine r_iconst (v := nI 3) (q := 7) dX9_cannot_6 (by decide) rfl ?_
    refine r_iload_n (q := 8) dX9_cannot_7 rfl rfl ?_
    refine r_imul (q := 9) dX9_cannot_8 rfl ?_
    rw [n_mul]
    refine r_ialdM (q := 10) h (by decide) (by simp only [mLen]; omega) dX9_cannot_9 rfl ?_
    rw [ha]
    refine r_istore_n (q := 11) dX9_cannot_10 (Nat.le_of_ble_eq_true rfl) rfl rfl ?_
    show AW _ (_, _, _, _, _, _, _, _, _) _ _ _ _ [some _, some _, some _, some _, _, _] _ _
    refine r_aload_n (q := 12) dX9_cannot_11 rfl rfl ?_
    refine r_get (q := 15) (kk := 20) h.m rfl wi_RX9 (by decide) rfl fk_X9_72 rfl dX9_cannot_12 rfl ?_
    refine r_iconst (v := nI 3) (q := 16) dX9_cannot_15 (by decide) rfl ?_
    refine r_iload_n (q := 17) dX9_cannot_16 rfl rfl ?_
    refine r_imul (q := 18) dX9_cannot_17 rfl ?_
    rw [n_mul]
    refine r_iconst (v := nI 1) (q := 19) dX9_cannot_18 (by decide) rfl ?_
    refine r_iadd (q := 20) dX9_cannot_19 rfl ?_
    rw [n_add]
    refine r_ialdM (q := 21) h (by decide) (by simp only [mLen]; omega) dX9_cannot_20 rfl ?_
    rw [hb]
    refine r_istore (q := 23) dX9_cannot_21 (Nat.le_of_ble_eq_true rfl) rfl rfl ?_
    show AW _ (_, _, _, _, _, _, _, _, _) _ _ _ _ [some _, some _, some _, some _, some _, _] _ _
    refine r_aload_n (q := 24) dX9_cannot_23 rfl rfl ?_
    refine r_get (q := 27) (kk := 20) h.m rfl wi_RX9 (by decide) rfl fk_X9_72 rfl dX9_cannot_24 rfl ?_
    refine r_iconst (v := nI 3) (q := 28) dX9_cannot_27 (by decide) rfl ?_
    refine r_iload_n (q := 29) dX9_cannot_28 rfl rfl ?_
    refine r_imul (q := 30) dX9_cannot_29 rfl ?_
    rw [n_mul]
    refine r_iconst (v := nI 2) (q := 31) dX9_cannot_30 (by decide) rfl ?_
    refine r_iadd (q := 32) dX9_cannot_31 rfl ?_
    rw [n_add]
    refine r_ialdM (q := 33) h (by decide) (by simp only [mLen]; omega) dX9_cannot_32 rfl ?_
    rw [hc]
    refine r_istore (q := 35) dX9_cannot_33 (Nat.le_of_ble_eq_true rfl) rfl rfl ?_
    show AW _ (_, _, _, _, _, _, _, _, _) _ _ _ _ [some _, some _, some _, some _, some _, some _] _ _
    refine r_aload_n (q := 36) dX9_cannot_35 rfl rfl ?_
    refine r_iconst (v := nI 0) (q := 37) dX9_cannot_36 (by decide) rfl ?_
    refine r_p9b (q := 40) (b := false) (kk := 26) h (Or.inr (Or.inr rfl)) rfl fk_X9_90 dX9_cannot_37 fun M_37 h_37 => ?_
    refine r_aload_n (q := 41) dX9_cannot_40 rfl rfl ?_
    refine r_get (q := 44) (kk := 19) h_37.m rfl wi_RX9 (by decide) rfl fk_X9_69 rfl dX9_cannot_41 rfl ?_
    refine r_iload_n (q := 45) dX9_cannot_44 rfl rfl ?_
    refine r_ialdM (q := 46) h_37 (by decide) (by simp only [mLen]; omega) dX9_cannot_45 rfl ?_
    rw [gA_sNe, hK]
    refine r_bipush (v := nI 104) (q := 48) dX9_cannot_46 (by decide) rfl ?_
    refine r_icmp_eq (t := 64) (q := 51) dX9_cannot_48 rfl rfl (fun c48 => ?_) (fun c48 => ?_)
    · exact absurd c48 (by decide)
    · refine r_aload_n (q := 52) dX9_cannot_51 rfl rfl ?_
      refine r_iload_n (q := 53) dX9_cannot_52 rfl rfl ?_
      refine r_cS (q := 56) (As := [.int _]) wc_X9_133 st_X9_isLine rfl (Nat.le_of_ble_eq_true rfl) (Nat.le_of_eq (Nat.zero_add _)) (Nat.le_of_eq (Nat.zero_add _)) dX9_cannot_53 rfl rfl (s_X9_isLine ?_)
      refine r_cV (q := 59) (As := [.int _]) wc_X9_309 rfl im_X9_isNot se_X9_isNot h_37.m rfl rfl (Nat.le_of_ble_eq_true rfl) (Nat.le_of_eq (Nat.zero_add _)) (Nat.le_of_eq (Nat.zero_add _)) dX9_cannot_56 rfl rfl (s_X9_isNot h_37 fun M_56 h_56 => ?_)
      try simp only [sN_sN] at h_56
      refine r_if_eq (t := 64) (q := 62) dX9_cannot_59 rfl rfl (fun c59 => ?_) (fun c59 => ?_)
      · have il0 := bI_eq0.mp c59
        have ilt : isL (nI a) = true := by rw [Bool.not_eq_false'] at il0; exact il0
        have il : ¬ isL (nI a) = false := by rw [ilt]; decide
        have ha7 : a < 7 := by obtain ⟨j, hj, e⟩ := isL_t ilt; rw [nI_inj (by omega) (by omega) e]; exact hj
        rw [il0] at h_56
        refine r_aload_n (q := 65) dX9_cannot_64 rfl rfl ?_
        refine r_get (q := 68) (kk := 19) h_56.m rfl wi_RX9 (by decide) rfl fk_X9_69 rfl dX9_cannot_65 rfl ?_
        refine r_iload_n (q := 69) dX9_cannot_68 rfl rfl ?_
        refine r_ialdM (q := 70) h_56 (by decide) (by simp only [mLen]; omega) dX9_cannot_69 rfl ?_
        rw [gA_sNe, hK]
        · refine r_tableIn dX9_cannot_70 (by decide) (by decide) rfl rfl ?_
          refine r_aload_n (q := 295) dX9_cannot_294 rfl rfl ?_
          refine r_iload_n (q := 296) dX9_cannot_295 rfl rfl ?_
          refine r_cV (q := 299) (As := [.int _]) wc_X9_211 rfl im_X9_isRefusedExpose se_X9_isRefusedExpose h_56.m rfl rfl (Nat.le_of_ble_eq_true rfl) (Nat.le_of_eq (Nat.zero_add _)) (Nat.le_of_eq (Nat.zero_add _)) dX9_cannot_296 rfl rfl (s_X9_isRefusedExpose h_56 ha7 fun M_296 h_296 => ?_)
          try simp only [sN_sN] at h_296
          rw [gA_sNe, hF] at h_296 ⊢
          refine r_if_eq (t := 304) (q := 302) dX9_cannot_299 rfl rfl (fun c299 => ?_) (fun c299 => ?_)
          · have e0 := none_of c299
            have e9 : lF F a 9 = 2 := Decidable.byContradiction fun g => by rw [mrXp, if_neg g] at e0; cases e0
            obtain ⟨ap, hpa, hpn, hpw⟩ := hk.2.2.1 a ha7 e9
            have hap := mAt_eq (by have := hk.2.1.2.1; omega) hpn hpw
            have e : mCo F 120 a b c = no := by rw [mCo, if_neg (by decide), if_neg il, if_neg (by decide), if_neg (by decide), if_neg (by decide), if_neg (by decide), if_neg (by decide), if_pos rfl]; rw [e0]; rfl
            have ef : mCF F 120 a b c = exF F a ap := by rw [mCF, if_neg (by decide), if_neg (by decide), if_neg (by decide), if_neg (by decide), if_neg (by decide), if_neg (by decide), if_pos rfl, hap]
            rw [e, ef] at hQ
            rw [e0] at h_296
            replace h_296 : RM G Λ ρ (sN μ 26 (bI false)) _ := h_296
            refine r_aload_n (q := 305) dX9_cannot_304 rfl rfl ?_
            refine r_iload_n (q := 306) dX9_cannot_305 rfl rfl ?_
            refine r_cV (q := 309) (As := [.int _]) wc_X9_214 rfl im_X9_exposes se_X9_exposes h_296.m rfl rfl (Nat.le_of_ble_eq_true rfl) (Nat.le_of_eq (Nat.zero_add _)) (Nat.le_of_eq (Nat.zero_add _)) dX9_cannot_306 rfl rfl (s_X9_exposes (F := F) (show RM G Λ ρ (sA (sN μ 26 (bI false)) 0 F) _ by rw [← hF, show sA (sN μ 26 (bI false)) 0 (gA μ 0) = sN μ 26 (bI false) from sA_self]; exact h_296) ha7 hpa hpn hpw (by omega) hk.2.1.2.1 (hk.2.2.2.2.1 a ha7).2.2 (hk.2.2.2.2.1 a ha7).2.1 hk.2.2.2.2.2.1 fun M_306 h_306 => ?_)
            try simp only [sN_sN] at h_306
            refine r_istore_n (q := 310) dX9_cannot_309 (Nat.le_of_ble_eq_true rfl) rfl rfl ?_
            show AW _ (_, _, _, _, _, _, _, _, _) _ _ _ _ [some _, some _, some _, some _, some _, some _] _ _
            refine r_iconst (v := nI 0) (q := 311) dX9_cannot_310 (by decide) rfl ?_
            refine r_zret dX9_cannot_311 (by first | rfl | exact narrow_bI _) ?_
            exact hQ _ h_306
          · obtain ⟨x, e0⟩ := some_of c299
            have e : mCo F 120 a b c = (3, some x) := by rw [mCo, if_neg (by decide), if_neg il, if_neg (by decide), if_neg (by decide), if_neg (by decide), if_neg (by decide), if_neg (by decide), if_pos rfl]; rw [e0]; rfl
            rw [e] at hQ
            rw [e0] at h_296
            refine r_iconst (v := nI 1) (q := 303) dX9_cannot_302 (by decide) rfl ?_
            refine r_zret dX9_cannot_303 (by first | rfl | exact narrow_bI _) ?_
            exact hQ _ h_296
      · have il0 := bI_ne c59
        have il : isL (nI a) = false := by rw [Bool.not_eq_true'] at il0; exact il0
        have e : mCo F 120 a b c = (2, none) := by rw [mCo, if_neg (by decide), if_pos il]
        rw [il0] at h_56
        rw [e] at hQ
        refine r_iconst (v := nI 1) (q := 63) dX9_cannot_62 (by decide) rfl ?_
        refine r_zret dX9_cannot_63 (by first | rfl | exact narrow_bI _) ?_
        exact hQ _ h_56
  · refine r_aload_n (q := 3) dX9_cannot_2 rfl rfl ?_
    refine r_get (q := 6) (kk := 20) h.m rfl wi_RX9 (by decide) rfl fk_X9_72 rfl dX9_cannot_3 rfl ?_
    refine r_iconst (v := nI 3) (q := 7) dX9_cannot_6 (by decide) rfl ?_
    refine r_iload_n (q := 8) dX9_cannot_7 rfl rfl ?_
    refine r_imul (q := 9) dX9_cannot_8 rfl ?_
    rw [n_mul]
    refine r_ialdM (q := 10) h (by decide) (by simp only [mLen]; omega) dX9_cannot_9 rfl ?_
    rw [ha]
    refine r_istore_n (q := 11) dX9_cannot_10 (Nat.le_of_ble_eq_true rfl) rfl rfl ?_
    show AW _ (_, _, _, _, _, _, _, _, _) _ _ _ _ [some _, some _, some _, some _, _, _] _ _
    refine r_aload_n (q := 12) dX9_cannot_11 rfl rfl ?_
    refine r_get (q := 15) (kk := 20) h.m rfl wi_RX9 (by decide) rfl fk_X9_72 rfl dX9_cannot_12 rfl ?_
    refine r_iconst (v := nI 3) (q := 16) dX9_cannot_15 (by decide) rfl ?_
    refine r_iload_n (q := 17) dX9_cannot_16 rfl rfl ?_
    refine r_imul (q := 18) dX9_cannot_17 rfl ?_
    rw [n_mul]
    refine r_iconst (v := nI 1) (q := 19) dX9_cannot_18 (by decide) rfl ?_
    refine r_iadd (q := 20) dX9_cannot_19 rfl ?_
    rw [n_add]
    refine r_ialdM (q := 21) h (by decide) (by simp only [mLen]; omega) dX9_cannot_20 rfl ?_
    rw [hb]
    refine r_istore (q := 23) dX9_cannot_21 (Nat.le_of_ble_eq_true rfl) rfl rfl ?_
    show AW _ (_, _, _, _, _, _, _, _, _) _ _ _ _ [some _, some _, some _, some _, some _, _] _ _
    refine r_aload_n (q := 24) dX9_cannot_23 rfl rfl ?_
    refine r_get (q := 27) (kk := 20) h.m rfl wi_RX9 (by decide) rfl fk_X9_72 rfl dX9_cannot_24 rfl ?_
    refine r_iconst (v := nI 3) (q := 28) dX9_cannot_27 (by decide) rfl ?_
    refine r_iload_n (q := 29) dX9_cannot_28 rfl rfl ?_
    refine r_imul (q := 30) dX9_cannot_29 rfl ?_
    rw [n_mul]
    refine r_iconst (v := nI 2) (q := 31) dX9_cannot_30 (by decide) rfl ?_
    refine r_iadd (q := 32) dX9_cannot_31 rfl ?_
    rw [n_add]
    refine r_ialdM (q := 33) h (by decide) (by simp only [mLen]; omega) dX9_cannot_32 rfl ?_
    rw [hc]
    refine r_istore (q := 35) dX9_cannot_33 (Nat.le_of_ble_eq_true rfl) rfl rfl ?_
    show AW _ (_, _, _, _, _, _, _, _, _) _ _ _ _ [some _, some _, some _, some _, some _, some _] _ _
    refine r_aload_n (q := 36) dX9_cannot_35 rfl rfl ?_
    refine r_iconst (v := nI 0) (q := 37) dX9_cannot_36 (by decide) rfl ?_
    refine r_p9b (q := 40) (b := false) (kk := 26) h (Or.inr (Or.inr rfl)) rfl fk_X9_90 dX9_cannot_37 fun M_37 h_37 => ?_
    refine r_aload_n (q := 41) dX9_cannot_40 rfl rfl ?_
    refine r_get (q := 44) (kk := 19) h_37.m rfl wi_RX9 (by decide) rfl fk_X9_69 rfl dX9_cannot_41 rfl ?_
    refine r_iload_n (q := 45) dX9_cannot_44 rfl rfl ?_
    refine r_ialdM (q := 46) h_37 (by decide) (by simp only [mLen]; omega) dX9_cannot_45 rfl ?_
    rw [gA_sNe, hK]
    refine r_bipush (v := nI 104) (q := 48) dX9_cannot_46 (by decide) rfl ?_
    refine r_icmp_eq (t := 64) (q := 51) dX9_cannot_48 rfl rfl (fun c48 => ?_) (fun c48 => ?_)
    · exact absurd c48 (by decide)
    · refine r_aload_n (q := 52) dX9_cannot_51 rfl rfl ?_
      refine r_iload_n (q := 53) dX9_cannot_52 rfl rfl ?_
      refine r_cS (q := 56) (As := [.int _]) wc_X9_133 st_X9_isLine rfl (Nat.le_of_ble_eq_true rfl) (Nat.le_of_eq (Nat.zero_add _)) (Nat.le_of_eq (Nat.zero_add _)) dX9_cannot_53 rfl rfl (s_X9_isLine ?_)
      refine r_cV (q := 59) (As := [.int _]) wc_X9_309 rfl im_X9_isNot se_X9_isNot h_37.m rfl rfl (Nat.le_of_ble_eq_true rfl) (Nat.le_of_eq (Nat.zero_add _)) (Nat.le_of_eq (Nat.zero_add _)) dX9_cannot_56 rfl rfl (s_X9_isNot h_37 fun M_56 h_56 => ?_)
      try simp only [sN_sN] at h_56
      refine r_if_eq (t := 64) (q := 62) dX9_cannot_59 rfl rfl (fun c59 => ?_) (fun c59 => ?_)
      · have il0 := bI_eq0.mp c59
        have ilt : isL (nI a) = true := by rw [Bool.not_eq_false'] at il0; exact il0
        have il : ¬ isL (nI a) = false := by rw [ilt]; decide
        have ha7 : a < 7 := by obtain ⟨j, hj, e⟩ := isL_t ilt; rw [nI_inj (by omega) (by omega) e]; exact hj
        rw [il0] at h_56
        refine r_aload_n (q := 65) dX9_cannot_64 rfl rfl ?_
        refine r_get (q := 68) (kk := 19) h_56.m rfl wi_RX9 (by decide) rfl fk_X9_69 rfl dX9_cannot_65 rfl ?_
        refine r_iload_n (q := 69) dX9_cannot_68 rfl rfl ?_
        refine r_ialdM (q := 70) h_56 (by decide) (by simp only [mLen]; omega) dX9_cannot_69 rfl ?_
        rw [gA_sNe, hK]
        · refine r_tableIn dX9_cannot_70 (by decide) (by decide) rfl rfl ?_
          refine r_aload_n (q := 313) dX9_cannot_312 rfl rfl ?_
          refine r_iload (q := 315) dX9_cannot_313 rfl rfl ?_
          refine r_cS (q := 318) (As := [.int _]) wc_X9_220 st_X9_areHours rfl (Nat.le_of_ble_eq_true rfl) (Nat.le_of_eq (Nat.zero_add _)) (Nat.le_of_eq (Nat.zero_add _)) dX9_cannot_315 rfl rfl (s_X9_areHours ?_)
          refine r_cV (q := 321) (As := [.int _]) wc_X9_309 rfl im_X9_isNot se_X9_isNot h_56.m rfl rfl (Nat.le_of_ble_eq_true rfl) (Nat.le_of_eq (Nat.zero_add _)) (Nat.le_of_eq (Nat.zero_add _)) dX9_cannot_318 rfl rfl (s_X9_isNot h_56 fun M_318 h_318 => ?_)
          try simp only [sN_sN] at h_318
          refine r_if_ne (t := 332) (q := 324) dX9_cannot_321 rfl rfl (fun c321 => ?_) (fun c321 => ?_)
          · have ilb0 := bI_ne c321
            rw [Bool.not_eq_true'] at ilb0
            have e : mCo F 109 a b c = (2, none) := by rw [mCo, if_neg (by decide), if_neg il, if_neg (by decide), if_neg (by decide), if_neg (by decide), if_neg (by decide), if_neg (by decide), if_neg (by decide), if_pos rfl, if_pos ilb0]
            rw [e] at hQ
            rw [ilb0] at h_318
            refine r_iconst (v := nI 1) (q := 333) dX9_cannot_332 (by decide) rfl ?_
            refine r_zret dX9_cannot_333 (by first | rfl | exact narrow_bI _) ?_
            exact hQ _ h_318
          · have ilb1 := bI_eq0.mp c321
            rw [Bool.not_eq_false'] at ilb1
            have ilb : ¬ inI (nI b) (nI 1) (nI 9) = false := by rw [ilb1]; decide
            rw [ilb1] at h_318
            refine r_aload_n (q := 325) dX9_cannot_324 rfl rfl ?_
            refine r_iload_n (q := 326) dX9_cannot_325 rfl rfl ?_
            refine r_cV (q := 329) (As := [.int _]) wc_X9_223 rfl im_X9_isRefusedMute se_X9_isRefusedMute h_318.m rfl rfl (Nat.le_of_ble_eq_true rfl) (Nat.le_of_eq (Nat.zero_add _)) (Nat.le_of_eq (Nat.zero_add _)) dX9_cannot_326 rfl rfl (s_X9_isRefusedMute h_318 ha7 fun M_326 h_326 => ?_)
            try simp only [sN_sN] at h_326
            rw [gA_sNe, hF] at h_326 ⊢
            refine r_if_eq (t := 334) (q := 332) dX9_cannot_329 rfl rfl (fun c329 => ?_) (fun c329 => ?_)
            · have e0 := none_of c329
              have e : mCo F 109 a b c = no := by rw [mCo, if_neg (by decide), if_neg il, if_neg (by decide), if_neg (by decide), if_neg (by decide), if_neg (by decide), if_neg (by decide), if_neg (by decide), if_pos rfl, if_neg ilb]; rw [e0]; rfl
              have ef : mCF F 109 a b c = uL F a 5 b := by rw [mCF, if_neg (by decide), if_neg (by decide), if_neg (by decide), if_neg (by decide), if_neg (by decide), if_neg (by decide), if_neg (by decide), if_pos rfl]
              rw [e, ef] at hQ
              rw [e0] at h_326
              replace h_326 : RM G Λ ρ (sN μ 26 (bI false)) _ := h_326
              refine r_aload_n (q := 335) dX9_cannot_334 rfl rfl ?_
              refine r_iload_n (q := 336) dX9_cannot_335 rfl rfl ?_
              refine r_iload (q := 338) dX9_cannot_336 rfl rfl ?_
              refine r_cV (q := 341) (As := [.int _, .int _]) wc_X9_226 rfl im_X9_mutes se_X9_mutes h_326.m rfl rfl (Nat.le_of_ble_eq_true rfl) (Nat.le_of_eq (Nat.zero_add _)) (Nat.le_of_eq (Nat.zero_add _)) dX9_cannot_338 rfl rfl (s_X9_mutes (F := F) (show RM G Λ ρ (sA (sN μ 26 (bI false)) 0 F) _ by rw [← hF, show sA (sN μ 26 (bI false)) 0 (gA μ 0) = sN μ 26 (bI false) from sA_self]; exact h_326) ha7 (by omega) fun M_338 h_338 => ?_)
              try simp only [sN_sN] at h_338
              refine r_istore_n (q := 342) dX9_cannot_341 (Nat.le_of_ble_eq_true rfl) rfl rfl ?_
              show AW _ (_, _, _, _, _, _, _, _, _) _ _ _ _ [some _, some _, some _, some _, some _, some _] _ _
              refine r_iconst (v := nI 0) (q := 343) dX9_cannot_342 (by decide) rfl ?_
              refine r_zret dX9_cannot_343 (by first | rfl | exact narrow_bI _) ?_
              exact hQ _ h_338
            · obtain ⟨x, e0⟩ := some_of c329
              have e : mCo F 109 a b c = (3, some x) := by rw [mCo, if_neg (by decide), if_neg il, if_neg (by decide), if_neg (by decide), if_neg (by decide), if_neg (by decide), if_neg (by decide), if_neg (by decide), if_pos rfl, if_neg ilb]; rw [e0]; rfl
              rw [e] at hQ
              rw [e0] at h_326
              refine r_iconst (v := nI 1) (q := 333) dX9_cannot_332 (by decide) rfl ?_
              refine r_zret dX9_cannot_333 (by first | rfl | exact narrow_bI _) ?_
              exact hQ _ h_326
      · have il0 := bI_ne c59
        have il : isL (nI a) = false := by rw [Bool.not_eq_true'] at il0; exact il0
        have e : mCo F 109 a b c = (2, none) := by rw [mCo, if_neg (by decide), if_pos il]
        rw [il0] at h_56
        rw [e] at hQ
        refine r_iconst (v := nI 1) (q := 63) dX9_cannot_62 (by decide) rfl ?_
        refine r_zret dX9_cannot_63 (by first | rfl | exact narrow_bI _) ?_
        exact hQ _ h_56
  · refine r_aload_n (q := 3) dX9_cannot_2 rfl rfl ?_
    refine r_get (q := 6) (kk := 20) h.m rfl wi_RX9 (by decide) rfl fk_X9_72 rfl dX9_cannot_3 rfl ?_
    refine r_iconst (v := nI 3) (q := 7) dX9_cannot_6 (by decide) rfl ?_
    refine r_iload_n (q := 8) dX9_cannot_7 rfl rfl ?_
    refine r_imul (q := 9) dX9_cannot_8 rfl ?_
    rw [n_mul]
    refine r_ialdM (q := 10) h (by decide) (by simp only [mLen]; omega) dX9_cannot_9 rfl ?_
    rw [ha]
    refine r_istore_n (q := 11) dX9_cannot_10 (Nat.le_of_ble_eq_true rfl) rfl rfl ?_
    show AW _ (_, _, _, _, _, _, _, _, _) _ _ _ _ [some _, some _, some _, some _, _, _] _ _
    refine r_aload_n (q := 12) dX9_cannot_11 rfl rfl ?_
    refine r_get (q := 15) (kk := 20) h.m rfl wi_RX9 (by decide) rfl fk_X9_72 rfl dX9_cannot_12 rfl ?_
    refine r_iconst (v := nI 3) (q := 16) dX9_cannot_15 (by decide) rfl ?_
    refine r_iload_n (q := 17) dX9_cannot_16 rfl rfl ?_
    refine r_imul (q := 18) dX9_cannot_17 rfl ?_
    rw [n_mul]
    refine r_iconst (v := nI 1) (q := 19) dX9_cannot_18 (by decide) rfl ?_
    refine r_iadd (q := 20) dX9_cannot_19 rfl ?_
    rw [n_add]
    refine r_ialdM (q := 21) h (by decide) (by simp only [mLen]; omega) dX9_cannot_20 rfl ?_
    rw [hb]
    refine r_istore (q := 23) dX9_cannot_21 (Nat.le_of_ble_eq_true rfl) rfl rfl ?_
    show AW _ (_, _, _, _, _, _, _, _, _) _ _ _ _ [some _, some _, some _, some _, some _, _] _ _
    refine r_aload_n (q := 24) dX9_cannot_23 rfl rfl ?_
    refine r_get (q := 27) (kk := 20) h.m rfl wi_RX9 (by decide) rfl fk_X9_72 rfl dX9_cannot_24 rfl ?_
    refine r_iconst (v := nI 3) (q := 28) dX9_cannot_27 (by decide) rfl ?_
    refine r_iload_n (q := 29) dX9_cannot_28 rfl rfl ?_
    refine r_imul (q := 30) dX9_cannot_29 rfl ?_
    rw [n_mul]
    refine r_iconst (v := nI 2) (q := 31) dX9_cannot_30 (by decide) rfl ?_
    refine r_iadd (q := 32) dX9_cannot_31 rfl ?_
    rw [n_add]
    refine r_ialdM (q := 33) h (by decide) (by simp only [mLen]; omega) dX9_cannot_32 rfl ?_
    rw [hc]
    refine r_istore (q := 35) dX9_cannot_33 (Nat.le_of_ble_eq_true rfl) rfl rfl ?_
    show AW _ (_, _, _, _, _, _, _, _, _) _ _ _ _ [some _, some _, some _, some _, some _, some _] _ _
    refine r_aload_n (q := 36) dX9_cannot_35 rfl rfl ?_
    refine r_iconst (v := nI 0) (q := 37) dX9_cannot_36 (by decide) rfl ?_
    refine r_p9b (q := 40) (b := false) (kk := 26) h (Or.inr (Or.inr rfl)) rfl fk_X9_90 dX9_cannot_37 fun M_37 h_37 => ?_
    refine r_aload_n (q := 41) dX9_cannot_40 rfl rfl ?_
    refine r_get (q := 44) (kk := 19) h_37.m rfl wi_RX9 (by decide) rfl fk_X9_69 rfl dX9_cannot_41 rfl ?_
    refine r_iload_n (q := 45) dX9_cannot_44 rfl rfl ?_
    refine r_ialdM (q := 46) h_37 (by decide) (by simp only [mLen]; omega) dX9_cannot_45 rfl ?_
    rw [gA_sNe, hK]
    refine r_bipush (v := nI 104) (q := 48) dX9_cannot_46 (by decide) rfl ?_
    refine r_icmp_eq (t := 64) (q := 51) dX9_cannot_48 rfl rfl (fun c48 => ?_) (fun c48 => ?_)
    · exact absurd c48 (by decide)
    · refine r_aload_n (q := 52) dX9_cannot_51 rfl rfl ?_
      refine r_iload_n (q := 53) dX9_cannot_52 rfl rfl ?_
      refine r_cS (q := 56) (As := [.int _]) wc_X9_133 st_X9_isLine rfl (Nat.le_of_ble_eq_true rfl) (Nat.le_of_eq (Nat.zero_add _)) (Nat.le_of_eq (Nat.zero_add _)) dX9_cannot_53 rfl rfl (s_X9_isLine ?_)
      refine r_cV (q := 59) (As := [.int _]) wc_X9_309 rfl im_X9_isNot se_X9_isNot h_37.m rfl rfl (Nat.le_of_ble_eq_true rfl) (Nat.le_of_eq (Nat.zero_add _)) (Nat.le_of_eq (Nat.zero_add _)) dX9_cannot_56 rfl rfl (s_X9_isNot h_37 fun M_56 h_56 => ?_)
      try simp only [sN_sN] at h_56
      refine r_if_eq (t := 64) (q := 62) dX9_cannot_59 rfl rfl (fun c59 => ?_) (fun c59 => ?_)
      · have il0 := bI_eq0.mp c59
        have ilt : isL (nI a) = true := by rw [Bool.not_eq_false'] at il0; exact il0
        have il : ¬ isL (nI a) = false := by rw [ilt]; decide
        have ha7 : a < 7 := by obtain ⟨j, hj, e⟩ := isL_t ilt; rw [nI_inj (by omega) (by omega) e]; exact hj
        rw [il0] at h_56
        refine r_aload_n (q := 65) dX9_cannot_64 rfl rfl ?_
        refine r_get (q := 68) (kk := 19) h_56.m rfl wi_RX9 (by decide) rfl fk_X9_69 rfl dX9_cannot_65 rfl ?_
        refine r_iload_n (q := 69) dX9_cannot_68 rfl rfl ?_
        refine r_ialdM (q := 70) h_56 (by decide) (by simp only [mLen]; omega) dX9_cannot_69 rfl ?_
        rw [gA_sNe, hK]
        · refine r_tableIn dX9_cannot_70 (by decide) (by decide) rfl rfl ?_
          refine r_aload_n (q := 345) dX9_cannot_344 rfl rfl ?_
          refine r_iload_n (q := 346) dX9_cannot_345 rfl rfl ?_
          refine r_cV (q := 349) (As := [.int _]) wc_X9_229 rfl im_X9_isRefusedFine se_X9_isRefusedFine h_56.m rfl rfl (Nat.le_of_ble_eq_true rfl) (Nat.le_of_eq (Nat.zero_add _)) (Nat.le_of_eq (Nat.zero_add _)) dX9_cannot_346 rfl rfl (s_X9_isRefusedFine h_56 ha7 (by rw [gA_sNe, hF]; exact (hk.2.2.2.2.1 a ha7).2.1) fun M_346 h_346 => ?_)
          try simp only [sN_sN] at h_346
          rw [gA_sNe, hF] at h_346 ⊢
          refine r_if_eq (t := 354) (q := 352) dX9_cannot_349 rfl rfl (fun c349 => ?_) (fun c349 => ?_)
          · have e0 := none_of c349
            have e : mCo F 102 a b c = no := by rw [mCo, if_neg (by decide), if_neg il, if_neg (by decide), if_neg (by decide), if_neg (by decide), if_neg (by decide), if_neg (by decide), if_neg (by decide), if_neg (by decide)]; rw [e0]; rfl
            have ef : mCF F 102 a b c = payF F a := by rw [mCF, if_neg (by decide), if_neg (by decide), if_neg (by decide), if_neg (by decide), if_neg (by decide), if_neg (by decide), if_neg (by decide), if_neg (by decide)]
            rw [e, ef] at hQ
            rw [e0] at h_346
            replace h_346 : RM G Λ ρ (sN μ 26 (bI false)) _ := h_346
            refine r_aload_n (q := 355) dX9_cannot_354 rfl rfl ?_
            refine r_iload_n (q := 356) dX9_cannot_355 rfl rfl ?_
            refine r_cV (q := 359) (As := [.int _]) wc_X9_232 rfl im_X9_pays se_X9_pays h_346.m rfl rfl (Nat.le_of_ble_eq_true rfl) (Nat.le_of_eq (Nat.zero_add _)) (Nat.le_of_eq (Nat.zero_add _)) dX9_cannot_356 rfl rfl (s_X9_pays (F := F) (show RM G Λ ρ (sA (sN μ 26 (bI false)) 0 F) _ by rw [← hF, show sA (sN μ 26 (bI false)) 0 (gA μ 0) = sN μ 26 (bI false) from sA_self]; exact h_346) ha7 (mrFi_0 e0) (hk.2.2.2.2.1 a ha7).1 hk.2.2.2.2.2.2 fun M_356 h_356 => ?_)
            try simp only [sN_sN] at h_356
            refine r_istore_n (q := 360) dX9_cannot_359 (Nat.le_of_ble_eq_true rfl) rfl rfl ?_
            show AW _ (_, _, _, _, _, _, _, _, _) _ _ _ _ [some _, some _, some _, some _, some _, some _] _ _
            refine r_iconst (v := nI 0) (q := 361) dX9_cannot_360 (by decide) rfl ?_
            refine r_zret dX9_cannot_361 (by first | rfl | exact narrow_bI _) ?_
            exact hQ _ h_356
          · obtain ⟨x, e0⟩ := some_of c349
            have e : mCo F 102 a b c = (3, some x) := by rw [mCo, if_neg (by decide), if_neg il, if_neg (by decide), if_neg (by decide), if_neg (by decide), if_neg (by decide), if_neg (by decide), if_neg (by decide), if_neg (by decide)]; rw [e0]; rfl
            rw [e] at hQ
            rw [e0] at h_346
            refine r_iconst (v := nI 1) (q := 353) dX9_cannot_352 (by decide) rfl ?_
            refine r_zret dX9_cannot_353 (by first | rfl | exact narrow_bI _) ?_
            exact hQ _ h_346
      · have il0 := bI_ne c59
        have il : isL (nI a) = false := by rw [Bool.not_eq_true'] at il0; exact il0
        have e : mCo F 102 a b c = (2, none) := by rw [mCo, if_neg (by decide), if_pos il]
        rw [il0] at h_56
        rw [e] at hQ
        refine r_iconst (v := nI 1) (q := 63) dX9_cannot_62 (by decide) rfl ?_
        refine r_zret dX9_cannot_63 (by first | rfl | exact narrow_bI _) ?_
        exact hQ _ h_56
  · refine r_aload_n (q := 3) dX9_cannot_2 rfl rfl ?_
    refine r_get (q := 6) (kk := 20) h.m rfl wi_RX9 (by decide) rfl fk_X9_72 rfl dX9_cannot_3 rfl ?_
    refine r_iconst (v := nI 3) (q := 7) dX9_cannot_6 (by decide) rfl ?_
    refine r_iload_n (q := 8) dX9_cannot_7 rfl rfl ?_
    refine r_imul (q := 9) dX9_cannot_8 rfl ?_
    rw [n_mul]
    refine r_ialdM (q := 10) h (by decide) (by simp only [mLen]; omega) dX9_cannot_9 rfl ?_
    rw [ha]
    refine r_istore_n (q := 11) dX9_cannot_10 (Nat.le_of_ble_eq_true rfl) rfl rfl ?_
    show AW _ (_, _, _, _, _, _, _, _, _) _ _ _ _ [some _, some _, some _, some _, _, _] _ _
    refine r_aload_n (q := 12) dX9_cannot_11 rfl rfl ?_
    refine r_get (q := 15) (kk := 20) h.m rfl wi_RX9 (by decide) rfl fk_X9_72 rfl dX9_cannot_12 rfl ?_
    refine r_iconst (v := nI 3) (q := 16) dX9_cannot_15 (by decide) rfl ?_
    refine r_iload_n (q := 17) dX9_cannot_16 rfl rfl ?_
    refine r_imul (q := 18) dX9_cannot_17 rfl ?_
    rw [n_mul]
    refine r_iconst (v := nI 1) (q := 19) dX9_cannot_18 (by decide) rfl ?_
    refine r_iadd (q := 20) dX9_cannot_19 rfl ?_
    rw [n_add]
    refine r_ialdM (q := 21) h (by decide) (by simp only [mLen]; omega) dX9_cannot_20 rfl ?_
    rw [hb]
    refine r_istore (q := 23) dX9_cannot_21 (Nat.le_of_ble_eq_true rfl) rfl rfl ?_
    show AW _ (_, _, _, _, _, _, _, _, _) _ _ _ _ [some _, some _, some _, some _, some _, _] _ _
    refine r_aload_n (q := 24) dX9_cannot_23 rfl rfl ?_
    refine r_get (q := 27) (kk := 20) h.m rfl wi_RX9 (by decide) rfl fk_X9_72 rfl dX9_cannot_24 rfl ?_
    refine r_iconst (v := nI 3) (q := 28) dX9_cannot_27 (by decide) rfl ?_
    refine r_iload_n (q := 29) dX9_cannot_28 rfl rfl ?_
    refine r_imul (q := 30) dX9_cannot_29 rfl ?_
    rw [n_mul]
    refine r_iconst (v := nI 2) (q := 31) dX9_cannot_30 (by decide) rfl ?_
    refine r_iadd (q := 32) dX9_cannot_31 rfl ?_
    rw [n_add]
    refine r_ialdM (q := 33) h (by decide) (by simp only [mLen]; omega) dX9_cannot_32 rfl ?_
    rw [hc]
    refine r_istore (q := 35) dX9_cannot_33 (Nat.le_of_ble_eq_true rfl) rfl rfl ?_
    show AW _ (_, _, _, _, _, _, _, _, _) _ _ _ _ [some _, some _, some _, some _, some _, some _] _ _
    refine r_aload_n (q := 36) dX9_cannot_35 rfl rfl ?_
    refine r_iconst (v := nI 0) (q := 37) dX9_cannot_36 (by decide) rfl ?_
    refine r_p9b (q := 40) (b := false) (kk := 26) h (Or.inr (Or.inr rfl)) rfl fk_X9_90 dX9_cannot_37 fun M_37 h_37 => ?_
    refine r_aload_n (q := 41) dX9_cannot_40 rfl rfl ?_
    refine r_get (q := 44) (kk := 19) h_37.m rfl wi_RX9 (by decide) rfl fk_X9_69 rfl dX9_cannot_41 rfl ?_
    refine r_iload_n (q := 45) dX9_cannot_44 rfl rfl ?_
    refine r_ialdM (q := 46) h_37 (by decide) (by simp only [mLen]; omega) dX9_cannot_45 rfl ?_
    rw [gA_sNe, hK]
    refine r_bipush (v := nI 104) (q := 48) dX9_cannot_46 (by decide) rfl ?_
    refine r_icmp_eq (t := 64) (q := 51) dX9_cannot_48 rfl rfl (fun c48 => ?_) (fun c48 => ?_)
    · refine r_aload_n (q := 65) dX9_cannot_64 rfl rfl ?_
      refine r_get (q := 68) (kk := 19) h_37.m rfl wi_RX9 (by decide) rfl fk_X9_69 rfl dX9_cannot_65 rfl ?_
      refine r_iload_n (q := 69) dX9_cannot_68 rfl rfl ?_
      refine r_ialdM (q := 70) h_37 (by decide) (by simp only [mLen]; omega) dX9_cannot_69 rfl ?_
      rw [gA_sNe, hK]
      rw [show mCo F 104 a b c = no from rfl, show mCF F 104 a b c = gbF F (mWv F (mBest F)) from rfl] at hQ
      · refine r_tableIn dX9_cannot_70 (by decide) (by decide) rfl rfl ?_
        refine r_aload_n (q := 363) dX9_cannot_362 rfl rfl ?_
        refine r_cV (q := 366) (As := []) wc_X9_247 rfl im_X9_goesBy se_X9_goesBy h_37.m rfl rfl (Nat.le_of_ble_eq_true rfl) (Nat.le_of_eq (Nat.zero_add _)) (Nat.le_of_eq (Nat.zero_add _)) dX9_cannot_363 rfl rfl (x_goesBy (F := F) (show RM G Λ ρ (sA (sN μ 26 (bI false)) 0 F) _ by rw [← hF, show sA (sN μ 26 (bI false)) 0 (gA μ 0) = sN μ 26 (bI false) from sA_self]; exact h_37) hk.2.2.2.1 fun M_363 h_363 => ?_)
        try simp only [sN_sN] at h_363
        refine r_istore_n (q := 367) dX9_cannot_366 (Nat.le_of_ble_eq_true rfl) rfl rfl ?_
        show AW _ (_, _, _, _, _, _, _, _, _) _ _ _ _ [some _, some _, some _, some _, some _, some _] _ _
        refine r_iconst (v := nI 0) (q := 368) dX9_cannot_367 (by decide) rfl ?_
        refine r_zret dX9_cannot_368 (by first | rfl | exact narrow_bI _) ?_
        exact hQ _ h_363
    · exact absurd rfl c48
end W64
