/-! THE INPUT: a part, an order, the whole -/
section W33
variable {G : En} {Λ : Ob → Nat} {ρ : Me} {σ : Sg} {M : Me} {X : Fx} {d k n pc q : Nat} {lv : List (Option Value)} {st : List Value} {Q : Option Value → Me → Prop} {QX : String → Me → Prop} {S : St} {p : Nat} {l s : Int32}
theorem narrow_bI (b : Bool) : narrow .boolean (.int (bI b)) = .int (bI b) := by cases b <;> rfl
theorem s_X1_parsePart (h : RX G Λ ρ (iS σ S (nI p) l s) M) (hp : p ≤ (S.1 0).length) {c : Nat} (hc : c = 76 ∨ c = 58 ∨ c = 87 ∨ c = 61 ∨ c = 68 ∨ c = 62 ∨ c = 115 ∨ c = 117 ∨ c = 112 ∨ c = 119 ∨ c = 108 ∨ c = 120 ∨ c = 109 ∨ c = 102 ∨ c = 104) (hQ : ∀ M', RX G Λ ρ (iS σ S (nI (pPt (S.1 0) c (p, l, s)).2.1) (pPt (S.1 0) c (p, l, s)).2.2.1 (pPt (S.1 0) c (p, l, s)).2.2.2) M' → Q (some (.int (bI (pPt (S.1 0) c (p, l, s)).1))) M')  : MS G yX1_parsePart cX1_parsePart 2 (some .boolean) (d + 2) 0 0 [.ref (Λ (6, 0, 0)), .int (nI c)] M Q QX := by
  have hlen := u_len h (by decide : wR 11 0 = true)
  have hx := u_lt h (by decide : wR 11 0 = true) p
  refine MS.of (by decide) (by simp [Value.category]) (Nat.le_of_ble_eq_true rfl) ?_
  show AW _ (_, _, _, _, _, _, _, _, _) _ _ _ _ [some _, some _] _ _
  refine r_iload_n (q := 1) dX1_parsePart_0 rfl rfl ?_
  rcases hc with rfl | rfl | rfl | rfl | rfl | rfl | rfl | rfl | rfl | rfl | rfl | rfl | rfl | rfl | rfl
  · refine r_lookup dX1_parsePart_1 (by decide) (off := 35) rfl rfl ?_
    refine r_aload_n (q := 37) dX1_parsePart_36 rfl rfl ?_
    refine r_aload_n (q := 38) dX1_parsePart_37 rfl rfl ?_
    refine r_get (q := 41) (kk := 0) h.inp rfl wi_RX1 (by decide) rfl fk_X1_14 rfl dX1_parsePart_38 rfl ?_
    refine r_aload_n (q := 42) dX1_parsePart_41 rfl rfl ?_
    refine r_get (q := 45) (kk := 4) h.inp rfl wi_RX1 (by decide) rfl fk_X1_29 rfl dX1_parsePart_42 rfl ?_
    rw [iM7]
    refine r_cV (q := 48) (As := [.int _]) wc_X1_50 rfl im_X2_at se_X2_at (h.row (by decide)) rfl rfl (Nat.le_of_ble_eq_true rfl) (Nat.le_of_eq (Nat.zero_add _)) (Nat.le_of_eq (Nat.zero_add _)) dX1_parsePart_45 rfl rfl (u_at h (by decide) (by omega) ?_)
    refine r_bipush (v := nI 48) (q := 50) dX1_parsePart_48 (by decide) rfl ?_
    refine r_isub (q := 51) dX1_parsePart_50 rfl ?_
    refine r_p1 (q := 54) (kk := 5) (j := 8) h (by decide) rfl fk_X1_33 dX1_parsePart_51 rfl fun M_51 h_51 => ?_
    try simp only [iS7, iS8, iS9] at h_51
    refine r_aload_n (q := 55) dX1_parsePart_54 rfl rfl ?_
    refine r_cV (q := 58) (As := []) wc_X1_102 rfl im_X1_parseDigit se_X1_parseDigit h_51.inp rfl rfl (Nat.le_of_ble_eq_true rfl) (Nat.le_of_eq (Nat.zero_add _)) (Nat.le_of_eq (Nat.zero_add _)) dX1_parsePart_55 rfl rfl (s_X1_parseDigit h_51 hp fun M_55 h_55 => ?_)
    try simp only [iS7, iS8, iS9] at h_55
    refine r_zret dX1_parsePart_58 (by first | rfl | exact narrow_bI _) ?_
    exact hQ _ h_55
  · refine r_lookup dX1_parsePart_1 (by decide) (off := 86) rfl rfl ?_
    refine r_aload_n (q := 88) dX1_parsePart_87 rfl rfl ?_
    refine r_iload_n (q := 89) dX1_parsePart_88 rfl rfl ?_
    refine r_cV (q := 92) (As := [.int _]) wc_X1_59 rfl im_X1_parseSign se_X1_parseSign h.inp rfl rfl (Nat.le_of_ble_eq_true rfl) (Nat.le_of_eq (Nat.zero_add _)) (Nat.le_of_eq (Nat.zero_add _)) dX1_parsePart_89 rfl rfl (s_X1_parseSign h hp (by decide) fun M_89 h_89 => ?_)
    try simp only [iS7, iS8, iS9] at h_89
    refine r_zret dX1_parsePart_92 (by first | rfl | exact narrow_bI _) ?_
    exact hQ _ h_89
  · refine r_lookup dX1_parsePart_1 (by decide) (off := 81) rfl rfl ?_
    refine r_aload_n (q := 83) dX1_parsePart_82 rfl rfl ?_
    refine r_cV (q := 86) (As := []) wc_X1_105 rfl im_X1_parseWord se_X1_parseWord h.inp rfl rfl (Nat.le_of_ble_eq_true rfl) (Nat.le_of_eq (Nat.zero_add _)) (Nat.le_of_eq (Nat.zero_add _)) dX1_parsePart_83 rfl rfl (s_X1_parseWord h hp fun M_83 h_83 => ?_)
    try simp only [iS7, iS8, iS9] at h_83
    refine r_zret dX1_parsePart_86 (by first | rfl | exact narrow_bI _) ?_
    exact hQ _ h_83
  · refine r_lookup dX1_parsePart_1 (by decide) (off := 86) rfl rfl ?_
    refine r_aload_n (q := 88) dX1_parsePart_87 rfl rfl ?_
    refine r_iload_n (q := 89) dX1_parsePart_88 rfl rfl ?_
    refine r_cV (q := 92) (As := [.int _]) wc_X1_59 rfl im_X1_parseSign se_X1_parseSign h.inp rfl rfl (Nat.le_of_ble_eq_true rfl) (Nat.le_of_eq (Nat.zero_add _)) (Nat.le_of_eq (Nat.zero_add _)) dX1_parsePart_89 rfl rfl (s_X1_parseSign h hp (by decide) fun M_89 h_89 => ?_)
    try simp only [iS7, iS8, iS9] at h_89
    refine r_zret dX1_parsePart_92 (by first | rfl | exact narrow_bI _) ?_
    exact hQ _ h_89
  · refine r_lookup dX1_parsePart_1 (by decide) (off := 58) rfl rfl ?_
    refine r_aload_n (q := 60) dX1_parsePart_59 rfl rfl ?_
    refine r_aload_n (q := 61) dX1_parsePart_60 rfl rfl ?_
    refine r_get (q := 64) (kk := 0) h.inp rfl wi_RX1 (by decide) rfl fk_X1_14 rfl dX1_parsePart_61 rfl ?_
    refine r_aload_n (q := 65) dX1_parsePart_64 rfl rfl ?_
    refine r_get (q := 68) (kk := 4) h.inp rfl wi_RX1 (by decide) rfl fk_X1_29 rfl dX1_parsePart_65 rfl ?_
    rw [iM7]
    refine r_cV (q := 71) (As := [.int _]) wc_X1_50 rfl im_X2_at se_X2_at (h.row (by decide)) rfl rfl (Nat.le_of_ble_eq_true rfl) (Nat.le_of_eq (Nat.zero_add _)) (Nat.le_of_eq (Nat.zero_add _)) dX1_parsePart_68 rfl rfl (u_at h (by decide) (by omega) ?_)
    refine r_bipush (v := nI 48) (q := 73) dX1_parsePart_71 (by decide) rfl ?_
    refine r_isub (q := 74) dX1_parsePart_73 rfl ?_
    refine r_p1 (q := 77) (kk := 6) (j := 9) h (by decide) rfl fk_X1_36 dX1_parsePart_74 rfl fun M_74 h_74 => ?_
    try simp only [iS7, iS8, iS9] at h_74
    refine r_aload_n (q := 78) dX1_parsePart_77 rfl rfl ?_
    refine r_cV (q := 81) (As := []) wc_X1_102 rfl im_X1_parseDigit se_X1_parseDigit h_74.inp rfl rfl (Nat.le_of_ble_eq_true rfl) (Nat.le_of_eq (Nat.zero_add _)) (Nat.le_of_eq (Nat.zero_add _)) dX1_parsePart_78 rfl rfl (s_X1_parseDigit h_74 hp fun M_78 h_78 => ?_)
    try simp only [iS7, iS8, iS9] at h_78
    refine r_zret dX1_parsePart_81 (by first | rfl | exact narrow_bI _) ?_
    exact hQ _ h_78
  · refine r_lookup dX1_parsePart_1 (by decide) (off := 86) rfl rfl ?_
    refine r_aload_n (q := 88) dX1_parsePart_87 rfl rfl ?_
    refine r_iload_n (q := 89) dX1_parsePart_88 rfl rfl ?_
    refine r_cV (q := 92) (As := [.int _]) wc_X1_59 rfl im_X1_parseSign se_X1_parseSign h.inp rfl rfl (Nat.le_of_ble_eq_true rfl) (Nat.le_of_eq (Nat.zero_add _)) (Nat.le_of_eq (Nat.zero_add _)) dX1_parsePart_89 rfl rfl (s_X1_parseSign h hp (by decide) fun M_89 h_89 => ?_)
    try simp only [iS7, iS8, iS9] at h_89
    refine r_zret dX1_parsePart_92 (by first | rfl | exact narrow_bI _) ?_
    exact hQ _ h_89
  · refine r_lookup dX1_parsePart_1 (by decide) (off := 86) rfl rfl ?_
    refine r_aload_n (q := 88) dX1_parsePart_87 rfl rfl ?_
    refine r_iload_n (q := 89) dX1_parsePart_88 rfl rfl ?_
    refine r_cV (q := 92) (As := [.int _]) wc_X1_59 rfl im_X1_parseSign se_X1_parseSign h.inp rfl rfl (Nat.le_of_ble_eq_true rfl) (Nat.le_of_eq (Nat.zero_add _)) (Nat.le_of_eq (Nat.zero_add _)) dX1_parsePart_89 rfl rfl (s_X1_parseSign h hp (by decide) fun M_89 h_89 => ?_)
    try simp only [iS7, iS8, iS9] at h_89
    refine r_zret dX1_parsePart_92 (by first | rfl | exact narrow_bI _) ?_
    exact hQ _ h_89
  · refine r_lookup dX1_parsePart_1 (by decide) (off := 86) rfl rfl ?_
    refine r_aload_n (q := 88) dX1_parsePart_87 rfl rfl ?_
    refine r_iload_n (q := 89) dX1_parsePart_88 rfl rfl ?_
    refine r_cV (q := 92) (As := [.int _]) wc_X1_59 rfl im_X1_parseSign se_X1_parseSign h.inp rfl rfl (Nat.le_of_ble_eq_true rfl) (Nat.le_of_eq (Nat.zero_add _)) (Nat.le_of_eq (Nat.zero_add _)) dX1_parsePart_89 rfl rfl (s_X1_parseSign h hp (by decide) fun M_89 h_89 => ?_)
    try simp only [iS7, iS8, iS9] at h_89
    refine r_zret dX1_parsePart_92 (by first | rfl | exact narrow_bI _) ?_
    exact hQ _ h_89
  · refine r_lookup dX1_parsePart_1 (by decide) (off := 86) rfl rfl ?_
    refine r_aload_n (q := 88) dX1_parsePart_87 rfl rfl ?_
    refine r_iload_n (q := 89) dX1_parsePart_88 rfl rfl ?_
    refine r_cV (q := 92) (As := [.int _]) wc_X1_59 rfl im_X1_parseSign se_X1_parseSign h.inp rfl rfl (Nat.le_of_ble_eq_true rfl) (Nat.le_of_eq (Nat.zero_add _)) (Nat.le_of_eq (Nat.zero_add _)) dX1_parsePart_89 rfl rfl (s_X1_parseSign h hp (by decide) fun M_89 h_89 => ?_)
    try simp only [iS7, iS8, iS9] at h_89
    refine r_zret dX1_parsePart_92 (by first | rfl | exact narrow_bI _) ?_
    exact hQ _ h_89
  · refine r_lookup dX1_parsePart_1 (by decide) (off := 86) rfl rfl ?_
    refine r_aload_n (q := 88) dX1_parsePart_87 rfl rfl ?_
    refine r_iload_n (q := 89) dX1_parsePart_88 rfl rfl ?_
    refine r_cV (q := 92) (As := [.int _]) wc_X1_59 rfl im_X1_parseSign se_X1_parseSign h.inp rfl rfl (Nat.le_of_ble_eq_true rfl) (Nat.le_of_eq (Nat.zero_add _)) (Nat.le_of_eq (Nat.zero_add _)) dX1_parsePart_89 rfl rfl (s_X1_parseSign h hp (by decide) fun M_89 h_89 => ?_)
    try simp only [iS7, iS8, iS9] at h_89
    refine r_zret dX1_parsePart_92 (by first | rfl | exact narrow_bI _) ?_
    exact hQ _ h_89
  · refine r_lookup dX1_parsePart_1 (by decide) (off := 86) rfl rfl ?_
    refine r_aload_n (q := 88) dX1_parsePart_87 rfl rfl ?_
    refine r_iload_n (q := 89) dX1_parsePart_88 rfl rfl ?_
    refine r_cV (q := 92) (As := [.int _]) wc_X1_59 rfl im_X1_parseSign se_X1_parseSign h.inp rfl rfl (Nat.le_of_ble_eq_true rfl) (Nat.le_of_eq (Nat.zero_add _)) (Nat.le_of_eq (Nat.zero_add _)) dX1_parsePart_89 rfl rfl (s_X1_parseSign h hp (by decide) fun M_89 h_89 => ?_)
    try simp only [iS7, iS8, iS9] at h_89
    refine r_zret dX1_parsePart_92 (by first | rfl | exact narrow_bI _) ?_
    exact hQ _ h_89
  · refine r_lookup dX1_parsePart_1 (by decide) (off := 86) rfl rfl ?_
    refine r_aload_n (q := 88) dX1_parsePart_87 rfl rfl ?_
    refine r_iload_n (q := 89) dX1_parsePart_88 rfl rfl ?_
    refine r_cV (q := 92) (As := [.int _]) wc_X1_59 rfl im_X1_parseSign se_X1_parseSign h.inp rfl rfl (Nat.le_of_ble_eq_true rfl) (Nat.le_of_eq (Nat.zero_add _)) (Nat.le_of_eq (Nat.zero_add _)) dX1_parsePart_89 rfl rfl (s_X1_parseSign h hp (by decide) fun M_89 h_89 => ?_)
    try simp only [iS7, iS8, iS9] at h_89
    refine r_zret dX1_parsePart_92 (by first | rfl | exact narrow_bI _) ?_
    exact hQ _ h_89
  · refine r_lookup dX1_parsePart_1 (by decide) (off := 86) rfl rfl ?_
    refine r_aload_n (q := 88) dX1_parsePart_87 rfl rfl ?_
    refine r_iload_n (q := 89) dX1_parsePart_88 rfl rfl ?_
    refine r_cV (q := 92) (As := [.int _]) wc_X1_59 rfl im_X1_parseSign se_X1_parseSign h.inp rfl rfl (Nat.le_of_ble_eq_true rfl) (Nat.le_of_eq (Nat.zero_add _)) (Nat.le_of_eq (Nat.zero_add _)) dX1_parsePart_89 rfl rfl (s_X1_parseSign h hp (by decide) fun M_89 h_89 => ?_)
    try simp only [iS7, iS8, iS9] at h_89
    refine r_zret dX1_parsePart_92 (by first | rfl | exact narrow_bI _) ?_
    exact hQ _ h_89
  · refine r_lookup dX1_parsePart_1 (by decide) (off := 86) rfl rfl ?_
    refine r_aload_n (q := 88) dX1_parsePart_87 rfl rfl ?_
    refine r_iload_n (q := 89) dX1_parsePart_88 rfl rfl ?_
    refine r_cV (q := 92) (As := [.int _]) wc_X1_59 rfl im_X1_parseSign se_X1_parseSign h.inp rfl rfl (Nat.le_of_ble_eq_true rfl) (Nat.le_of_eq (Nat.zero_add _)) (Nat.le_of_eq (Nat.zero_add _)) dX1_parsePart_89 rfl rfl (s_X1_parseSign h hp (by decide) fun M_89 h_89 => ?_)
    try simp only [iS7, iS8, iS9] at h_89
    refine r_zret dX1_parsePart_92 (by first | rfl | exact narrow_bI _) ?_
    exact hQ _ h_89
  · refine r_lookup dX1_parsePart_1 (by decide) (off := 86) rfl rfl ?_
    refine r_aload_n (q := 88) dX1_parsePart_87 rfl rfl ?_
    refine r_iload_n (q := 89) dX1_parsePart_88 rfl rfl ?_
    refine r_cV (q := 92) (As := [.int _]) wc_X1_59 rfl im_X1_parseSign se_X1_parseSign h.inp rfl rfl (Nat.le_of_ble_eq_true rfl) (Nat.le_of_eq (Nat.zero_add _)) (Nat.le_of_eq (Nat.zero_add _)) dX1_parsePart_89 rfl rfl (s_X1_parseSign h hp (by decide) fun M_89 h_89 => ?_)
    try simp only [iS7, iS8, iS9] at h_89
    refine r_zret dX1_parsePart_92 (by first | rfl | exact narrow_bI _) ?_
    exact hQ _ h_89
theorem shp {k : Nat} : ¬ (102 ≤ k ∧ k ≤ 120) ∨ k = 102 ∨ k = 103 ∨ k = 104 ∨ k = 105 ∨ k = 106 ∨ k = 107 ∨ k = 108 ∨ k = 109 ∨ k = 110 ∨ k = 111 ∨ k = 112 ∨ k = 113 ∨ k = 114 ∨ k = 115 ∨ k = 116 ∨ k = 117 ∨ k = 118 ∨ k = 119 ∨ k = 120 := by omega
theorem s_X1_shapeOf {k : Nat} (hk : k < 128) (hQ : Q (some (.ref (G.2.2.2.2.1 (pIx k)))) M)  : MS G yX1_shapeOf cX1_shapeOf 1 (some (.object "java/lang/String")) d 0 0 [.int (nI k)] M Q QX := by
  refine MS.of (by decide) (by simp [Value.category]) (Nat.le_of_ble_eq_true rfl) ?_
  show AW _ (_, _, _, _, _, _, _, _, _) _ _ _ _ [some _] _ _
  refine r_iload_n (q := 1) dX1_shapeOf_0 rfl rfl ?_
  rcases shp (k := k) with hz | rfl | rfl | rfl | rfl | rfl | rfl | rfl | rfl | rfl | rfl | rfl | rfl | rfl | rfl | rfl | rfl | rfl | rfl | rfl
  · refine r_tableOut dX1_shapeOf_1 (pIx_out k hk hz).2 rfl ?_
    rw [(pIx_out k hk hz).1] at hQ
    refine r_ldcS (q := 121) dX1_shapeOf_119 (j := 9) rfl rfl ?_
    refine r_aret dX1_shapeOf_121 (Or.inl ⟨_, rfl⟩) (Or.inr ⟨_, rfl⟩) ?_
    exact hQ
  · refine r_tableIn dX1_shapeOf_1 (by decide) (by decide) rfl rfl ?_
    refine r_ldcS (q := 115) dX1_shapeOf_113 (j := 7) rfl rfl ?_
    refine r_aret dX1_shapeOf_115 (Or.inl ⟨_, rfl⟩) (Or.inr ⟨_, rfl⟩) ?_
    exact hQ
  · refine r_tableIn dX1_shapeOf_1 (by decide) (by decide) rfl rfl ?_
    refine r_ldcS (q := 121) dX1_shapeOf_119 (j := 9) rfl rfl ?_
    refine r_aret dX1_shapeOf_121 (Or.inl ⟨_, rfl⟩) (Or.inr ⟨_, rfl⟩) ?_
    exact hQ
  · refine r_tableIn dX1_shapeOf_1 (by decide) (by decide) rfl rfl ?_
    refine r_ldcS (q := 118) dX1_shapeOf_116 (j := 8) rfl rfl ?_
    refine r_aret dX1_shapeOf_118 (Or.inl ⟨_, rfl⟩) (Or.inr ⟨_, rfl⟩) ?_
    exact hQ
  · refine r_tableIn dX1_shapeOf_1 (by decide) (by decide) rfl rfl ?_
    refine r_ldcS (q := 121) dX1_shapeOf_119 (j := 9) rfl rfl ?_
    refine r_aret dX1_shapeOf_121 (Or.inl ⟨_, rfl⟩) (Or.inr ⟨_, rfl⟩) ?_
    exact hQ
  · refine r_tableIn dX1_shapeOf_1 (by decide) (by decide) rfl rfl ?_
    refine r_ldcS (q := 121) dX1_shapeOf_119 (j := 9) rfl rfl ?_
    refine r_aret dX1_shapeOf_121 (Or.inl ⟨_, rfl⟩) (Or.inr ⟨_, rfl⟩) ?_
    exact hQ
  · refine r_tableIn dX1_shapeOf_1 (by decide) (by decide) rfl rfl ?_
    refine r_ldcS (q := 121) dX1_shapeOf_119 (j := 9) rfl rfl ?_
    refine r_aret dX1_shapeOf_121 (Or.inl ⟨_, rfl⟩) (Or.inr ⟨_, rfl⟩) ?_
    exact hQ
  · refine r_tableIn dX1_shapeOf_1 (by decide) (by decide) rfl rfl ?_
    refine r_ldcS (q := 106) dX1_shapeOf_104 (j := 4) rfl rfl ?_
    refine r_aret dX1_shapeOf_106 (Or.inl ⟨_, rfl⟩) (Or.inr ⟨_, rfl⟩) ?_
    exact hQ
  · refine r_tableIn dX1_shapeOf_1 (by decide) (by decide) rfl rfl ?_
    refine r_ldcS (q := 112) dX1_shapeOf_110 (j := 6) rfl rfl ?_
    refine r_aret dX1_shapeOf_112 (Or.inl ⟨_, rfl⟩) (Or.inr ⟨_, rfl⟩) ?_
    exact hQ
  · refine r_tableIn dX1_shapeOf_1 (by decide) (by decide) rfl rfl ?_
    refine r_ldcS (q := 121) dX1_shapeOf_119 (j := 9) rfl rfl ?_
    refine r_aret dX1_shapeOf_121 (Or.inl ⟨_, rfl⟩) (Or.inr ⟨_, rfl⟩) ?_
    exact hQ
  · refine r_tableIn dX1_shapeOf_1 (by decide) (by decide) rfl rfl ?_
    refine r_ldcS (q := 121) dX1_shapeOf_119 (j := 9) rfl rfl ?_
    refine r_aret dX1_shapeOf_121 (Or.inl ⟨_, rfl⟩) (Or.inr ⟨_, rfl⟩) ?_
    exact hQ
  · refine r_tableIn dX1_shapeOf_1 (by decide) (by decide) rfl rfl ?_
    refine r_ldcS (q := 100) dX1_shapeOf_98 (j := 2) rfl rfl ?_
    refine r_aret dX1_shapeOf_100 (Or.inl ⟨_, rfl⟩) (Or.inr ⟨_, rfl⟩) ?_
    exact hQ
  · refine r_tableIn dX1_shapeOf_1 (by decide) (by decide) rfl rfl ?_
    refine r_ldcS (q := 121) dX1_shapeOf_119 (j := 9) rfl rfl ?_
    refine r_aret dX1_shapeOf_121 (Or.inl ⟨_, rfl⟩) (Or.inr ⟨_, rfl⟩) ?_
    exact hQ
  · refine r_tableIn dX1_shapeOf_1 (by decide) (by decide) rfl rfl ?_
    refine r_ldcS (q := 121) dX1_shapeOf_119 (j := 9) rfl rfl ?_
    refine r_aret dX1_shapeOf_121 (Or.inl ⟨_, rfl⟩) (Or.inr ⟨_, rfl⟩) ?_
    exact hQ
  · refine r_tableIn dX1_shapeOf_1 (by decide) (by decide) rfl rfl ?_
    refine r_ldcS (q := 94) dX1_shapeOf_92 (j := 0) rfl rfl ?_
    refine r_aret dX1_shapeOf_94 (Or.inl ⟨_, rfl⟩) (Or.inr ⟨_, rfl⟩) ?_
    exact hQ
  · refine r_tableIn dX1_shapeOf_1 (by decide) (by decide) rfl rfl ?_
    refine r_ldcS (q := 121) dX1_shapeOf_119 (j := 9) rfl rfl ?_
    refine r_aret dX1_shapeOf_121 (Or.inl ⟨_, rfl⟩) (Or.inr ⟨_, rfl⟩) ?_
    exact hQ
  · refine r_tableIn dX1_shapeOf_1 (by decide) (by decide) rfl rfl ?_
    refine r_ldcS (q := 97) dX1_shapeOf_95 (j := 1) rfl rfl ?_
    refine r_aret dX1_shapeOf_97 (Or.inl ⟨_, rfl⟩) (Or.inr ⟨_, rfl⟩) ?_
    exact hQ
  · refine r_tableIn dX1_shapeOf_1 (by decide) (by decide) rfl rfl ?_
    refine r_ldcS (q := 121) dX1_shapeOf_119 (j := 9) rfl rfl ?_
    refine r_aret dX1_shapeOf_121 (Or.inl ⟨_, rfl⟩) (Or.inr ⟨_, rfl⟩) ?_
    exact hQ
  · refine r_tableIn dX1_shapeOf_1 (by decide) (by decide) rfl rfl ?_
    refine r_ldcS (q := 103) dX1_shapeOf_101 (j := 3) rfl rfl ?_
    refine r_aret dX1_shapeOf_103 (Or.inl ⟨_, rfl⟩) (Or.inr ⟨_, rfl⟩) ?_
    exact hQ
  · refine r_tableIn dX1_shapeOf_1 (by decide) (by decide) rfl rfl ?_
    refine r_ldcS (q := 109) dX1_shapeOf_107 (j := 5) rfl rfl ?_
    refine r_aret dX1_shapeOf_109 (Or.inl ⟨_, rfl⟩) (Or.inr ⟨_, rfl⟩) ?_
    exact hQ
theorem pOr_9 {x : PI} (h : pIx ((S.1 0).getD x.1 0) = 9) : pOr S x = (false, S, x) := if_pos h
theorem pOr_f {x : PI} {y : Bool × PI} (h : ¬ pIx ((S.1 0).getD x.1 0) = 9) (hy : pPs (S.1 0) (pIx ((S.1 0).getD x.1 0)) (kLen (pIx ((S.1 0).getD x.1 0))) 0 (x.1, nI 0, nI 0) = y) (h1 : y.1 = false) : pOr S x = (false, S, y.2) := by
  unfold pOr
  rw [if_neg h, hy, if_neg (by rw [h1]; decide)]
theorem pOr_t {x : PI} {y : Bool × PI} (h : ¬ pIx ((S.1 0).getD x.1 0) = 9) (hy : pPs (S.1 0) (pIx ((S.1 0).getD x.1 0)) (kLen (pIx ((S.1 0).getD x.1 0))) 0 (x.1, nI 0, nI 0) = y) (h1 : y.1 = true) : pOr S x = (true, uR (uR (uR S 1 (rAdd 60 (S.1 1) ((S.1 0).getD x.1 0))) 2 (rAdd 60 (S.1 2) y.2.2.1.toNatClampNeg)) 3 (rAdd 60 (S.1 3) y.2.2.2.toNatClampNeg), y.2) := by
  unfold pOr
  rw [if_neg h, hy, if_pos h1]
theorem kCh_ne {i j : Nat} (hi : i < 10) (hj : j < kLen i) : kCh i j ≠ 0 := fun e => by have := kCh_in i hi j hj; omega
theorem s_X1_parseOrder (h : RX G Λ ρ (iS σ S (nI p) l s) M) (hp : p ≤ (S.1 0).length) (hch : ∀ x ∈ S.1 0, x < 128) (hQ : ∀ M', RX G Λ ρ (iS σ (pOr S (p, l, s)).2.1 (nI (pOr S (p, l, s)).2.2.1) (pOr S (p, l, s)).2.2.2.1 (pOr S (p, l, s)).2.2.2.2) M' → Q (some (.int (bI (pOr S (p, l, s)).1))) M')  : MS G yX1_parseOrder cX1_parseOrder 4 (some .boolean) (d + 4) 0 0 [.ref (Λ (6, 0, 0))] M Q QX := by
  have hlen := u_len h (by decide : wR 11 0 = true)
  have hx := u_lt h (by decide : wR 11 0 = true) p
  have hx2 : (S.1 0).getD p 0 < 128 := getD_all (by decide) hch p
  refine MS.of (by decide) (by simp [Value.category]) (Nat.le_of_ble_eq_true rfl) ?_
  show AW _ (_, _, _, _, _, _, _, _, _) _ _ _ _ [some _, _, _, _] _ _
  refine r_aload_n (q := 1) dX1_parseOrder_0 rfl rfl ?_
  refine r_get (q := 4) (kk := 0) h.inp rfl wi_RX1 (by decide) rfl fk_X1_14 rfl dX1_parseOrder_1 rfl ?_
  refine r_aload_n (q := 5) dX1_parseOrder_4 rfl rfl ?_
  refine r_get (q := 8) (kk := 4) h.inp rfl wi_RX1 (by decide) rfl fk_X1_29 rfl dX1_parseOrder_5 rfl ?_
  rw [iM7]
  refine r_cV (q := 11) (As := [.int _]) wc_X1_50 rfl im_X2_at se_X2_at (h.row (by decide)) rfl rfl (Nat.le_of_ble_eq_true rfl) (Nat.le_of_eq (Nat.zero_add _)) (Nat.le_of_eq (Nat.zero_add _)) dX1_parseOrder_8 rfl rfl (u_at h (by decide) (by omega) ?_)
  refine r_istore_n (q := 12) dX1_parseOrder_11 (Nat.le_of_ble_eq_true rfl) rfl rfl ?_
  show AW _ (_, _, _, _, _, _, _, _, _) _ _ _ _ [some _, some _, _, _] _ _
  refine r_iload_n (q := 13) dX1_parseOrder_12 rfl rfl ?_
  refine r_cS (q := 16) (As := [.int _]) wc_X1_63 st_X1_shapeOf rfl (Nat.le_of_ble_eq_true rfl) (Nat.le_of_eq (Nat.zero_add _)) (Nat.le_of_eq (Nat.zero_add _)) dX1_parseOrder_13 rfl rfl (s_X1_shapeOf hx2 ?_)
  obtain ⟨i, hi0⟩ : ∃ i, i = pIx ((S.1 0).getD p 0) := ⟨_, rfl⟩
  have hi : i < 10 := hi0 ▸ pIx_lt _
  rw [← hi0]
  refine r_astore_n (q := 17) dX1_parseOrder_16 (Nat.le_of_ble_eq_true rfl) rfl rfl ?_
  show AW _ (_, _, _, _, _, _, _, _, _) _ _ _ _ [some _, some _, some _, _] _ _
  refine r_aload_n (q := 18) dX1_parseOrder_17 rfl rfl ?_
  refine r_invK (q := 21) (As := []) hi wc_X1_67 rfl im_J0_isEmpty_aae02 se_J0_isEmpty_aae02 rfl (Nat.le_of_ble_eq_true rfl) (Nat.le_of_eq (Nat.zero_add _)) (Nat.le_of_eq (Nat.zero_add _)) dX1_parseOrder_18 rfl rfl (s_J0_isEmpty_aae02 hi ?_)
  refine r_if_eq (t := 26) (q := 24) dX1_parseOrder_21 rfl rfl (fun c21 => ?_) (fun c21 => ?_)
  · have h9 : ¬ pIx ((S.1 0).getD p 0) = 9 := by
      rw [← hi0]
      rintro rfl
      exact absurd (bI_eq0.mp c21) (by decide)
    refine r_aload_n (q := 27) dX1_parseOrder_26 rfl rfl ?_
    refine r_iconst (v := nI 0) (q := 28) dX1_parseOrder_27 (by decide) rfl ?_
    refine r_p1 (q := 31) (kk := 5) (j := 8) h (by decide) rfl fk_X1_33 dX1_parseOrder_28 rfl fun M_28 h_28 => ?_
    try simp only [iS7, iS8, iS9] at h_28
    refine r_aload_n (q := 32) dX1_parseOrder_31 rfl rfl ?_
    refine r_iconst (v := nI 0) (q := 33) dX1_parseOrder_32 (by decide) rfl ?_
    refine r_p1 (q := 36) (kk := 6) (j := 9) h_28 (by decide) rfl fk_X1_36 dX1_parseOrder_33 rfl fun M_33 h_33 => ?_
    try simp only [iS7, iS8, iS9] at h_33
    refine r_iconst (v := nI 0) (q := 37) dX1_parseOrder_36 (by decide) rfl ?_
    refine r_istore_n (q := 38) dX1_parseOrder_37 (Nat.le_of_ble_eq_true rfl) rfl rfl ?_
    show AW _ (_, _, _, _, _, _, _, _, _) _ _ _ _ [some _, some _, some _, some _] _ _
    have loop : ∀ (m : Nat) j (M1 : Me) (x : PI), m = kLen i - j → j ≤ kLen i → pPs (S.1 0) i (kLen i) 0 (p, nI 0, nI 0) = pPs (S.1 0) i (kLen i - j) j x → x.1 ≤ (S.1 0).length → okN x.2.1 → okN x.2.2 → RX G Λ ρ (iS σ S (nI x.1) x.2.1 x.2.2) M1 → AW G (wX G yX1_parseOrder cX1_parseOrder 4 (some .boolean) 0 0 Q QX) (d + 4) 0 0 38 [some (.ref (Λ (6, 0, 0))), some (.int (nI ((S.1 0).getD p 0))), some (.ref (G.2.2.2.2.1 i)), some (.int (nI j))] [] M1 := by
      intro m
      induction m using Nat.strongRecOn with
      | _ m ih =>
      intro j M1 x hm hj hg hxp ok1 ok2 h1
      subst hm
      have hkl := kLen_lt i hi
      refine r_iload_n (q := 39) dX1_parseOrder_38 rfl rfl ?_
      refine r_aload_n (q := 40) dX1_parseOrder_39 rfl rfl ?_
      refine r_invK (q := 43) (As := []) hi wc_X1_72 rfl im_J0_length_8abf5 se_J0_length_8abf5 rfl (Nat.le_of_ble_eq_true rfl) (Nat.le_of_eq (Nat.zero_add _)) (Nat.le_of_eq (Nat.zero_add _)) dX1_parseOrder_40 rfl rfl (s_J0_length_8abf5 hi ?_)
      refine r_icmp_ge (t := 66) (q := 46) dX1_parseOrder_43 rfl rfl (fun c43 => ?_) (fun c43 => ?_)
      · simp (disch := omega) only [nI_leI, nI_ltI, nI_eq, nI_lt0, nI_ge0, nI_gt0, nI_le0, nI_eq0] at c43
        replace hg : pPs (S.1 0) i (kLen i) 0 (p, nI 0, nI 0) = (true, x) := by rw [hg, show kLen i - j = 0 by omega]; rfl
        refine r_aload_n (q := 67) dX1_parseOrder_66 rfl rfl ?_
        refine r_get (q := 70) (kk := 1) h1.inp rfl wi_RX1 (by decide) rfl fk_X1_20 rfl dX1_parseOrder_67 rfl ?_
        refine r_iload_n (q := 71) dX1_parseOrder_70 rfl rfl ?_
        refine r_cV (q := 74) (As := [.int _]) wc_X1_47 rfl im_X2_add se_X2_add (h1.row (by decide)) rfl rfl (Nat.le_of_ble_eq_true rfl) (Nat.le_of_eq (Nat.zero_add _)) (Nat.le_of_eq (Nat.zero_add _)) dX1_parseOrder_71 rfl rfl (u_add h1 (by decide) rfl hx fun M_71 h1_71 => ?_)
        try simp only [iS7, iS8, iS9] at h1_71
        refine r_aload_n (q := 75) dX1_parseOrder_74 rfl rfl ?_
        refine r_get (q := 78) (kk := 2) h1_71.inp rfl wi_RX1 (by decide) rfl fk_X1_23 rfl dX1_parseOrder_75 rfl ?_
        refine r_aload_n (q := 79) dX1_parseOrder_78 rfl rfl ?_
        refine r_get (q := 82) (kk := 5) h1_71.inp rfl wi_RX1 (by decide) rfl fk_X1_33 rfl dX1_parseOrder_79 rfl ?_
        rw [iM8]
        refine r_cV (q := 85) (As := [.int _]) wc_X1_47 rfl im_X2_add se_X2_add (h1_71.row (by decide)) rfl rfl (Nat.le_of_ble_eq_true rfl) (Nat.le_of_eq (Nat.zero_add _)) (Nat.le_of_eq (Nat.zero_add _)) dX1_parseOrder_82 rfl rfl (u_add h1_71 (by decide) (okN_c ok1).1 (okN_c ok1).2 fun M_82 h1_82 => ?_)
        try simp only [iS7, iS8, iS9] at h1_82
        refine r_aload_n (q := 86) dX1_parseOrder_85 rfl rfl ?_
        refine r_get (q := 89) (kk := 3) h1_82.inp rfl wi_RX1 (by decide) rfl fk_X1_26 rfl dX1_parseOrder_86 rfl ?_
        refine r_aload_n (q := 90) dX1_parseOrder_89 rfl rfl ?_
        refine r_get (q := 93) (kk := 6) h1_82.inp rfl wi_RX1 (by decide) rfl fk_X1_36 rfl dX1_parseOrder_90 rfl ?_
        rw [iM9]
        refine r_cV (q := 96) (As := [.int _]) wc_X1_47 rfl im_X2_add se_X2_add (h1_82.row (by decide)) rfl rfl (Nat.le_of_ble_eq_true rfl) (Nat.le_of_eq (Nat.zero_add _)) (Nat.le_of_eq (Nat.zero_add _)) dX1_parseOrder_93 rfl rfl (u_add h1_82 (by decide) (okN_c ok2).1 (okN_c ok2).2 fun M_93 h1_93 => ?_)
        try simp only [iS7, iS8, iS9] at h1_93
        refine r_iconst (v := nI 1) (q := 97) dX1_parseOrder_96 (by decide) rfl ?_
        refine r_zret dX1_parseOrder_97 (by first | rfl | exact narrow_bI _) ?_
        rw [hi0] at hg
        rw [pOr_t (x := (p, l, s)) h9 hg rfl] at hQ
        exact hQ _ h1_93
      · simp (disch := omega) only [nI_leI, nI_ltI, nI_eq, nI_lt0, nI_ge0, nI_gt0, nI_le0, nI_eq0] at c43
        replace c43 := Nat.lt_of_not_le c43
        refine r_aload_n (q := 47) dX1_parseOrder_46 rfl rfl ?_
        refine r_aload_n (q := 48) dX1_parseOrder_47 rfl rfl ?_
        refine r_iload_n (q := 49) dX1_parseOrder_48 rfl rfl ?_
        refine r_invK (q := 52) (As := [.int _]) hi wc_X1_75 rfl im_J0_charAt_5068e se_J0_charAt_5068e rfl (Nat.le_of_ble_eq_true rfl) (Nat.le_of_eq (Nat.zero_add _)) (Nat.le_of_eq (Nat.zero_add _)) dX1_parseOrder_49 rfl rfl (s_J0_charAt_5068e hi c43 ?_)
        refine r_cV (q := 55) (As := [.int _]) wc_X1_79 rfl im_X1_parsePart se_X1_parsePart h1.inp rfl rfl (Nat.le_of_ble_eq_true rfl) (Nat.le_of_eq (Nat.zero_add _)) (Nat.le_of_eq (Nat.zero_add _)) dX1_parseOrder_52 rfl rfl (s_X1_parsePart h1 hxp (kCh_in i hi j c43) fun M_52 h1_52 => ?_)
        try simp only [iS7, iS8, iS9] at h1_52
        refine r_if_ne (t := 60) (q := 58) dX1_parseOrder_55 rfl rfl (fun c55 => ?_) (fun c55 => ?_)
        · refine r_inc1 (q := 63) dX1_parseOrder_60 rfl (Nat.le_of_ble_eq_true rfl) rfl rfl ?_
          show AW _ (_, _, _, _, _, _, _, _, _) _ _ _ _ [some _, some _, some _, some _] _ _
          refine r_goto (t := 38) dX1_parseOrder_63 rfl ?_
          have hok := pPt_ok (bI_ne c55) hxp ok1 ok2
          refine ih (kLen i - (j + 1)) (by omega) (j + 1) _ (pPt (S.1 0) (kCh i j) x).2 rfl (by omega) ?_ (pPt_le (kCh_ne hi c43) hxp) hok.1 hok.2 h1_52
          rw [hg, show kLen i - j = kLen i - (j + 1) + 1 by omega, pPs, if_pos (bI_ne c55)]
        · replace hg : pPs (S.1 0) i (kLen i) 0 (p, nI 0, nI 0) = (false, (pPt (S.1 0) (kCh i j) x).2) := by rw [hg, show kLen i - j = kLen i - (j + 1) + 1 by omega, pPs, if_neg (by rw [bI_eq0.mp c55]; decide)]
          refine r_iconst (v := nI 0) (q := 59) dX1_parseOrder_58 (by decide) rfl ?_
          refine r_zret dX1_parseOrder_59 (by first | rfl | exact narrow_bI _) ?_
          subst hi0
          rw [pOr_f (x := (p, l, s)) h9 hg rfl] at hQ
          exact hQ _ h1_52
    exact loop _ 0 _ (p, nI 0, nI 0) rfl (by omega) rfl hp ⟨0, by decide, rfl⟩ ⟨0, by decide, rfl⟩ h_33
  · rw [pOr_9 (x := (p, l, s)) (by rw [← hi0]; exact pIx_9 i hi (of_decide_eq_true (bI_ne c21)))] at hQ
    refine r_iconst (v := nI 0) (q := 25) dX1_parseOrder_24 (by decide) rfl ?_
    refine r_zret dX1_parseOrder_25 (by first | rfl | exact narrow_bI _) ?_
    exact hQ _ h
theorem pPs_le {L : List Nat} {i : Nat} (hi : i < 10) : ∀ (r j : Nat) (x : PI), j + r = kLen i → x.1 ≤ L.length → (pPs L i r j x).2.1 ≤ L.length := by
  intro r
  induction r with
  | zero => exact fun j x _ h => h
  | succ r ih =>
    intro j x hj hx
    have h1 := pPt_le (L := L) (kCh_ne hi (by omega : j < kLen i)) hx
    rw [pPs]
    split
    · exact ih (j + 1) _ (by omega) h1
    · exact h1
theorem pOr_le {x : PI} (hx : x.1 ≤ (S.1 0).length) : (pOr S x).2.2.1 ≤ (S.1 0).length ∧ (pOr S x).2.1.1 0 = S.1 0 := by
  have h1 := pPs_le (L := S.1 0) (pIx_lt ((S.1 0).getD x.1 0)) _ 0 (x.1, nI 0, nI 0) (Nat.zero_add _) hx
  unfold pOr
  split
  · exact ⟨hx, rfl⟩
  · split
    · exact ⟨h1, rfl⟩
    · exact ⟨h1, rfl⟩
/-- one more order behind a semicolon -/
def pNx (y : Bool × St × PI) : Bool × St × PI := if (pSg (y.2.1.1 0) 59 y.2.2.1).1 = true then pOr y.2.1 ((pSg (y.2.1.1 0) 59 y.2.2.1).2, y.2.2.2) else (false, y.2.1, y.2.2)
def pLp : Nat → Bool × St × PI → Bool × St × PI
  | 0, y => y
  | r + 1, y => if y.1 = true ∧ y.2.2.1 < (y.2.1.1 0).length then pLp r (pNx y) else y
def pClr (S : St) : St := uR (uR (uR S 1 []) 2 []) 3 []
def pPar (S : St) (l s : Int32) : Bool × St × PI := pLp 60 (pOr (pClr S) (0, l, s))
theorem pNx_f {y : Bool × St × PI} (h : (pSg (y.2.1.1 0) 59 y.2.2.1).1 = false) : pNx y = (false, y.2.1, y.2.2) := if_neg (by rw [h]; decide)
theorem pNx_t {y : Bool × St × PI} (h : (pSg (y.2.1.1 0) 59 y.2.2.1).1 = true) : pNx y = pOr y.2.1 ((pSg (y.2.1.1 0) 59 y.2.2.1).2, y.2.2.2) := if_pos h
theorem pSg_f {L : List Nat} {c p : Nat} (h : (pSg L c p).1 = false) : (pSg L c p).2 = p := by
  unfold pSg at h ⊢
  split at h
  · cases h
  · rename_i e; rw [if_neg e]
theorem bI_nI1 : bI true = nI 1 := rfl
theorem bI_nI0 : bI false = nI 0 := rfl
theorem s_X1_parse (h : RX G Λ ρ (iS σ S (nI p) l s) M) (hch : ∀ x ∈ S.1 0, x < 128) (hQ : ∀ M', RX G Λ ρ (iS σ (pPar S l s).2.1 (nI (pPar S l s).2.2.1) (pPar S l s).2.2.2.1 (pPar S l s).2.2.2.2) M' → Q (some (.int (bI (pPar S l s).1))) M')  : MS G yX1_parse cX1_parse 3 (some .boolean) (d + 5) 0 0 [.ref (Λ (6, 0, 0))] M Q QX := by
  have loop : ∀ (m : Nat) j (M1 : Me) (y : Bool × St × PI), m = 60 - j → j ≤ 60 → pPar S l s = pLp (60 - j) y → y.2.2.1 ≤ (y.2.1.1 0).length → (∀ x ∈ y.2.1.1 0, x < 128) → RX G Λ ρ (iS σ y.2.1 (nI y.2.2.1) y.2.2.2.1 y.2.2.2.2) M1 → AW G (wX G yX1_parse cX1_parse 3 (some .boolean) 0 0 Q QX) (d + 5) 0 0 39 [some (.ref (Λ (6, 0, 0))), some (.int (bI y.1)), some (.int (nI j))] [] M1 := by
    intro m
    induction m using Nat.strongRecOn with
    | _ m ih =>
    intro j M1 y hm hj hg hyp hch h1
    subst hm
    refine r_iload_n (q := 40) dX1_parse_39 rfl rfl ?_
    refine r_bipush (v := nI 60) (q := 42) dX1_parse_40 (by decide) rfl ?_
    refine r_icmp_ge (t := 88) (q := 45) dX1_parse_42 rfl rfl (fun c42 => ?_) (fun c42 => ?_)
    · simp (disch := omega) only [nI_leI, nI_ltI, nI_eq, nI_lt0, nI_ge0, nI_gt0, nI_le0, nI_eq0] at c42
      replace hg : pPar S l s = y := by rw [hg, show 60 - j = 0 by omega]; rfl
      refine r_iload_n (q := 89) dX1_parse_88 rfl rfl ?_
      refine r_zret dX1_parse_89 (by first | rfl | exact narrow_bI _) ?_
      rw [hg] at hQ
      exact hQ _ h1
    · simp (disch := omega) only [nI_leI, nI_ltI, nI_eq, nI_lt0, nI_ge0, nI_gt0, nI_le0, nI_eq0] at c42
      refine r_iload_n (q := 46) dX1_parse_45 rfl rfl ?_
      have hlen9 := u_len h1 (by decide : wR 11 0 = true)
      refine r_if_eq (t := 88) (q := 49) dX1_parse_46 rfl rfl (fun c46 => ?_) (fun c46 => ?_)
      · replace hg : pPar S l s = y := by rw [hg, show 60 - j = 60 - (j + 1) + 1 by omega, pLp, if_neg (fun g => by rw [bI_eq0.mp c46] at g; cases g.1)]
        refine r_iload_n (q := 89) dX1_parse_88 rfl rfl ?_
        refine r_zret dX1_parse_89 (by first | rfl | exact narrow_bI _) ?_
        rw [hg] at hQ
        exact hQ _ h1
      · refine r_aload_n (q := 50) dX1_parse_49 rfl rfl ?_
        refine r_get (q := 53) (kk := 4) h1.inp rfl wi_RX1 (by decide) rfl fk_X1_29 rfl dX1_parse_50 rfl ?_
        rw [iM7]
        refine r_aload_n (q := 54) dX1_parse_53 rfl rfl ?_
        refine r_cV (q := 57) (As := []) wc_X1_58 rfl im_X1_size se_X1_size h1.inp rfl rfl (Nat.le_of_ble_eq_true rfl) (Nat.le_of_eq (Nat.zero_add _)) (Nat.le_of_eq (Nat.zero_add _)) dX1_parse_54 rfl rfl (s_X1_size h1 ?_)
        refine r_icmp_ge (t := 88) (q := 60) dX1_parse_57 rfl rfl (fun c57 => ?_) (fun c57 => ?_)
        · simp (disch := omega) only [nI_leI, nI_ltI, nI_eq, nI_lt0, nI_ge0, nI_gt0, nI_le0, nI_eq0] at c57
          replace hg : pPar S l s = y := by rw [hg, show 60 - j = 60 - (j + 1) + 1 by omega, pLp, if_neg (fun g => by omega)]
          refine r_iload_n (q := 89) dX1_parse_88 rfl rfl ?_
          refine r_zret dX1_parse_89 (by first | rfl | exact narrow_bI _) ?_
          rw [hg] at hQ
          exact hQ _ h1
        · simp (disch := omega) only [nI_leI, nI_ltI, nI_eq, nI_lt0, nI_ge0, nI_gt0, nI_le0, nI_eq0] at c57
          replace c57 := Nat.lt_of_not_le c57
          refine r_aload_n (q := 61) dX1_parse_60 rfl rfl ?_
          refine r_bipush (v := nI 59) (q := 63) dX1_parse_61 (by decide) rfl ?_
          refine r_cV (q := 66) (As := [.int _]) wc_X1_59 rfl im_X1_parseSign se_X1_parseSign h1.inp rfl rfl (Nat.le_of_ble_eq_true rfl) (Nat.le_of_eq (Nat.zero_add _)) (Nat.le_of_eq (Nat.zero_add _)) dX1_parse_63 rfl rfl (s_X1_parseSign h1 hyp (by decide) fun M_63 h1_63 => ?_)
          try simp only [iS7, iS8, iS9] at h1_63
          refine r_if_eq (t := 80) (q := 69) dX1_parse_66 rfl rfl (fun c66 => ?_) (fun c66 => ?_)
          · have hs := bI_eq0.mp c66
            refine r_iconst (v := nI 0) (q := 81) dX1_parse_80 (by decide) rfl ?_
            first | rw [show nI 0 = bI (pNx y).1 from by rw [pNx_t hs, hv]; rfl] | rw [show nI 0 = bI (pNx y).1 from by rw [pNx_f hs]; rfl]
            refine r_istore_n (q := 82) dX1_parse_81 (Nat.le_of_ble_eq_true rfl) rfl rfl ?_
            show AW _ (_, _, _, _, _, _, _, _, _) _ _ _ _ [some _, some _, some _] _ _
            refine r_inc1 (q := 85) dX1_parse_82 rfl (Nat.le_of_ble_eq_true rfl) rfl rfl ?_
            show AW _ (_, _, _, _, _, _, _, _, _) _ _ _ _ [some _, some _, some _] _ _
            refine r_goto (t := 39) dX1_parse_85 rfl ?_
            refine ih (60 - (j + 1)) (by omega) (j + 1) _ (pNx y) rfl (by omega) ?_ ?_ ?_ ?_
            · rw [hg, show 60 - j = 60 - (j + 1) + 1 by omega, pLp, if_pos ⟨bI_ne c46, c57⟩]
            · rw [pNx_f hs]; exact hyp
            · rw [pNx_f hs]; exact hch
            · rw [pNx_f hs]; rw [pSg_f hs] at h1_63; exact h1_63
          · have hs := bI_ne c66
            have hle := pSg_le (L := y.2.1.1 0) (c := 59) (by decide) hyp
            refine r_aload_n (q := 70) dX1_parse_69 rfl rfl ?_
            refine r_cV (q := 73) (As := []) wc_X1_54 rfl im_X1_parseOrder se_X1_parseOrder h1_63.inp rfl rfl (Nat.le_of_ble_eq_true rfl) (Nat.le_of_eq (Nat.zero_add _)) (Nat.le_of_eq (Nat.zero_add _)) dX1_parse_70 rfl rfl (s_X1_parseOrder h1_63 hle hch fun M_70 h1_70 => ?_)
            try simp only [iS7, iS8, iS9] at h1_70
            refine r_if_eq (t := 80) (q := 76) dX1_parse_73 rfl rfl (fun c73 => ?_) (fun c73 => ?_)
            · have hv := bI_eq0.mp c73
              refine r_iconst (v := nI 0) (q := 81) dX1_parse_80 (by decide) rfl ?_
              first | rw [show nI 0 = bI (pNx y).1 from by rw [pNx_t hs, hv]; rfl] | rw [show nI 0 = bI (pNx y).1 from by rw [pNx_f hs]; rfl]
              refine r_istore_n (q := 82) dX1_parse_81 (Nat.le_of_ble_eq_true rfl) rfl rfl ?_
              show AW _ (_, _, _, _, _, _, _, _, _) _ _ _ _ [some _, some _, some _] _ _
              refine r_inc1 (q := 85) dX1_parse_82 rfl (Nat.le_of_ble_eq_true rfl) rfl rfl ?_
              show AW _ (_, _, _, _, _, _, _, _, _) _ _ _ _ [some _, some _, some _] _ _
              refine r_goto (t := 39) dX1_parse_85 rfl ?_
              refine ih (60 - (j + 1)) (by omega) (j + 1) _ (pNx y) rfl (by omega) ?_ ?_ ?_ ?_
              · rw [hg, show 60 - j = 60 - (j + 1) + 1 by omega, pLp, if_pos ⟨bI_ne c46, c57⟩]
              · rw [pNx_t hs, (pOr_le (x := ((pSg (y.2.1.1 0) 59 y.2.2.1).2, y.2.2.2)) hle).2]; exact (pOr_le hle).1
              · rw [pNx_t hs, (pOr_le (x := ((pSg (y.2.1.1 0) 59 y.2.2.1).2, y.2.2.2)) hle).2]; exact hch
              · rw [pNx_t hs]; exact h1_70
            · have hv := bI_ne c73
              refine r_iconst (v := nI 1) (q := 77) dX1_parse_76 (by decide) rfl ?_
              rw [show nI 1 = bI (pNx y).1 from by rw [pNx_t hs, hv]; rfl]
              refine r_goto (t := 81) dX1_parse_77 rfl ?_
              refine r_istore_n (q := 82) dX1_parse_81 (Nat.le_of_ble_eq_true rfl) rfl rfl ?_
              show AW _ (_, _, _, _, _, _, _, _, _) _ _ _ _ [some _, some _, some _] _ _
              refine r_inc1 (q := 85) dX1_parse_82 rfl (Nat.le_of_ble_eq_true rfl) rfl rfl ?_
              show AW _ (_, _, _, _, _, _, _, _, _) _ _ _ _ [some _, some _, some _] _ _
              refine r_goto (t := 39) dX1_parse_85 rfl ?_
              refine ih (60 - (j + 1)) (by omega) (j + 1) _ (pNx y) rfl (by omega) ?_ ?_ ?_ ?_
              · rw [hg, show 60 - j = 60 - (j + 1) + 1 by omega, pLp, if_pos ⟨bI_ne c46, c57⟩]
              · rw [pNx_t hs, (pOr_le (x := ((pSg (y.2.1.1 0) 59 y.2.2.1).2, y.2.2.2)) hle).2]; exact (pOr_le hle).1
              · rw [pNx_t hs, (pOr_le (x := ((pSg (y.2.1.1 0) 59 y.2.2.1).2, y.2.2.2)) hle).2]; exact hch
              · rw [pNx_t hs]; exact h1_70
  refine MS.of (by decide) (by simp [Value.category]) (Nat.le_of_ble_eq_true rfl) ?_
  show AW _ (_, _, _, _, _, _, _, _, _) _ _ _ _ [some _, _, _] _ _
  refine r_aload_n (q := 1) dX1_parse_0 rfl rfl ?_
  refine r_iconst (v := nI 0) (q := 2) dX1_parse_1 (by decide) rfl ?_
  refine r_p1 (q := 5) (kk := 4) (j := 7) h (by decide) rfl fk_X1_29 dX1_parse_2 rfl fun M_2 h_2 => ?_
  try simp only [iS7, iS8, iS9] at h_2
  refine r_aload_n (q := 6) dX1_parse_5 rfl rfl ?_
  refine r_get (q := 9) (kk := 1) h_2.inp rfl wi_RX1 (by decide) rfl fk_X1_20 rfl dX1_parse_6 rfl ?_
  refine r_iconst (v := nI 0) (q := 10) dX1_parse_9 (by decide) rfl ?_
  refine r_iconst (v := nI 0) (q := 11) dX1_parse_10 (by decide) rfl ?_
  refine r_cV (q := 14) (As := [.int _, .int _]) wc_X1_43 rfl im_X2_fill se_X2_fill (h_2.row (by decide)) rfl rfl (Nat.le_of_ble_eq_true rfl) (Nat.le_of_eq (Nat.zero_add _)) (Nat.le_of_eq (Nat.zero_add _)) dX1_parse_11 rfl rfl (u_clr h_2 (by decide) fun M_11 h_11 => ?_)
  try simp only [iS7, iS8, iS9] at h_11
  refine r_aload_n (q := 15) dX1_parse_14 rfl rfl ?_
  refine r_get (q := 18) (kk := 2) h_11.inp rfl wi_RX1 (by decide) rfl fk_X1_23 rfl dX1_parse_15 rfl ?_
  refine r_iconst (v := nI 0) (q := 19) dX1_parse_18 (by decide) rfl ?_
  refine r_iconst (v := nI 0) (q := 20) dX1_parse_19 (by decide) rfl ?_
  refine r_cV (q := 23) (As := [.int _, .int _]) wc_X1_43 rfl im_X2_fill se_X2_fill (h_11.row (by decide)) rfl rfl (Nat.le_of_ble_eq_true rfl) (Nat.le_of_eq (Nat.zero_add _)) (Nat.le_of_eq (Nat.zero_add _)) dX1_parse_20 rfl rfl (u_clr h_11 (by decide) fun M_20 h_20 => ?_)
  try simp only [iS7, iS8, iS9] at h_20
  refine r_aload_n (q := 24) dX1_parse_23 rfl rfl ?_
  refine r_get (q := 27) (kk := 3) h_20.inp rfl wi_RX1 (by decide) rfl fk_X1_26 rfl dX1_parse_24 rfl ?_
  refine r_iconst (v := nI 0) (q := 28) dX1_parse_27 (by decide) rfl ?_
  refine r_iconst (v := nI 0) (q := 29) dX1_parse_28 (by decide) rfl ?_
  refine r_cV (q := 32) (As := [.int _, .int _]) wc_X1_43 rfl im_X2_fill se_X2_fill (h_20.row (by decide)) rfl rfl (Nat.le_of_ble_eq_true rfl) (Nat.le_of_eq (Nat.zero_add _)) (Nat.le_of_eq (Nat.zero_add _)) dX1_parse_29 rfl rfl (u_clr h_20 (by decide) fun M_29 h_29 => ?_)
  try simp only [iS7, iS8, iS9] at h_29
  refine r_aload_n (q := 33) dX1_parse_32 rfl rfl ?_
  refine r_cV (q := 36) (As := []) wc_X1_54 rfl im_X1_parseOrder se_X1_parseOrder h_29.inp rfl rfl (Nat.le_of_ble_eq_true rfl) (Nat.le_of_eq (Nat.zero_add _)) (Nat.le_of_eq (Nat.zero_add _)) dX1_parse_33 rfl rfl (s_X1_parseOrder (p := 0) h_29 (Nat.zero_le _) hch fun M_33 h_33 => ?_)
  try simp only [iS7, iS8, iS9] at h_33
  refine r_istore_n (q := 37) dX1_parse_36 (Nat.le_of_ble_eq_true rfl) rfl rfl ?_
  show AW _ (_, _, _, _, _, _, _, _, _) _ _ _ _ [some _, some _, _] _ _
  refine r_iconst (v := nI 0) (q := 38) dX1_parse_37 (by decide) rfl ?_
  refine r_istore_n (q := 39) dX1_parse_38 (Nat.le_of_ble_eq_true rfl) rfl rfl ?_
  show AW _ (_, _, _, _, _, _, _, _, _) _ _ _ _ [some _, some _, some _] _ _
  exact loop _ 0 _ (pOr (pClr S) (0, l, s)) rfl (by omega) rfl (by rw [(pOr_le (S := pClr S) (x := (0, l, s)) (Nat.zero_le _)).2]; exact (pOr_le (S := pClr S) (x := (0, l, s)) (Nat.zero_le _)).1) (by rw [(pOr_le (S := pClr S) (x := (0, l, s)) (Nat.zero_le _)).2]; exact hch) h_33
end W33
