/-! THE MODEL: an order, orders -/
section W63
variable {G : En} {Λ : Ob → Nat} {ρ : Me} {μ : Mg} {M : Me} {d : Nat} {Q : Option Value → Me → Prop} {QX : String → Me → Prop} {S : St} {L : List Nat} {N : Nat → Nat} {w : Bool} {s r : Nat}
def isK (c : Nat) : Bool := [115, 117, 112, 119, 108, 120, 109, 102, 104].contains c
abbrev PX : Type := Bool × Nat × (Nat → Nat)
def orX (L : List Nat) (r c : Nat) (x : PX) : PX := if c = 104 then x else if c = 115 then wdK L r (tkS L 58 (dgK L r 0 x)) else if c = 109 then dgK L r 1 (tkS L 58 (dgK L r 0 x)) else if c = 112 then dgK L r 1 (tkS L 61 (dgK L r 0 x)) else if c = 108 then dgK L r 1 (tkS L 62 (dgK L r 0 x)) else dgK L r 0 x
def mOrd (L : List Nat) (r s : Nat) (N : Nat → Nat) : PX := if isK (L.getD s 0) = true then orX L r (L.getD s 0) (false, s + 1, N) else (true, s, N)
def pX (μ : Mg) (X : PX) : Mg := pM μ X.1 X.2.1 X.2.2
def mOrR (μ : Mg) (r c : Nat) (X : PX) : Mg := if X.1 = true then pX μ X else sN (sA (pX μ X) 8 (uN (gA μ 8) r c)) 24 (nI (r + 1))
theorem x_takes {X : PX} (h : RM G Λ ρ (pX μ X) M) (hI : PIN L μ) (hs : X.2.1 < 1000) {c : Nat} (h0 : c ≠ 0) (hc : c < 2 ^ 31) (hQ : ∀ M', RM G Λ ρ (pX μ (tkS L c X)) M' → Q none M') : MS G yX9_takes cX9_takes 2 none (d + 1) 0 0 [.ref (Λ (10, 0, 0)), .int (nI c)] M Q QX := s_X9_takes h hI hs h0 hc hQ
theorem x_takesDigit {X : PX} (h : RM G Λ ρ (pX μ X) M) (hI : PIN L μ) (hs : X.2.1 < 1000) (hr : gN μ 24 = nI r) (hr31 : r < 50) {a : Nat} (ha : a < 3) (hQ : ∀ M', RM G Λ ρ (pX μ (dgK L r a X)) M' → Q none M') : MS G yX9_takesDigit cX9_takesDigit 2 none (d + 1) 0 0 [.ref (Λ (10, 0, 0)), .int (nI a)] M Q QX := s_X9_takesDigit h hI hs hr hr31 ha hQ
theorem x_takesWord {X : PX} (h : RM G Λ ρ (pX μ X) M) (hI : PIN L μ) (hs : X.2.1 < 900) (hr : gN μ 24 = nI r) (hr31 : r < 50) (hQ : ∀ M', RM G Λ ρ (pX μ (wdK L r X)) M' → Q none M') : MS G yX9_takesWord cX9_takesWord 3 none (d + 2) 0 0 [.ref (Λ (10, 0, 0))] M Q QX := s_X9_takesWord h hI hs hr hr31 hQ
theorem pX_25 {X : PX} : gN (pX μ X) 25 = bI X.1 := rfl
theorem pX_k {X : PX} {k : Nat} (h1 : k ≠ 23) (h2 : k ≠ 25) : gN (pX μ X) k = gN μ k := pM_k h1 h2
theorem pX_a {X : PX} {i : Nat} (h : i ≠ 9) : gA (pX μ X) i = gA μ i := pM_a h
theorem dg_le {a : Nat} {x : PX} : (dgK L r a x).2.1 ≤ x.2.1 + 1 := by unfold dgK; split <;> simp
theorem tk_le {c : Nat} {x : PX} : (tkS L c x).2.1 ≤ x.2.1 + 1 := by unfold tkS; split <;> simp
theorem isK_m (h : isK (L.getD s 0) = true) : L.getD s 0 = 115 ∨ L.getD s 0 = 117 ∨ L.getD s 0 = 112 ∨ L.getD s 0 = 119 ∨ L.getD s 0 = 108 ∨ L.getD s 0 = 120 ∨ L.getD s 0 = 109 ∨ L.getD s 0 = 102 ∨ L.getD s 0 = 104 := by
  have h2 := List.mem_of_elem_eq_true h
  simpa using h2
theorem isK_n (hI : PIN L μ) (h : isK (L.getD s 0) = false) : ∀ k, k ∈ [115, 117, 112, 119, 108, 120, 109, 102, 104] → ¬ mkv L false s = nI k := by
  intro k hk e
  have hk0 : k ≠ 0 ∧ k < 2 ^ 31 := by
    simp only [List.mem_cons, List.not_mem_nil, or_false] at hk; omega
  have e2 := ((mk_eq hI hk0.1 hk0.2).mp e).2
  rw [e2, isK, List.contains_eq_mem, decide_eq_false_iff_not] at h
  exact h hk
theorem s_X9_order (h : RM G Λ ρ (pM μ false s N) M) (hI : PIN L μ) (hs : s ≤ 60) (hr : gN μ 24 = nI r) (hr30 : r < 50) (hQ : ∀ M', RM G Λ ρ (mOrR μ r (L.getD s 0) (mOrd L r s N)) M' → Q none M')  : MS G yX9_order cX9_order 2 none (d + 3) 0 0 [.ref (Λ (10, 0, 0))] M Q QX := by
  refine MS.of (by decide) (by simp [Value.category]) (Nat.le_of_ble_eq_true rfl) ?_
  show AW _ (_, _, _, _, _, _, _, _, _) _ _ _ _ [some _, _] _ _
  refine r_aload_n (q := 1) dX9_order_0 rfl rfl ?_
  refine r_cV (q := 4) (As := []) wc_X9_290 rfl im_X9_mark se_X9_mark h.m rfl rfl (Nat.le_of_ble_eq_true rfl) (Nat.le_of_eq (Nat.zero_add _)) (Nat.le_of_eq (Nat.zero_add _)) dX9_order_1 rfl rfl (s_X9_mark h hI (by omega) ?_)
  refine r_istore_n (q := 5) dX9_order_4 (Nat.le_of_ble_eq_true rfl) rfl rfl ?_
  show AW _ (_, _, _, _, _, _, _, _, _) _ _ _ _ [some _, some _] _ _
  have hl60 := hI.2.2.1
  have hK : isK (L.getD s 0) = true ∨ isK (L.getD s 0) = false := by cases isK (L.getD s 0) <;> simp
  rcases hK with hK | hK
  · have hm := isK_m hK
    rw [show mOrd L r s N = orX L r (L.getD s 0) (false, s + 1, N) from if_pos hK] at hQ
    rcases hm with hc | hc | hc | hc | hc | hc | hc | hc | hc
    · rw [show mkv L false s = nI 115 from (mk_eq hI (by decide) (by decide)).mpr ⟨rfl, hc⟩]
      rw [hc] at hQ
      have hQ1 : ∀ M', RM G Λ ρ (mOrR μ r 115 (orX L r 115 (false, s + 1, N))) M' → Q none M' := hQ
      refine r_aload_n (q := 6) dX9_order_5 rfl rfl ?_
      refine r_dup (q := 7) dX9_order_6 rfl rfl ?_
      refine r_get (q := 10) (kk := 25) h.m rfl wi_RX9 (by decide) rfl fk_X9_87 rfl dX9_order_7 rfl ?_
      rw [pM_25]
      refine r_iload_n (q := 11) dX9_order_10 rfl rfl ?_
      refine r_bipush (v := nI 115) (q := 13) dX9_order_11 (by decide) rfl ?_
      refine r_icmp_eq (t := 68) (q := 16) dX9_order_13 rfl rfl (fun c13 => ?_) (fun c13 => ?_)
      · refine r_iconst (v := nI 0) (q := 69) dX9_order_68 (by decide) rfl ?_
        refine r_ior (q := 70) dX9_order_69 rfl ?_
        rw [show bI false ||| nI 0 = bI false from rfl]
        refine r_p9b (q := 73) (b := _) (kk := 25) h (Or.inr (Or.inl rfl)) rfl fk_X9_87 dX9_order_70 fun M_70 h_70 => ?_
        rw [pM_w] at h_70
        refine r_aload_n (q := 74) dX9_order_73 rfl rfl ?_
        refine r_dup (q := 75) dX9_order_74 rfl rfl ?_
        refine r_get (q := 78) (kk := 23) h_70.m rfl wi_RX9 (by decide) rfl fk_X9_81 rfl dX9_order_75 rfl ?_
        rw [pM_23]
        refine r_aload_n (q := 79) dX9_order_78 rfl rfl ?_
        refine r_get (q := 82) (kk := 25) h_70.m rfl wi_RX9 (by decide) rfl fk_X9_87 rfl dX9_order_79 rfl ?_
        rw [pM_25]
        refine r_if_eq (t := 89) (q := 85) dX9_order_82 rfl rfl (fun c82 => ?_) (fun c82 => ?_)
        · refine r_iconst (v := nI 1) (q := 90) dX9_order_89 (by decide) rfl ?_
          refine r_iadd (q := 91) dX9_order_90 rfl ?_
          rw [n_add]
          refine r_p9 (q := 94) (kk := 23) (j := 23) h_70 (by decide) rfl fk_X9_81 dX9_order_91 rfl fun M_91 h_91 => ?_
          rw [pM_s] at h_91
          replace h_91 : RM G Λ ρ (pX μ (false, s + 1, N)) M_91 := h_91
          refine r_iload_n (q := 95) dX9_order_94 rfl rfl ?_
          refine r_bipush (v := nI 104) (q := 97) dX9_order_95 (by decide) rfl ?_
          refine r_icmp_eq (t := 105) (q := 100) dX9_order_97 rfl rfl (fun c97 => ?_) (fun c97 => ?_)
          · exact absurd c97 (by decide)
          · refine r_aload_n (q := 101) dX9_order_100 rfl rfl ?_
            refine r_iconst (v := nI 0) (q := 102) dX9_order_101 (by decide) rfl ?_
            refine r_cV (q := 105) (As := [.int _]) wc_X9_297 rfl im_X9_takesDigit se_X9_takesDigit h_91.m rfl rfl (Nat.le_of_ble_eq_true rfl) (Nat.le_of_eq (Nat.zero_add _)) (Nat.le_of_eq (Nat.zero_add _)) dX9_order_102 rfl rfl (x_takesDigit h_91 hI (by first | omega | (show s + 1 < _; omega) | (show s < _; omega)) hr hr30 (by decide) fun M_102 h_102 => ?_)
            have hd1 := dg_le (L := L) (r := r) (a := 0) (x := (false, s + 1, N))
            replace hd1 : (dgK L r 0 (false, s + 1, N)).2.1 ≤ s + 1 + 1 := hd1
            refine r_iload_n (q := 106) dX9_order_105 rfl rfl ?_
            refine r_bipush (v := nI 115) (q := 108) dX9_order_106 (by decide) rfl ?_
            refine r_icmp_eq (t := 117) (q := 111) dX9_order_108 rfl rfl (fun c108 => ?_) (fun c108 => ?_)
            · refine r_aload_n (q := 118) dX9_order_117 rfl rfl ?_
              refine r_bipush (v := nI 58) (q := 120) dX9_order_118 (by decide) rfl ?_
              refine r_cV (q := 123) (As := [.int _]) wc_X9_300 rfl im_X9_takes se_X9_takes h_102.m rfl rfl (Nat.le_of_ble_eq_true rfl) (Nat.le_of_eq (Nat.zero_add _)) (Nat.le_of_eq (Nat.zero_add _)) dX9_order_120 rfl rfl (x_takes h_102 hI (by omega) (by decide) (by decide) fun M_120 h_120 => ?_)
              have hd2 := tk_le (L := L) (c := 58) (x := dgK L r 0 (false, s + 1, N))
              refine r_iload_n (q := 124) dX9_order_123 rfl rfl ?_
              refine r_bipush (v := nI 112) (q := 126) dX9_order_124 (by decide) rfl ?_
              refine r_icmp_ne (t := 135) (q := 129) dX9_order_126 rfl rfl (fun c126 => ?_) (fun c126 => ?_)
              · refine r_iload_n (q := 136) dX9_order_135 rfl rfl ?_
                refine r_bipush (v := nI 108) (q := 138) dX9_order_136 (by decide) rfl ?_
                refine r_icmp_ne (t := 147) (q := 141) dX9_order_138 rfl rfl (fun c138 => ?_) (fun c138 => ?_)
                · refine r_iload_n (q := 148) dX9_order_147 rfl rfl ?_
                  refine r_bipush (v := nI 115) (q := 150) dX9_order_148 (by decide) rfl ?_
                  refine r_icmp_ne (t := 157) (q := 153) dX9_order_150 rfl rfl (fun c150 => ?_) (fun c150 => ?_)
                  · exact absurd rfl c150
                  · refine r_aload_n (q := 154) dX9_order_153 rfl rfl ?_
                    refine r_cV (q := 157) (As := []) wc_X9_303 rfl im_X9_takesWord se_X9_takesWord h_120.m rfl rfl (Nat.le_of_ble_eq_true rfl) (Nat.le_of_eq (Nat.zero_add _)) (Nat.le_of_eq (Nat.zero_add _)) dX9_order_154 rfl rfl (x_takesWord h_120 hI (by first | omega | (show s + 1 < _; omega) | (show s < _; omega)) hr hr30 fun M_154 h_154 => ?_)
                    refine r_iload_n (q := 158) dX9_order_157 rfl rfl ?_
                    refine r_bipush (v := nI 109) (q := 160) dX9_order_158 (by decide) rfl ?_
                    refine r_icmp_eq (t := 175) (q := 163) dX9_order_160 rfl rfl (fun c160 => ?_) (fun c160 => ?_)
                    · exact absurd c160 (by decide)
                    · refine r_iload_n (q := 164) dX9_order_163 rfl rfl ?_
                      refine r_bipush (v := nI 112) (q := 166) dX9_order_164 (by decide) rfl ?_
                      refine r_icmp_eq (t := 175) (q := 169) dX9_order_166 rfl rfl (fun c166 => ?_) (fun c166 => ?_)
                      · exact absurd c166 (by decide)
                      · refine r_iload_n (q := 170) dX9_order_169 rfl rfl ?_
                        refine r_bipush (v := nI 108) (q := 172) dX9_order_170 (by decide) rfl ?_
                        refine r_icmp_ne (t := 180) (q := 175) dX9_order_172 rfl rfl (fun c172 => ?_) (fun c172 => ?_)
                        · refine r_aload_n (q := 181) dX9_order_180 rfl rfl ?_
                          refine r_get (q := 184) (kk := 25) h_154.m rfl wi_RX9 (by decide) rfl fk_X9_87 rfl dX9_order_181 rfl ?_
                          rw [pX_25]
                          refine r_if_eq (t := 188) (q := 187) dX9_order_184 rfl rfl (fun c184 => ?_) (fun c184 => ?_)
                          · have c184b : (orX L r 115 (false, s + 1, N)).1 = false := bI_eq0.mp c184
                            refine r_aload_n (q := 189) dX9_order_188 rfl rfl ?_
                            refine r_get (q := 192) (kk := 19) h_154.m rfl wi_RX9 (by decide) rfl fk_X9_69 rfl dX9_order_189 rfl ?_
                            refine r_aload_n (q := 193) dX9_order_192 rfl rfl ?_
                            refine r_get (q := 196) (kk := 24) h_154.m rfl wi_RX9 (by decide) rfl fk_X9_84 rfl dX9_order_193 rfl ?_
                            rw [pX_k (by decide) (by decide), hr]
                            refine r_iload_n (q := 197) dX9_order_196 rfl rfl ?_
                            refine r_iastM (q := 198) h_154 (by decide) (by simp only [mLen]; omega) (by omega) dX9_order_197 rfl fun M_197 h_197 => ?_
                            rw [pX_a (by decide)] at h_197
                            refine r_aload_n (q := 199) dX9_order_198 rfl rfl ?_
                            refine r_dup (q := 200) dX9_order_199 rfl rfl ?_
                            refine r_get (q := 203) (kk := 24) h_197.m rfl wi_RX9 (by decide) rfl fk_X9_84 rfl dX9_order_200 rfl ?_
                            rw [gN_sA, pX_k (by decide) (by decide), hr]
                            refine r_iconst (v := nI 1) (q := 204) dX9_order_203 (by decide) rfl ?_
                            refine r_iadd (q := 205) dX9_order_204 rfl ?_
                            rw [n_add]
                            refine r_p9 (q := 208) (kk := 24) (j := 24) h_197 (by decide) rfl fk_X9_84 dX9_order_205 rfl fun M_205 h_205 => ?_
                            refine r_vret dX9_order_208 ?_
                            refine hQ1 _ ?_
                            rw [mOrR, if_neg (by rw [c184b]; decide)]
                            exact h_205
                          · have c184b : (orX L r 115 (false, s + 1, N)).1 = true := bI_ne c184
                            refine r_vret dX9_order_187 ?_
                            refine hQ1 _ ?_
                            rw [mOrR, if_pos c184b]
                            exact h_154
                        · exact absurd c172 (by decide)
                · exact absurd c138 (by decide)
              · exact absurd c126 (by decide)
            · exact absurd rfl c108
        · exact absurd rfl c82
      · exact absurd rfl c13
    · rw [show mkv L false s = nI 117 from (mk_eq hI (by decide) (by decide)).mpr ⟨rfl, hc⟩]
      rw [hc] at hQ
      have hQ1 : ∀ M', RM G Λ ρ (mOrR μ r 117 (orX L r 117 (false, s + 1, N))) M' → Q none M' := hQ
      refine r_aload_n (q := 6) dX9_order_5 rfl rfl ?_
      refine r_dup (q := 7) dX9_order_6 rfl rfl ?_
      refine r_get (q := 10) (kk := 25) h.m rfl wi_RX9 (by decide) rfl fk_X9_87 rfl dX9_order_7 rfl ?_
      rw [pM_25]
      refine r_iload_n (q := 11) dX9_order_10 rfl rfl ?_
      refine r_bipush (v := nI 115) (q := 13) dX9_order_11 (by decide) rfl ?_
      refine r_icmp_eq (t := 68) (q := 16) dX9_order_13 rfl rfl (fun c13 => ?_) (fun c13 => ?_)
      · exact absurd c13 (by decide)
      · refine r_iload_n (q := 17) dX9_order_16 rfl rfl ?_
        refine r_bipush (v := nI 117) (q := 19) dX9_order_17 (by decide) rfl ?_
        refine r_icmp_eq (t := 68) (q := 22) dX9_order_19 rfl rfl (fun c19 => ?_) (fun c19 => ?_)
        · refine r_iconst (v := nI 0) (q := 69) dX9_order_68 (by decide) rfl ?_
          refine r_ior (q := 70) dX9_order_69 rfl ?_
          rw [show bI false ||| nI 0 = bI false from rfl]
          refine r_p9b (q := 73) (b := _) (kk := 25) h (Or.inr (Or.inl rfl)) rfl fk_X9_87 dX9_order_70 fun M_70 h_70 => ?_
          rw [pM_w] at h_70
          refine r_aload_n (q := 74) dX9_order_73 rfl rfl ?_
          refine r_dup (q := 75) dX9_order_74 rfl rfl ?_
          refine r_get (q := 78) (kk := 23) h_70.m rfl wi_RX9 (by decide) rfl fk_X9_81 rfl dX9_order_75 rfl ?_
          rw [pM_23]
          refine r_aload_n (q := 79) dX9_order_78 rfl rfl ?_
          refine r_get (q := 82) (kk := 25) h_70.m rfl wi_RX9 (by decide) rfl fk_X9_87 rfl dX9_order_79 rfl ?_
          rw [pM_25]
          refine r_if_eq (t := 89) (q := 85) dX9_order_82 rfl rfl (fun c82 => ?_) (fun c82 => ?_)
          · refine r_iconst (v := nI 1) (q := 90) dX9_order_89 (by decide) rfl ?_
            refine r_iadd (q := 91) dX9_order_90 rfl ?_
            rw [n_add]
            refine r_p9 (q := 94) (kk := 23) (j := 23) h_70 (by decide) rfl fk_X9_81 dX9_order_91 rfl fun M_91 h_91 => ?_
            rw [pM_s] at h_91
            replace h_91 : RM G Λ ρ (pX μ (false, s + 1, N)) M_91 := h_91
            refine r_iload_n (q := 95) dX9_order_94 rfl rfl ?_
            refine r_bipush (v := nI 104) (q := 97) dX9_order_95 (by decide) rfl ?_
            refine r_icmp_eq (t := 105) (q := 100) dX9_order_97 rfl rfl (fun c97 => ?_) (fun c97 => ?_)
            · exact absurd c97 (by decide)
            · refine r_aload_n (q := 101) dX9_order_100 rfl rfl ?_
              refine r_iconst (v := nI 0) (q := 102) dX9_order_101 (by decide) rfl ?_
              refine r_cV (q := 105) (As := [.int _]) wc_X9_297 rfl im_X9_takesDigit se_X9_takesDigit h_91.m rfl rfl (Nat.le_of_ble_eq_true rfl) (Nat.le_of_eq (Nat.zero_add _)) (Nat.le_of_eq (Nat.zero_add _)) dX9_order_102 rfl rfl (x_takesDigit h_91 hI (by first | omega | (show s + 1 < _; omega) | (show s < _; omega)) hr hr30 (by decide) fun M_102 h_102 => ?_)
              have hd1 := dg_le (L := L) (r := r) (a := 0) (x := (false, s + 1, N))
              replace hd1 : (dgK L r 0 (false, s + 1, N)).2.1 ≤ s + 1 + 1 := hd1
              refine r_iload_n (q := 106) dX9_order_105 rfl rfl ?_
              refine r_bipush (v := nI 115) (q := 108) dX9_order_106 (by decide) rfl ?_
              refine r_icmp_eq (t := 117) (q := 111) dX9_order_108 rfl rfl (fun c108 => ?_) (fun c108 => ?_)
              · exact absurd c108 (by decide)
              · refine r_iload_n (q := 112) dX9_order_111 rfl rfl ?_
                refine r_bipush (v := nI 109) (q := 114) dX9_order_112 (by decide) rfl ?_
                refine r_icmp_ne (t := 123) (q := 117) dX9_order_114 rfl rfl (fun c114 => ?_) (fun c114 => ?_)
                · refine r_iload_n (q := 124) dX9_order_123 rfl rfl ?_
                  refine r_bipush (v := nI 112) (q := 126) dX9_order_124 (by decide) rfl ?_
                  refine r_icmp_ne (t := 135) (q := 129) dX9_order_126 rfl rfl (fun c126 => ?_) (fun c126 => ?_)
                  · refine r_iload_n (q := 136) dX9_order_135 rfl rfl ?_
                    refine r_bipush (v := nI 108) (q := 138) dX9_order_136 (by decide) rfl ?_
                    refine r_icmp_ne (t := 147) (q := 141) dX9_order_138 rfl rfl (fun c138 => ?_) (fun c138 => ?_)
                    · refine r_iload_n (q := 148) dX9_order_147 rfl rfl ?_
                      refine r_bipush (v := nI 115) (q := 150) dX9_order_148 (by decide) rfl ?_
                      refine r_icmp_ne (t := 157) (q := 153) dX9_order_150 rfl rfl (fun c150 => ?_) (fun c150 => ?_)
                      · refine r_iload_n (q := 158) dX9_order_157 rfl rfl ?_
                        refine r_bipush (v := nI 109) (q := 160) dX9_order_158 (by decide) rfl ?_
                        refine r_icmp_eq (t := 175) (q := 163) dX9_order_160 rfl rfl (fun c160 => ?_) (fun c160 => ?_)
                        · exact absurd c160 (by decide)
                        · refine r_iload_n (q := 164) dX9_order_163 rfl rfl ?_
                          refine r_bipush (v := nI 112) (q := 166) dX9_order_164 (by decide) rfl ?_
                          refine r_icmp_eq (t := 175) (q := 169) dX9_order_166 rfl rfl (fun c166 => ?_) (fun c166 => ?_)
                          · exact absurd c166 (by decide)
                          · refine r_iload_n (q := 170) dX9_order_169 rfl rfl ?_
                            refine r_bipush (v := nI 108) (q := 172) dX9_order_170 (by decide) rfl ?_
                            refine r_icmp_ne (t := 180) (q := 175) dX9_order_172 rfl rfl (fun c172 => ?_) (fun c172 => ?_)
                            · refine r_aload_n (q := 181) dX9_order_180 rfl rfl ?_
                              refine r_get (q := 184) (kk := 25) h_102.m rfl wi_RX9 (by decide) rfl fk_X9_87 rfl dX9_order_181 rfl ?_
                              rw [pX_25]
                              refine r_if_eq (t := 188) (q := 187) dX9_order_184 rfl rfl (fun c184 => ?_) (fun c184 => ?_)
                              · have c184b : (orX L r 117 (false, s + 1, N)).1 = false := bI_eq0.mp c184
                                refine r_aload_n (q := 189) dX9_order_188 rfl rfl ?_
                                refine r_get (q := 192) (kk := 19) h_102.m rfl wi_RX9 (by decide) rfl fk_X9_69 rfl dX9_order_189 rfl ?_
                                refine r_aload_n (q := 193) dX9_order_192 rfl rfl ?_
                                refine r_get (q := 196) (kk := 24) h_102.m rfl wi_RX9 (by decide) rfl fk_X9_84 rfl dX9_order_193 rfl ?_
                                rw [pX_k (by decide) (by decide), hr]
                                refine r_iload_n (q := 197) dX9_order_196 rfl rfl ?_
                                refine r_iastM (q := 198) h_102 (by decide) (by simp only [mLen]; omega) (by omega) dX9_order_197 rfl fun M_197 h_197 => ?_
                                rw [pX_a (by decide)] at h_197
                                refine r_aload_n (q := 199) dX9_order_198 rfl rfl ?_
                                refine r_dup (q := 200) dX9_order_199 rfl rfl ?_
                                refine r_get (q := 203) (kk := 24) h_197.m rfl wi_RX9 (by decide) rfl fk_X9_84 rfl dX9_order_200 rfl ?_
                                rw [gN_sA, pX_k (by decide) (by decide), hr]
                                refine r_iconst (v := nI 1) (q := 204) dX9_order_203 (by decide) rfl ?_
                                refine r_iadd (q := 205) dX9_order_204 rfl ?_
                                rw [n_add]
                                refine r_p9 (q := 208) (kk := 24) (j := 24) h_197 (by decide) rfl fk_X9_84 dX9_order_205 rfl fun M_205 h_205 => ?_
                                refine r_vret dX9_order_208 ?_
                                refine hQ1 _ ?_
                                rw [mOrR, if_neg (by rw [c184b]; decide)]
                                exact h_205
                              · have c184b : (orX L r 117 (false, s + 1, N)).1 = true := bI_ne c184
                                refine r_vret dX9_order_187 ?_
                                refine hQ1 _ ?_
                                rw [mOrR, if_pos c184b]
                                exact h_102
                            · exact absurd c172 (by decide)
                      · exact absurd c150 (by decide)
                    · exact absurd c138 (by decide)
                  · exact absurd c126 (by decide)
                · exact absurd c114 (by decide)
          · exact absurd rfl c82
        · exact absurd rfl c19
    · rw [show mkv L false s = nI 112 from (mk_eq hI (by decide) (by decide)).mpr ⟨rfl, hc⟩]
      rw [hc] at hQ
      have hQ1 : ∀ M', RM G Λ ρ (mOrR μ r 112 (orX L r 112 (false, s + 1, N))) M' → Q none M' := hQ
      refine r_aload_n (q := 6) dX9_order_5 rfl rfl ?_
      refine r_dup (q := 7) dX9_order_6 rfl rfl ?_
      refine r_get (q := 10) (kk := 25) h.m rfl wi_RX9 (by decide) rfl fk_X9_87 rfl dX9_order_7 rfl ?_
      rw [pM_25]
      refine r_iload_n (q := 11) dX9_order_10 rfl rfl ?_
      refine r_bipush (v := nI 115) (q := 13) dX9_order_11 (by decide) rfl ?_
      refine r_icmp_eq (t := 68) (q := 16) dX9_order_13 rfl rfl (fun c13 => ?_) (fun c13 => ?_)
      · exact absurd c13 (by decide)
      · refine r_iload_n (q := 17) dX9_order_16 rfl rfl ?_
        refine r_bipush (v := nI 117) (q := 19) dX9_order_17 (by decide) rfl ?_
        refine r_icmp_eq (t := 68) (q := 22) dX9_order_19 rfl rfl (fun c19 => ?_) (fun c19 => ?_)
        · exact absurd c19 (by decide)
        · refine r_iload_n (q := 23) dX9_order_22 rfl rfl ?_
          refine r_bipush (v := nI 112) (q := 25) dX9_order_23 (by decide) rfl ?_
          refine r_icmp_eq (t := 68) (q := 28) dX9_order_25 rfl rfl (fun c25 => ?_) (fun c25 => ?_)
          · refine r_iconst (v := nI 0) (q := 69) dX9_order_68 (by decide) rfl ?_
            refine r_ior (q := 70) dX9_order_69 rfl ?_
            rw [show bI false ||| nI 0 = bI false from rfl]
            refine r_p9b (q := 73) (b := _) (kk := 25) h (Or.inr (Or.inl rfl)) rfl fk_X9_87 dX9_order_70 fun M_70 h_70 => ?_
            rw [pM_w] at h_70
            refine r_aload_n (q := 74) dX9_order_73 rfl rfl ?_
            refine r_dup (q := 75) dX9_order_74 rfl rfl ?_
            refine r_get (q := 78) (kk := 23) h_70.m rfl wi_RX9 (by decide) rfl fk_X9_81 rfl dX9_order_75 rfl ?_
            rw [pM_23]
            refine r_aload_n (q := 79) dX9_order_78 rfl rfl ?_
            refine r_get (q := 82) (kk := 25) h_70.m rfl wi_RX9 (by decide) rfl fk_X9_87 rfl dX9_order_79 rfl ?_
            rw [pM_25]
            refine r_if_eq (t := 89) (q := 85) dX9_order_82 rfl rfl (fun c82 => ?_) (fun c82 => ?_)
            · refine r_iconst (v := nI 1) (q := 90) dX9_order_89 (by decide) rfl ?_
              refine r_iadd (q := 91) dX9_order_90 rfl ?_
              rw [n_add]
              refine r_p9 (q := 94) (kk := 23) (j := 23) h_70 (by decide) rfl fk_X9_81 dX9_order_91 rfl fun M_91 h_91 => ?_
              rw [pM_s] at h_91
              replace h_91 : RM G Λ ρ (pX μ (false, s + 1, N)) M_91 := h_91
              refine r_iload_n (q := 95) dX9_order_94 rfl rfl ?_
              refine r_bipush (v := nI 104) (q := 97) dX9_order_95 (by decide) rfl ?_
              refine r_icmp_eq (t := 105) (q := 100) dX9_order_97 rfl rfl (fun c97 => ?_) (fun c97 => ?_)
              · exact absurd c97 (by decide)
              · refine r_aload_n (q := 101) dX9_order_100 rfl rfl ?_
                refine r_iconst (v := nI 0) (q := 102) dX9_order_101 (by decide) rfl ?_
                refine r_cV (q := 105) (As := [.int _]) wc_X9_297 rfl im_X9_takesDigit se_X9_takesDigit h_91.m rfl rfl (Nat.le_of_ble_eq_true rfl) (Nat.le_of_eq (Nat.zero_add _)) (Nat.le_of_eq (Nat.zero_add _)) dX9_order_102 rfl rfl (x_takesDigit h_91 hI (by first | omega | (show s + 1 < _; omega) | (show s < _; omega)) hr hr30 (by decide) fun M_102 h_102 => ?_)
                have hd1 := dg_le (L := L) (r := r) (a := 0) (x := (false, s + 1, N))
                replace hd1 : (dgK L r 0 (false, s + 1, N)).2.1 ≤ s + 1 + 1 := hd1
                refine r_iload_n (q := 106) dX9_order_105 rfl rfl ?_
                refine r_bipush (v := nI 115) (q := 108) dX9_order_106 (by decide) rfl ?_
                refine r_icmp_eq (t := 117) (q := 111) dX9_order_108 rfl rfl (fun c108 => ?_) (fun c108 => ?_)
                · exact absurd c108 (by decide)
                · refine r_iload_n (q := 112) dX9_order_111 rfl rfl ?_
                  refine r_bipush (v := nI 109) (q := 114) dX9_order_112 (by decide) rfl ?_
                  refine r_icmp_ne (t := 123) (q := 117) dX9_order_114 rfl rfl (fun c114 => ?_) (fun c114 => ?_)
                  · refine r_iload_n (q := 124) dX9_order_123 rfl rfl ?_
                    refine r_bipush (v := nI 112) (q := 126) dX9_order_124 (by decide) rfl ?_
                    refine r_icmp_ne (t := 135) (q := 129) dX9_order_126 rfl rfl (fun c126 => ?_) (fun c126 => ?_)
                    · exact absurd rfl c126
                    · refine r_aload_n (q := 130) dX9_order_129 rfl rfl ?_
                      refine r_bipush (v := nI 61) (q := 132) dX9_order_130 (by decide) rfl ?_
                      refine r_cV (q := 135) (As := [.int _]) wc_X9_300 rfl im_X9_takes se_X9_takes h_102.m rfl rfl (Nat.le_of_ble_eq_true rfl) (Nat.le_of_eq (Nat.zero_add _)) (Nat.le_of_eq (Nat.zero_add _)) dX9_order_132 rfl rfl (x_takes h_102 hI (by omega) (by decide) (by decide) fun M_132 h_132 => ?_)
                      have hd2 := tk_le (L := L) (c := 61) (x := dgK L r 0 (false, s + 1, N))
                      refine r_iload_n (q := 136) dX9_order_135 rfl rfl ?_
                      refine r_bipush (v := nI 108) (q := 138) dX9_order_136 (by decide) rfl ?_
                      refine r_icmp_ne (t := 147) (q := 141) dX9_order_138 rfl rfl (fun c138 => ?_) (fun c138 => ?_)
                      · refine r_iload_n (q := 148) dX9_order_147 rfl rfl ?_
                        refine r_bipush (v := nI 115) (q := 150) dX9_order_148 (by decide) rfl ?_
                        refine r_icmp_ne (t := 157) (q := 153) dX9_order_150 rfl rfl (fun c150 => ?_) (fun c150 => ?_)
                        · refine r_iload_n (q := 158) dX9_order_157 rfl rfl ?_
                          refine r_bipush (v := nI 109) (q := 160) dX9_order_158 (by decide) rfl ?_
                          refine r_icmp_eq (t := 175) (q := 163) dX9_order_160 rfl rfl (fun c160 => ?_) (fun c160 => ?_)
                          · exact absurd c160 (by decide)
                          · refine r_iload_n (q := 164) dX9_order_163 rfl rfl ?_
                            refine r_bipush (v := nI 112) (q := 166) dX9_order_164 (by decide) rfl ?_
                            refine r_icmp_eq (t := 175) (q := 169) dX9_order_166 rfl rfl (fun c166 => ?_) (fun c166 => ?_)
                            · refine r_aload_n (q := 176) dX9_order_175 rfl rfl ?_
                              refine r_iconst (v := nI 1) (q := 177) dX9_order_176 (by decide) rfl ?_
                              refine r_cV (q := 180) (As := [.int _]) wc_X9_297 rfl im_X9_takesDigit se_X9_takesDigit h_132.m rfl rfl (Nat.le_of_ble_eq_true rfl) (Nat.le_of_eq (Nat.zero_add _)) (Nat.le_of_eq (Nat.zero_add _)) dX9_order_177 rfl rfl (x_takesDigit h_132 hI (by first | omega | (show s + 1 < _; omega) | (show s < _; omega)) hr hr30 (by decide) fun M_177 h_177 => ?_)
                              refine r_aload_n (q := 181) dX9_order_180 rfl rfl ?_
                              refine r_get (q := 184) (kk := 25) h_177.m rfl wi_RX9 (by decide) rfl fk_X9_87 rfl dX9_order_181 rfl ?_
                              rw [pX_25]
                              refine r_if_eq (t := 188) (q := 187) dX9_order_184 rfl rfl (fun c184 => ?_) (fun c184 => ?_)
                              · have c184b : (orX L r 112 (false, s + 1, N)).1 = false := bI_eq0.mp c184
                                refine r_aload_n (q := 189) dX9_order_188 rfl rfl ?_
                                refine r_get (q := 192) (kk := 19) h_177.m rfl wi_RX9 (by decide) rfl fk_X9_69 rfl dX9_order_189 rfl ?_
                                refine r_aload_n (q := 193) dX9_order_192 rfl rfl ?_
                                refine r_get (q := 196) (kk := 24) h_177.m rfl wi_RX9 (by decide) rfl fk_X9_84 rfl dX9_order_193 rfl ?_
                                rw [pX_k (by decide) (by decide), hr]
                                refine r_iload_n (q := 197) dX9_order_196 rfl rfl ?_
                                refine r_iastM (q := 198) h_177 (by decide) (by simp only [mLen]; omega) (by omega) dX9_order_197 rfl fun M_197 h_197 => ?_
                                rw [pX_a (by decide)] at h_197
                                refine r_aload_n (q := 199) dX9_order_198 rfl rfl ?_
                                refine r_dup (q := 200) dX9_order_199 rfl rfl ?_
                                refine r_get (q := 203) (kk := 24) h_197.m rfl wi_RX9 (by decide) rfl fk_X9_84 rfl dX9_order_200 rfl ?_
                                rw [gN_sA, pX_k (by decide) (by decide), hr]
                                refine r_iconst (v := nI 1) (q := 204) dX9_order_203 (by decide) rfl ?_
                                refine r_iadd (q := 205) dX9_order_204 rfl ?_
                                rw [n_add]
                                refine r_p9 (q := 208) (kk := 24) (j := 24) h_197 (by decide) rfl fk_X9_84 dX9_order_205 rfl fun M_205 h_205 => ?_
                                refine r_vret dX9_order_208 ?_
                                refine hQ1 _ ?_
                                rw [mOrR, if_neg (by rw [c184b]; decide)]
                                exact h_205
                              · have c184b : (orX L r 112 (false, s + 1, N)).1 = true := bI_ne c184
                                refine r_vret dX9_order_187 ?_
                                refine hQ1 _ ?_
                                rw [mOrR, if_pos c184b]
                                exact h_177
                            · exact absurd rfl c166
                        · exact absurd c150 (by decide)
                      · exact absurd c138 (by decide)
                  · exact absurd c114 (by decide)
            · exact absurd rfl c82
          · exact absurd rfl c25
    · rw [show mkv L false s = nI 119 from (mk_eq hI (by decide) (by decide)).mpr ⟨rfl, hc⟩]
      rw [hc] at hQ
      have hQ1 : ∀ M', RM G Λ ρ (mOrR μ r 119 (orX L r 119 (false, s + 1, N))) M' → Q none M' := hQ
      refine r_aload_n (q := 6) dX9_order_5 rfl rfl ?_
      refine r_dup (q := 7) dX9_order_6 rfl rfl ?_
      refine r_get (q := 10) (kk := 25) h.m rfl wi_RX9 (by decide) rfl fk_X9_87 rfl dX9_order_7 rfl ?_
      rw [pM_25]
      refine r_iload_n (q := 11) dX9_order_10 rfl rfl ?_
      refine r_bipush (v := nI 115) (q := 13) dX9_order_11 (by decide) rfl ?_
      refine r_icmp_eq (t := 68) (q := 16) dX9_order_13 rfl rfl (fun c13 => ?_) (fun c13 => ?_)
      · exact absurd c13 (by decide)
      · refine r_iload_n (q := 17) dX9_order_16 rfl rfl ?_
        refine r_bipush (v := nI 117) (q := 19) dX9_order_17 (by decide) rfl ?_
        refine r_icmp_eq (t := 68) (q := 22) dX9_order_19 rfl rfl (fun c19 => ?_) (fun c19 => ?_)
        · exact absurd c19 (by decide)
        · refine r_iload_n (q := 23) dX9_order_22 rfl rfl ?_
          refine r_bipush (v := nI 112) (q := 25) dX9_order_23 (by decide) rfl ?_
          refine r_icmp_eq (t := 68) (q := 28) dX9_order_25 rfl rfl (fun c25 => ?_) (fun c25 => ?_)
          · exact absurd c25 (by decide)
          · refine r_iload_n (q := 29) dX9_order_28 rfl rfl ?_
            refine r_bipush (v := nI 119) (q := 31) dX9_order_29 (by decide) rfl ?_
            refine r_icmp_eq (t := 68) (q := 34) dX9_order_31 rfl rfl (fun c31 => ?_) (fun c31 => ?_)
            · refine r_iconst (v := nI 0) (q := 69) dX9_order_68 (by decide) rfl ?_
              refine r_ior (q := 70) dX9_order_69 rfl ?_
              rw [show bI false ||| nI 0 = bI false from rfl]
              refine r_p9b (q := 73) (b := _) (kk := 25) h (Or.inr (Or.inl rfl)) rfl fk_X9_87 dX9_order_70 fun M_70 h_70 => ?_
              rw [pM_w] at h_70
              refine r_aload_n (q := 74) dX9_order_73 rfl rfl ?_
              refine r_dup (q := 75) dX9_order_74 rfl rfl ?_
              refine r_get (q := 78) (kk := 23) h_70.m rfl wi_RX9 (by decide) rfl fk_X9_81 rfl dX9_order_75 rfl ?_
              rw [pM_23]
              refine r_aload_n (q := 79) dX9_order_78 rfl rfl ?_
              refine r_get (q := 82) (kk := 25) h_70.m rfl wi_RX9 (by decide) rfl fk_X9_87 rfl dX9_order_79 rfl ?_
              rw [pM_25]
              refine r_if_eq (t := 89) (q := 85) dX9_order_82 rfl rfl (fun c82 => ?_) (fun c82 => ?_)
              · refine r_iconst (v := nI 1) (q := 90) dX9_order_89 (by decide) rfl ?_
                refine r_iadd (q := 91) dX9_order_90 rfl ?_
                rw [n_add]
                refine r_p9 (q := 94) (kk := 23) (j := 23) h_70 (by decide) rfl fk_X9_81 dX9_order_91 rfl fun M_91 h_91 => ?_
                rw [pM_s] at h_91
                replace h_91 : RM G Λ ρ (pX μ (false, s + 1, N)) M_91 := h_91
                refine r_iload_n (q := 95) dX9_order_94 rfl rfl ?_
                refine r_bipush (v := nI 104) (q := 97) dX9_order_95 (by decide) rfl ?_
                refine r_icmp_eq (t := 105) (q := 100) dX9_order_97 rfl rfl (fun c97 => ?_) (fun c97 => ?_)
                · exact absurd c97 (by decide)
                · refine r_aload_n (q := 101) dX9_order_100 rfl rfl ?_
                  refine r_iconst (v := nI 0) (q := 102) dX9_order_101 (by decide) rfl ?_
                  refine r_cV (q := 105) (As := [.int _]) wc_X9_297 rfl im_X9_takesDigit se_X9_takesDigit h_91.m rfl rfl (Nat.le_of_ble_eq_true rfl) (Nat.le_of_eq (Nat.zero_add _)) (Nat.le_of_eq (Nat.zero_add _)) dX9_order_102 rfl rfl (x_takesDigit h_91 hI (by first | omega | (show s + 1 < _; omega) | (show s < _; omega)) hr hr30 (by decide) fun M_102 h_102 => ?_)
                  have hd1 := dg_le (L := L) (r := r) (a := 0) (x := (false, s + 1, N))
                  replace hd1 : (dgK L r 0 (false, s + 1, N)).2.1 ≤ s + 1 + 1 := hd1
                  refine r_iload_n (q := 106) dX9_order_105 rfl rfl ?_
                  refine r_bipush (v := nI 115) (q := 108) dX9_order_106 (by decide) rfl ?_
                  refine r_icmp_eq (t := 117) (q := 111) dX9_order_108 rfl rfl (fun c108 => ?_) (fun c108 => ?_)
                  · exact absurd c108 (by decide)
                  · refine r_iload_n (q := 112) dX9_order_111 rfl rfl ?_
                    refine r_bipush (v := nI 109) (q := 114) dX9_order_112 (by decide) rfl ?_
                    refine r_icmp_ne (t := 123) (q := 117) dX9_order_114 rfl rfl (fun c114 => ?_) (fun c114 => ?_)
                    · refine r_iload_n (q := 124) dX9_order_123 rfl rfl ?_
                      refine r_bipush (v := nI 112) (q := 126) dX9_order_124 (by decide) rfl ?_
                      refine r_icmp_ne (t := 135) (q := 129) dX9_order_126 rfl rfl (fun c126 => ?_) (fun c126 => ?_)
                      · refine r_iload_n (q := 136) dX9_order_135 rfl rfl ?_
                        refine r_bipush (v := nI 108) (q := 138) dX9_order_136 (by decide) rfl ?_
                        refine r_icmp_ne (t := 147) (q := 141) dX9_order_138 rfl rfl (fun c138 => ?_) (fun c138 => ?_)
                        · refine r_iload_n (q := 148) dX9_order_147 rfl rfl ?_
                          refine r_bipush (v := nI 115) (q := 150) dX9_order_148 (by decide) rfl ?_
                          refine r_icmp_ne (t := 157) (q := 153) dX9_order_150 rfl rfl (fun c150 => ?_) (fun c150 => ?_)
                          · refine r_iload_n (q := 158) dX9_order_157 rfl rfl ?_
                            refine r_bipush (v := nI 109) (q := 160) dX9_order_158 (by decide) rfl ?_
                            refine r_icmp_eq (t := 175) (q := 163) dX9_order_160 rfl rfl (fun c160 => ?_) (fun c160 => ?_)
                            · exact absurd c160 (by decide)
                            · refine r_iload_n (q := 164) dX9_order_163 rfl rfl ?_
                              refine r_bipush (v := nI 112) (q := 166) dX9_order_164 (by decide) rfl ?_
                              refine r_icmp_eq (t := 175) (q := 169) dX9_order_166 rfl rfl (fun c166 => ?_) (fun c166 => ?_)
                              · exact absurd c166 (by decide)
                              · refine r_iload_n (q := 170) dX9_order_169 rfl rfl ?_
                                refine r_bipush (v := nI 108) (q := 172) dX9_order_170 (by decide) rfl ?_
                                refine r_icmp_ne (t := 180) (q := 175) dX9_order_172 rfl rfl (fun c172 => ?_) (fun c172 => ?_)
                                · refine r_aload_n (q := 181) dX9_order_180 rfl rfl ?_
                                  refine r_get (q := 184) (kk := 25) h_102.m rfl wi_RX9 (by decide) rfl fk_X9_87 rfl dX9_order_181 rfl ?_
                                  rw [pX_25]
                                  refine r_if_eq (t := 188) (q := 187) dX9_order_184 rfl rfl (fun c184 => ?_) (fun c184 => ?_)
                                  · have c184b : (orX L r 119 (false, s + 1, N)).1 = false := bI_eq0.mp c184
                                    refine r_aload_n (q := 189) dX9_order_188 rfl rfl ?_
                                    refine r_get (q := 192) (kk := 19) h_102.m rfl wi_RX9 (by decide) rfl fk_X9_69 rfl dX9_order_189 rfl ?_
                                    refine r_aload_n (q := 193) dX9_order_192 rfl rfl ?_
                                    refine r_get (q := 196) (kk := 24) h_102.m rfl wi_RX9 (by decide) rfl fk_X9_84 rfl dX9_order_193 rfl ?_
                                    rw [pX_k (by decide) (by decide), hr]
                                    refine r_iload_n (q := 197) dX9_order_196 rfl rfl ?_
                                    refine r_iastM (q := 198) h_102 (by decide) (by simp only [mLen]; omega) (by omega) dX9_order_197 rfl fun M_197 h_197 => ?_
                                    rw [pX_a (by decide)] at h_197
                                    refine r_aload_n (q := 199) dX9_order_198 rfl rfl ?_
                                    refine r_dup (q := 200) dX9_order_199 rfl rfl ?_
                                    refine r_get (q := 203) (kk := 24) h_197.m rfl wi_RX9 (by decide) rfl fk_X9_84 rfl dX9_order_200 rfl ?_
                                    rw [gN_sA, pX_k (by decide) (by decide), hr]
                                    refine r_iconst (v := nI 1) (q := 204) dX9_order_203 (by decide) rfl ?_
                                    refine r_iadd (q := 205) dX9_order_204 rfl ?_
                                    rw [n_add]
                                    refine r_p9 (q := 208) (kk := 24) (j := 24) h_197 (by decide) rfl fk_X9_84 dX9_order_205 rfl fun M_205 h_205 => ?_
                                    refine r_vret dX9_order_208 ?_
                                    refine hQ1 _ ?_
                                    rw [mOrR, if_neg (by rw [c184b]; decide)]
                                    exact h_205
                                  · have c184b : (orX L r 119 (false, s + 1, N)).1 = true := bI_ne c184
                                    refine r_vret dX9_order_187 ?_
                                    refine hQ1 _ ?_
                                    rw [mOrR, if_pos c184b]
                                    exact h_102
                                · exact absurd c172 (by decide)
                          · exact absurd c150 (by decide)
                        · exact absurd c138 (by decide)
                      · exact absurd c126 (by decide)
                    · exact absurd c114 (by decide)
              · exact absurd rfl c82
            · exact absurd rfl c31
    · rw [show mkv L false s = nI 108 from (mk_eq hI (by decide) (by decide)).mpr ⟨rfl, hc⟩]
      rw [hc] at hQ
      have hQ1 : ∀ M', RM G Λ ρ (mOrR μ r 108 (orX L r 108 (false, s + 1, N))) M' → Q none M' := hQ
      refine r_aload_n (q := 6) dX9_order_5 rfl rfl ?_
      refine r_dup (q := 7) dX9_order_6 rfl rfl ?_
      refine r_get (q := 10) (kk := 25) h.m rfl wi_RX9 (by decide) rfl fk_X9_87 rfl dX9_order_7 rfl ?_
      rw [pM_25]
      refine r_iload_n (q := 11) dX9_order_10 rfl rfl ?_
      refine r_bipush (v := nI 115) (q := 13) dX9_order_11 (by decide) rfl ?_
      refine r_icmp_eq (t := 68) (q := 16) dX9_order_13 rfl rfl (fun c13 => ?_) (fun c13 => ?_)
      · exact absurd c13 (by decide)
      · refine r_iload_n (q := 17) dX9_order_16 rfl rfl ?_
        refine r_bipush (v := nI 117) (q := 19) dX9_order_17 (by decide) rfl ?_
        refine r_icmp_eq (t := 68) (q := 22) dX9_order_19 rfl rfl (fun c19 => ?_) (fun c19 => ?_)
        · exact absurd c19 (by decide)
        · refine r_iload_n (q := 23) dX9_order_22 rfl rfl ?_
          refine r_bipush (v := nI 112) (q := 25) dX9_order_23 (by decide) rfl ?_
          refine r_icmp_eq (t := 68) (q := 28) dX9_order_25 rfl rfl (fun c25 => ?_) (fun c25 => ?_)
          · exact absurd c25 (by decide)
          · refine r_iload_n (q := 29) dX9_order_28 rfl rfl ?_
            refine r_bipush (v := nI 119) (q := 31) dX9_order_29 (by decide) rfl ?_
            refine r_icmp_eq (t := 68) (q := 34) dX9_order_31 rfl rfl (fun c31 => ?_) (fun c31 => ?_)
            · exact absurd c31 (by decide)
            · refine r_iload_n (q := 35) dX9_order_34 rfl rfl ?_
              refine r_bipush (v := nI 108) (q := 37) dX9_order_35 (by decide) rfl ?_
              refine r_icmp_eq (t := 68) (q := 40) dX9_order_37 rfl rfl (fun c37 => ?_) (fun c37 => ?_)
              · refine r_iconst (v := nI 0) (q := 69) dX9_order_68 (by decide) rfl ?_
                refine r_ior (q := 70) dX9_order_69 rfl ?_
                rw [show bI false ||| nI 0 = bI false from rfl]
                refine r_p9b (q := 73) (b := _) (kk := 25) h (Or.inr (Or.inl rfl)) rfl fk_X9_87 dX9_order_70 fun M_70 h_70 => ?_
                rw [pM_w] at h_70
                refine r_aload_n (q := 74) dX9_order_73 rfl rfl ?_
                refine r_dup (q := 75) dX9_order_74 rfl rfl ?_
                refine r_get (q := 78) (kk := 23) h_70.m rfl wi_RX9 (by decide) rfl fk_X9_81 rfl dX9_order_75 rfl ?_
                rw [pM_23]
                refine r_aload_n (q := 79) dX9_order_78 rfl rfl ?_
                refine r_get (q := 82) (kk := 25) h_70.m rfl wi_RX9 (by decide) rfl fk_X9_87 rfl dX9_order_79 rfl ?_
                rw [pM_25]
                refine r_if_eq (t := 89) (q := 85) dX9_order_82 rfl rfl (fun c82 => ?_) (fun c82 => ?_)
                · refine r_iconst (v := nI 1) (q := 90) dX9_order_89 (by decide) rfl ?_
                  refine r_iadd (q := 91) dX9_order_90 rfl ?_
                  rw [n_add]
                  refine r_p9 (q := 94) (kk := 23) (j := 23) h_70 (by decide) rfl fk_X9_81 dX9_order_91 rfl fun M_91 h_91 => ?_
                  rw [pM_s] at h_91
                  replace h_91 : RM G Λ ρ (pX μ (false, s + 1, N)) M_91 := h_91
                  refine r_iload_n (q := 95) dX9_order_94 rfl rfl ?_
                  refine r_bipush (v := nI 104) (q := 97) dX9_order_95 (by decide) rfl ?_
                  refine r_icmp_eq (t := 105) (q := 100) dX9_order_97 rfl rfl (fun c97 => ?_) (fun c97 => ?_)
                  · exact absurd c97 (by decide)
                  · refine r_aload_n (q := 101) dX9_order_100 rfl rfl ?_
                    refine r_iconst (v := nI 0) (q := 102) dX9_order_101 (by decide) rfl ?_
                    refine r_cV (q := 105) (As := [.int _]) wc_X9_297 rfl im_X9_takesDigit se_X9_takesDigit h_91.m rfl rfl (Nat.le_of_ble_eq_true rfl) (Nat.le_of_eq (Nat.zero_add _)) (Nat.le_of_eq (Nat.zero_add _)) dX9_order_102 rfl rfl (x_takesDigit h_91 hI (by first | omega | (show s + 1 < _; omega) | (show s < _; omega)) hr hr30 (by decide) fun M_102 h_102 => ?_)
                    have hd1 := dg_le (L := L) (r := r) (a := 0) (x := (false, s + 1, N))
                    replace hd1 : (dgK L r 0 (false, s + 1, N)).2.1 ≤ s + 1 + 1 := hd1
                    refine r_iload_n (q := 106) dX9_order_105 rfl rfl ?_
                    refine r_bipush (v := nI 115) (q := 108) dX9_order_106 (by decide) rfl ?_
                    refine r_icmp_eq (t := 117) (q := 111) dX9_order_108 rfl rfl (fun c108 => ?_) (fun c108 => ?_)
                    · exact absurd c108 (by decide)
                    · refine r_iload_n (q := 112) dX9_order_111 rfl rfl ?_
                      refine r_bipush (v := nI 109) (q := 114) dX9_order_112 (by decide) rfl ?_
                      refine r_icmp_ne (t := 123) (q := 117) dX9_order_114 rfl rfl (fun c114 => ?_) (fun c114 => ?_)
                      · refine r_iload_n (q := 124) dX9_order_123 rfl rfl ?_
                        refine r_bipush (v := nI 112) (q := 126) dX9_order_124 (by decide) rfl ?_
                        refine r_icmp_ne (t := 135) (q := 129) dX9_order_126 rfl rfl (fun c126 => ?_) (fun c126 => ?_)
                        · refine r_iload_n (q := 136) dX9_order_135 rfl rfl ?_
                          refine r_bipush (v := nI 108) (q := 138) dX9_order_136 (by decide) rfl ?_
                          refine r_icmp_ne (t := 147) (q := 141) dX9_order_138 rfl rfl (fun c138 => ?_) (fun c138 => ?_)
                          · exact absurd rfl c138
                          · refine r_aload_n (q := 142) dX9_order_141 rfl rfl ?_
                            refine r_bipush (v := nI 62) (q := 144) dX9_order_142 (by decide) rfl ?_
                            refine r_cV (q := 147) (As := [.int _]) wc_X9_300 rfl im_X9_takes se_X9_takes h_102.m rfl rfl (Nat.le_of_ble_eq_true rfl) (Nat.le_of_eq (Nat.zero_add _)) (Nat.le_of_eq (Nat.zero_add _)) dX9_order_144 rfl rfl (x_takes h_102 hI (by omega) (by decide) (by decide) fun M_144 h_144 => ?_)
                            have hd2 := tk_le (L := L) (c := 62) (x := dgK L r 0 (false, s + 1, N))
                            refine r_iload_n (q := 148) dX9_order_147 rfl rfl ?_
                            refine r_bipush (v := nI 115) (q := 150) dX9_order_148 (by decide) rfl ?_
                            refine r_icmp_ne (t := 157) (q := 153) dX9_order_150 rfl rfl (fun c150 => ?_) (fun c150 => ?_)
                            · refine r_iload_n (q := 158) dX9_order_157 rfl rfl ?_
                              refine r_bipush (v := nI 109) (q := 160) dX9_order_158 (by decide) rfl ?_
                              refine r_icmp_eq (t := 175) (q := 163) dX9_order_160 rfl rfl (fun c160 => ?_) (fun c160 => ?_)
                              · exact absurd c160 (by decide)
                              · refine r_iload_n (q := 164) dX9_order_163 rfl rfl ?_
                                refine r_bipush (v := nI 112) (q := 166) dX9_order_164 (by decide) rfl ?_
                                refine r_icmp_eq (t := 175) (q := 169) dX9_order_166 rfl rfl (fun c166 => ?_) (fun c166 => ?_)
                                · exact absurd c166 (by decide)
                                · refine r_iload_n (q := 170) dX9_order_169 rfl rfl ?_
                                  refine r_bipush (v := nI 108) (q := 172) dX9_order_170 (by decide) rfl ?_
                                  refine r_icmp_ne (t := 180) (q := 175) dX9_order_172 rfl rfl (fun c172 => ?_) (fun c172 => ?_)
                                  · exact absurd rfl c172
                                  · refine r_aload_n (q := 176) dX9_order_175 rfl rfl ?_
                                    refine r_iconst (v := nI 1) (q := 177) dX9_order_176 (by decide) rfl ?_
                                    refine r_cV (q := 180) (As := [.int _]) wc_X9_297 rfl im_X9_takesDigit se_X9_takesDigit h_144.m rfl rfl (Nat.le_of_ble_eq_true rfl) (Nat.le_of_eq (Nat.zero_add _)) (Nat.le_of_eq (Nat.zero_add _)) dX9_order_177 rfl rfl (x_takesDigit h_144 hI (by first | omega | (show s + 1 < _; omega) | (show s < _; omega)) hr hr30 (by decide) fun M_177 h_177 => ?_)
                                    refine r_aload_n (q := 181) dX9_order_180 rfl rfl ?_
                                    refine r_get (q := 184) (kk := 25) h_177.m rfl wi_RX9 (by decide) rfl fk_X9_87 rfl dX9_order_181 rfl ?_
                                    rw [pX_25]
                                    refine r_if_eq (t := 188) (q := 187) dX9_order_184 rfl rfl (fun c184 => ?_) (fun c184 => ?_)
                                    · have c184b : (orX L r 108 (false, s + 1, N)).1 = false := bI_eq0.mp c184
                                      refine r_aload_n (q := 189) dX9_order_188 rfl rfl ?_
                                      refine r_get (q := 192) (kk := 19) h_177.m rfl wi_RX9 (by decide) rfl fk_X9_69 rfl dX9_order_189 rfl ?_
                                      refine r_aload_n (q := 193) dX9_order_192 rfl rfl ?_
                                      refine r_get (q := 196) (kk := 24) h_177.m rfl wi_RX9 (by decide) rfl fk_X9_84 rfl dX9_order_193 rfl ?_
                                      rw [pX_k (by decide) (by decide), hr]
                                      refine r_iload_n (q := 197) dX9_order_196 rfl rfl ?_
                                      refine r_iastM (q := 198) h_177 (by decide) (by simp only [mLen]; omega) (by omega) dX9_order_197 rfl fun M_197 h_197 => ?_
                                      rw [pX_a (by decide)] at h_197
                                      refine r_aload_n (q := 199) dX9_order_198 rfl rfl ?_
                                      refine r_dup (q := 200) dX9_order_199 rfl rfl ?_
                                      refine r_get (q := 203) (kk := 24) h_197.m rfl wi_RX9 (by decide) rfl fk_X9_84 rfl dX9_order_200 rfl ?_
                                      rw [gN_sA, pX_k (by decide) (by decide), hr]
                                      refine r_iconst (v := nI 1) (q := 204) dX9_order_203 (by decide) rfl ?_
                                      refine r_iadd (q := 205) dX9_order_204 rfl ?_
                                      rw [n_add]
                                      refine r_p9 (q := 208) (kk := 24) (j := 24) h_197 (by decide) rfl fk_X9_84 dX9_order_205 rfl fun M_205 h_205 => ?_
                                      refine r_vret dX9_order_208 ?_
                                      refine hQ1 _ ?_
                                      rw [mOrR, if_neg (by rw [c184b]; decide)]
                                      exact h_205
                                    · have c184b : (orX L r 108 (false, s + 1, N)).1 = true := bI_ne c184
                                      refine r_vret dX9_order_187 ?_
                                      refine hQ1 _ ?_
                                      rw [mOrR, if_pos c184b]
                                      exact h_177
                            · exact absurd c150 (by decide)
                        · exact absurd c126 (by decide)
                      · exact absurd c114 (by decide)
                · exact absurd rfl c82
              · exact absurd rfl c37
    · rw [show mkv L false s = nI 120 from (mk_eq hI (by decide) (by decide)).mpr ⟨rfl, hc⟩]
      rw [hc] at hQ
      have hQ1 : ∀ M', RM G Λ ρ (mOrR μ r 120 (orX L r 120 (false, s + 1, N))) M' → Q none M' := hQ
      refine r_aload_n (q := 6) dX9_order_5 rfl rfl ?_
      refine r_dup (q := 7) dX9_order_6 rfl rfl ?_
      refine r_get (q := 10) (kk := 25) h.m rfl wi_RX9 (by decide) rfl fk_X9_87 rfl dX9_order_7 rfl ?_
      rw [pM_25]
      refine r_iload_n (q := 11) dX9_order_10 rfl rfl ?_
      refine r_bipush (v := nI 115) (q := 13) dX9_order_11 (by decide) rfl ?_
      refine r_icmp_eq (t := 68) (q := 16) dX9_order_13 rfl rfl (fun c13 => ?_) (fun c13 => ?_)
      · exact absurd c13 (by decide)
      · refine r_iload_n (q := 17) dX9_order_16 rfl rfl ?_
        refine r_bipush (v := nI 117) (q := 19) dX9_order_17 (by decide) rfl ?_
        refine r_icmp_eq (t := 68) (q := 22) dX9_order_19 rfl rfl (fun c19 => ?_) (fun c19 => ?_)
        · exact absurd c19 (by decide)
        · refine r_iload_n (q := 23) dX9_order_22 rfl rfl ?_
          refine r_bipush (v := nI 112) (q := 25) dX9_order_23 (by decide) rfl ?_
          refine r_icmp_eq (t := 68) (q := 28) dX9_order_25 rfl rfl (fun c25 => ?_) (fun c25 => ?_)
          · exact absurd c25 (by decide)
          · refine r_iload_n (q := 29) dX9_order_28 rfl rfl ?_
            refine r_bipush (v := nI 119) (q := 31) dX9_order_29 (by decide) rfl ?_
            refine r_icmp_eq (t := 68) (q := 34) dX9_order_31 rfl rfl (fun c31 => ?_) (fun c31 => ?_)
            · exact absurd c31 (by decide)
            · refine r_iload_n (q := 35) dX9_order_34 rfl rfl ?_
              refine r_bipush (v := nI 108) (q := 37) dX9_order_35 (by decide) rfl ?_
              refine r_icmp_eq (t := 68) (q := 40) dX9_order_37 rfl rfl (fun c37 => ?_) (fun c37 => ?_)
              · exact absurd c37 (by decide)
              · refine r_iload_n (q := 41) dX9_order_40 rfl rfl ?_
                refine r_bipush (v := nI 120) (q := 43) dX9_order_41 (by decide) rfl ?_
                refine r_icmp_eq (t := 68) (q := 46) dX9_order_43 rfl rfl (fun c43 => ?_) (fun c43 => ?_)
                · refine r_iconst (v := nI 0) (q := 69) dX9_order_68 (by decide) rfl ?_
                  refine r_ior (q := 70) dX9_order_69 rfl ?_
                  rw [show bI false ||| nI 0 = bI false from rfl]
                  refine r_p9b (q := 73) (b := _) (kk := 25) h (Or.inr (Or.inl rfl)) rfl fk_X9_87 dX9_order_70 fun M_70 h_70 => ?_
                  rw [pM_w] at h_70
                  refine r_aload_n (q := 74) dX9_order_73 rfl rfl ?_
                  refine r_dup (q := 75) dX9_order_74 rfl rfl ?_
                  refine r_get (q := 78) (kk := 23) h_70.m rfl wi_RX9 (by decide) rfl fk_X9_81 rfl dX9_order_75 rfl ?_
                  rw [pM_23]
                  refine r_aload_n (q := 79) dX9_order_78 rfl rfl ?_
                  refine r_get (q := 82) (kk := 25) h_70.m rfl wi_RX9 (by decide) rfl fk_X9_87 rfl dX9_order_79 rfl ?_
                  rw [pM_25]
                  refine r_if_eq (t := 89) (q := 85) dX9_order_82 rfl rfl (fun c82 => ?_) (fun c82 => ?_)
                  · refine r_iconst (v := nI 1) (q := 90) dX9_order_89 (by decide) rfl ?_
                    refine r_iadd (q := 91) dX9_order_90 rfl ?_
                    rw [n_add]
                    refine r_p9 (q := 94) (kk := 23) (j := 23) h_70 (by decide) rfl fk_X9_81 dX9_order_91 rfl fun M_91 h_91 => ?_
                    rw [pM_s] at h_91
                    replace h_91 : RM G Λ ρ (pX μ (false, s + 1, N)) M_91 := h_91
                    refine r_iload_n (q := 95) dX9_order_94 rfl rfl ?_
                    refine r_bipush (v := nI 104) (q := 97) dX9_order_95 (by decide) rfl ?_
                    refine r_icmp_eq (t := 105) (q := 100) dX9_order_97 rfl rfl (fun c97 => ?_) (fun c97 => ?_)
                    · exact absurd c97 (by decide)
                    · refine r_aload_n (q := 101) dX9_order_100 rfl rfl ?_
                      refine r_iconst (v := nI 0) (q := 102) dX9_order_101 (by decide) rfl ?_
                      refine r_cV (q := 105) (As := [.int _]) wc_X9_297 rfl im_X9_takesDigit se_X9_takesDigit h_91.m rfl rfl (Nat.le_of_ble_eq_true rfl) (Nat.le_of_eq (Nat.zero_add _)) (Nat.le_of_eq (Nat.zero_add _)) dX9_order_102 rfl rfl (x_takesDigit h_91 hI (by first | omega | (show s + 1 < _; omega) | (show s < _; omega)) hr hr30 (by decide) fun M_102 h_102 => ?_)
                      have hd1 := dg_le (L := L) (r := r) (a := 0) (x := (false, s + 1, N))
                      replace hd1 : (dgK L r 0 (false, s + 1, N)).2.1 ≤ s + 1 + 1 := hd1
                      refine r_iload_n (q := 106) dX9_order_105 rfl rfl ?_
                      refine r_bipush (v := nI 115) (q := 108) dX9_order_106 (by decide) rfl ?_
                      refine r_icmp_eq (t := 117) (q := 111) dX9_order_108 rfl rfl (fun c108 => ?_) (fun c108 => ?_)
                      · exact absurd c108 (by decide)
                      · refine r_iload_n (q := 112) dX9_order_111 rfl rfl ?_
                        refine r_bipush (v := nI 109) (q := 114) dX9_order_112 (by decide) rfl ?_
                        refine r_icmp_ne (t := 123) (q := 117) dX9_order_114 rfl rfl (fun c114 => ?_) (fun c114 => ?_)
                        · refine r_iload_n (q := 124) dX9_order_123 rfl rfl ?_
                          refine r_bipush (v := nI 112) (q := 126) dX9_order_124 (by decide) rfl ?_
                          refine r_icmp_ne (t := 135) (q := 129) dX9_order_126 rfl rfl (fun c126 => ?_) (fun c126 => ?_)
                          · refine r_iload_n (q := 136) dX9_order_135 rfl rfl ?_
                            refine r_bipush (v := nI 108) (q := 138) dX9_order_136 (by decide) rfl ?_
                            refine r_icmp_ne (t := 147) (q := 141) dX9_order_138 rfl rfl (fun c138 => ?_) (fun c138 => ?_)
                            · refine r_iload_n (q := 148) dX9_order_147 rfl rfl ?_
                              refine r_bipush (v := nI 115) (q := 150) dX9_order_148 (by decide) rfl ?_
                              refine r_icmp_ne (t := 157) (q := 153) dX9_order_150 rfl rfl (fun c150 => ?_) (fun c150 => ?_)
                              · refine r_iload_n (q := 158) dX9_order_157 rfl rfl ?_
                                refine r_bipush (v := nI 109) (q := 160) dX9_order_158 (by decide) rfl ?_
                                refine r_icmp_eq (t := 175) (q := 163) dX9_order_160 rfl rfl (fun c160 => ?_) (fun c160 => ?_)
                                · exact absurd c160 (by decide)
                                · refine r_iload_n (q := 164) dX9_order_163 rfl rfl ?_
                                  refine r_bipush (v := nI 112) (q := 166) dX9_order_164 (by decide) rfl ?_
                                  refine r_icmp_eq (t := 175) (q := 169) dX9_order_166 rfl rfl (fun c166 => ?_) (fun c166 => ?_)
                                  · exact absurd c166 (by decide)
                                  · refine r_iload_n (q := 170) dX9_order_169 rfl rfl ?_
                                    refine r_bipush (v := nI 108) (q := 172) dX9_order_170 (by decide) rfl ?_
                                    refine r_icmp_ne (t := 180) (q := 175) dX9_order_172 rfl rfl (fun c172 => ?_) (fun c172 => ?_)
                                    · refine r_aload_n (q := 181) dX9_order_180 rfl rfl ?_
                                      refine r_get (q := 184) (kk := 25) h_102.m rfl wi_RX9 (by decide) rfl fk_X9_87 rfl dX9_order_181 rfl ?_
                                      rw [pX_25]
                                      refine r_if_eq (t := 188) (q := 187) dX9_order_184 rfl rfl (fun c184 => ?_) (fun c184 => ?_)
                                      · have c184b : (orX L r 120 (false, s + 1, N)).1 = false := bI_eq0.mp c184
                                        refine r_aload_n (q := 189) dX9_order_188 rfl rfl ?_
                                        refine r_get (q := 192) (kk := 19) h_102.m rfl wi_RX9 (by decide) rfl fk_X9_69 rfl dX9_order_189 rfl ?_
                                        refine r_aload_n (q := 193) dX9_order_192 rfl rfl ?_
                                        refine r_get (q := 196) (kk := 24) h_102.m rfl wi_RX9 (by decide) rfl fk_X9_84 rfl dX9_order_193 rfl ?_
                                        rw [pX_k (by decide) (by decide), hr]
                                        refine r_iload_n (q := 197) dX9_order_196 rfl rfl ?_
                                        refine r_iastM (q := 198) h_102 (by decide) (by simp only [mLen]; omega) (by omega) dX9_order_197 rfl fun M_197 h_197 => ?_
                                        rw [pX_a (by decide)] at h_197
                                        refine r_aload_n (q := 199) dX9_order_198 rfl rfl ?_
                                        refine r_dup (q := 200) dX9_order_199 rfl rfl ?_
                                        refine r_get (q := 203) (kk := 24) h_197.m rfl wi_RX9 (by decide) rfl fk_X9_84 rfl dX9_order_200 rfl ?_
                                        rw [gN_sA, pX_k (by decide) (by decide), hr]
                                        refine r_iconst (v := nI 1) (q := 204) dX9_order_203 (by decide) rfl ?_
                                        refine r_iadd (q := 205) dX9_order_204 rfl ?_
                                        rw [n_add]
                                        refine r_p9 (q := 208) (kk := 24) (j := 24) h_197 (by decide) rfl fk_X9_84 dX9_order_205 rfl fun M_205 h_205 => ?_
                                        refine r_vret dX9_order_208 ?_
                                        refine hQ1 _ ?_
                                        rw [mOrR, if_neg (by rw [c184b]; decide)]
                                        exact h_205
                                      · have c184b : (orX L r 120 (false, s + 1, N)).1 = true := bI_ne c184
                                        refine r_vret dX9_order_187 ?_
                                        refine hQ1 _ ?_
                                        rw [mOrR, if_pos c184b]
                                        exact h_102
                                    · exact absurd c172 (by decide)
                              · exact absurd c150 (by decide)
                            · exact absurd c138 (by decide)
                          · exact absurd c126 (by decide)
                        · exact absurd c114 (by decide)
                  · exact absurd rfl c82
                · exact absurd rfl c43
    · rw [show mkv L false s = nI 109 from (mk_eq hI (by decide) (by decide)).mpr ⟨rfl, hc⟩]
      rw [hc] at hQ
      have hQ1 : ∀ M', RM G Λ ρ (mOrR μ r 109 (orX L r 109 (false, s + 1, N))) M' → Q none M' := hQ
      refine r_aload_n (q := 6) dX9_order_5 rfl rfl ?_
      refine r_dup (q := 7) dX9_order_6 rfl rfl ?_
      refine r_get (q := 10) (kk := 25) h.m rfl wi_RX9 (by decide) rfl fk_X9_87 rfl dX9_order_7 rfl ?_
      rw [pM_25]
      refine r_iload_n (q := 11) dX9_order_10 rfl rfl ?_
      refine r_bipush (v := nI 115) (q := 13) dX9_order_11 (by decide) rfl ?_
      refine r_icmp_eq (t := 68) (q := 16) dX9_order_13 rfl rfl (fun c13 => ?_) (fun c13 => ?_)
      · exact absurd c13 (by decide)
      · refine r_iload_n (q := 17) dX9_order_16 rfl rfl ?_
        refine r_bipush (v := nI 117) (q := 19) dX9_order_17 (by decide) rfl ?_
        refine r_icmp_eq (t := 68) (q := 22) dX9_order_19 rfl rfl (fun c19 => ?_) (fun c19 => ?_)
        · exact absurd c19 (by decide)
        · refine r_iload_n (q := 23) dX9_order_22 rfl rfl ?_
          refine r_bipush (v := nI 112) (q := 25) dX9_order_23 (by decide) rfl ?_
          refine r_icmp_eq (t := 68) (q := 28) dX9_order_25 rfl rfl (fun c25 => ?_) (fun c25 => ?_)
          · exact absurd c25 (by decide)
          · refine r_iload_n (q := 29) dX9_order_28 rfl rfl ?_
            refine r_bipush (v := nI 119) (q := 31) dX9_order_29 (by decide) rfl ?_
            refine r_icmp_eq (t := 68) (q := 34) dX9_order_31 rfl rfl (fun c31 => ?_) (fun c31 => ?_)
            · exact absurd c31 (by decide)
            · refine r_iload_n (q := 35) dX9_order_34 rfl rfl ?_
              refine r_bipush (v := nI 108) (q := 37) dX9_order_35 (by decide) rfl ?_
              refine r_icmp_eq (t := 68) (q := 40) dX9_order_37 rfl rfl (fun c37 => ?_) (fun c37 => ?_)
              · exact absurd c37 (by decide)
              · refine r_iload_n (q := 41) dX9_order_40 rfl rfl ?_
                refine r_bipush (v := nI 120) (q := 43) dX9_order_41 (by decide) rfl ?_
                refine r_icmp_eq (t := 68) (q := 46) dX9_order_43 rfl rfl (fun c43 => ?_) (fun c43 => ?_)
                · exact absurd c43 (by decide)
                · refine r_iload_n (q := 47) dX9_order_46 rfl rfl ?_
                  refine r_bipush (v := nI 109) (q := 49) dX9_order_47 (by decide) rfl ?_
                  refine r_icmp_eq (t := 68) (q := 52) dX9_order_49 rfl rfl (fun c49 => ?_) (fun c49 => ?_)
                  · refine r_iconst (v := nI 0) (q := 69) dX9_order_68 (by decide) rfl ?_
                    refine r_ior (q := 70) dX9_order_69 rfl ?_
                    rw [show bI false ||| nI 0 = bI false from rfl]
                    refine r_p9b (q := 73) (b := _) (kk := 25) h (Or.inr (Or.inl rfl)) rfl fk_X9_87 dX9_order_70 fun M_70 h_70 => ?_
                    rw [pM_w] at h_70
                    refine r_aload_n (q := 74) dX9_order_73 rfl rfl ?_
                    refine r_dup (q := 75) dX9_order_74 rfl rfl ?_
                    refine r_get (q := 78) (kk := 23) h_70.m rfl wi_RX9 (by decide) rfl fk_X9_81 rfl dX9_order_75 rfl ?_
                    rw [pM_23]
                    refine r_aload_n (q := 79) dX9_order_78 rfl rfl ?_
                    refine r_get (q := 82) (kk := 25) h_70.m rfl wi_RX9 (by decide) rfl fk_X9_87 rfl dX9_order_79 rfl ?_
                    rw [pM_25]
                    refine r_if_eq (t := 89) (q := 85) dX9_order_82 rfl rfl (fun c82 => ?_) (fun c82 => ?_)
                    · refine r_iconst (v := nI 1) (q := 90) dX9_order_89 (by decide) rfl ?_
                      refine r_iadd (q := 91) dX9_order_90 rfl ?_
                      rw [n_add]
                      refine r_p9 (q := 94) (kk := 23) (j := 23) h_70 (by decide) rfl fk_X9_81 dX9_order_91 rfl fun M_91 h_91 => ?_
                      rw [pM_s] at h_91
                      replace h_91 : RM G Λ ρ (pX μ (false, s + 1, N)) M_91 := h_91
                      refine r_iload_n (q := 95) dX9_order_94 rfl rfl ?_
                      refine r_bipush (v := nI 104) (q := 97) dX9_order_95 (by decide) rfl ?_
                      refine r_icmp_eq (t := 105) (q := 100) dX9_order_97 rfl rfl (fun c97 => ?_) (fun c97 => ?_)
                      · exact absurd c97 (by decide)
                      · refine r_aload_n (q := 101) dX9_order_100 rfl rfl ?_
                        refine r_iconst (v := nI 0) (q := 102) dX9_order_101 (by decide) rfl ?_
                        refine r_cV (q := 105) (As := [.int _]) wc_X9_297 rfl im_X9_takesDigit se_X9_takesDigit h_91.m rfl rfl (Nat.le_of_ble_eq_true rfl) (Nat.le_of_eq (Nat.zero_add _)) (Nat.le_of_eq (Nat.zero_add _)) dX9_order_102 rfl rfl (x_takesDigit h_91 hI (by first | omega | (show s + 1 < _; omega) | (show s < _; omega)) hr hr30 (by decide) fun M_102 h_102 => ?_)
                        have hd1 := dg_le (L := L) (r := r) (a := 0) (x := (false, s + 1, N))
                        replace hd1 : (dgK L r 0 (false, s + 1, N)).2.1 ≤ s + 1 + 1 := hd1
                        refine r_iload_n (q := 106) dX9_order_105 rfl rfl ?_
                        refine r_bipush (v := nI 115) (q := 108) dX9_order_106 (by decide) rfl ?_
                        refine r_icmp_eq (t := 117) (q := 111) dX9_order_108 rfl rfl (fun c108 => ?_) (fun c108 => ?_)
                        · exact absurd c108 (by decide)
                        · refine r_iload_n (q := 112) dX9_order_111 rfl rfl ?_
                          refine r_bipush (v := nI 109) (q := 114) dX9_order_112 (by decide) rfl ?_
                          refine r_icmp_ne (t := 123) (q := 117) dX9_order_114 rfl rfl (fun c114 => ?_) (fun c114 => ?_)
                          · exact absurd rfl c114
                          · refine r_aload_n (q := 118) dX9_order_117 rfl rfl ?_
                            refine r_bipush (v := nI 58) (q := 120) dX9_order_118 (by decide) rfl ?_
                            refine r_cV (q := 123) (As := [.int _]) wc_X9_300 rfl im_X9_takes se_X9_takes h_102.m rfl rfl (Nat.le_of_ble_eq_true rfl) (Nat.le_of_eq (Nat.zero_add _)) (Nat.le_of_eq (Nat.zero_add _)) dX9_order_120 rfl rfl (x_takes h_102 hI (by omega) (by decide) (by decide) fun M_120 h_120 => ?_)
                            have hd2 := tk_le (L := L) (c := 58) (x := dgK L r 0 (false, s + 1, N))
                            refine r_iload_n (q := 124) dX9_order_123 rfl rfl ?_
                            refine r_bipush (v := nI 112) (q := 126) dX9_order_124 (by decide) rfl ?_
                            refine r_icmp_ne (t := 135) (q := 129) dX9_order_126 rfl rfl (fun c126 => ?_) (fun c126 => ?_)
                            · refine r_iload_n (q := 136) dX9_order_135 rfl rfl ?_
                              refine r_bipush (v := nI 108) (q := 138) dX9_order_136 (by decide) rfl ?_
                              refine r_icmp_ne (t := 147) (q := 141) dX9_order_138 rfl rfl (fun c138 => ?_) (fun c138 => ?_)
                              · refine r_iload_n (q := 148) dX9_order_147 rfl rfl ?_
                                refine r_bipush (v := nI 115) (q := 150) dX9_order_148 (by decide) rfl ?_
                                refine r_icmp_ne (t := 157) (q := 153) dX9_order_150 rfl rfl (fun c150 => ?_) (fun c150 => ?_)
                                · refine r_iload_n (q := 158) dX9_order_157 rfl rfl ?_
                                  refine r_bipush (v := nI 109) (q := 160) dX9_order_158 (by decide) rfl ?_
                                  refine r_icmp_eq (t := 175) (q := 163) dX9_order_160 rfl rfl (fun c160 => ?_) (fun c160 => ?_)
                                  · refine r_aload_n (q := 176) dX9_order_175 rfl rfl ?_
                                    refine r_iconst (v := nI 1) (q := 177) dX9_order_176 (by decide) rfl ?_
                                    refine r_cV (q := 180) (As := [.int _]) wc_X9_297 rfl im_X9_takesDigit se_X9_takesDigit h_120.m rfl rfl (Nat.le_of_ble_eq_true rfl) (Nat.le_of_eq (Nat.zero_add _)) (Nat.le_of_eq (Nat.zero_add _)) dX9_order_177 rfl rfl (x_takesDigit h_120 hI (by first | omega | (show s + 1 < _; omega) | (show s < _; omega)) hr hr30 (by decide) fun M_177 h_177 => ?_)
                                    refine r_aload_n (q := 181) dX9_order_180 rfl rfl ?_
                                    refine r_get (q := 184) (kk := 25) h_177.m rfl wi_RX9 (by decide) rfl fk_X9_87 rfl dX9_order_181 rfl ?_
                                    rw [pX_25]
                                    refine r_if_eq (t := 188) (q := 187) dX9_order_184 rfl rfl (fun c184 => ?_) (fun c184 => ?_)
                                    · have c184b : (orX L r 109 (false, s + 1, N)).1 = false := bI_eq0.mp c184
                                      refine r_aload_n (q := 189) dX9_order_188 rfl rfl ?_
                                      refine r_get (q := 192) (kk := 19) h_177.m rfl wi_RX9 (by decide) rfl fk_X9_69 rfl dX9_order_189 rfl ?_
                                      refine r_aload_n (q := 193) dX9_order_192 rfl rfl ?_
                                      refine r_get (q := 196) (kk := 24) h_177.m rfl wi_RX9 (by decide) rfl fk_X9_84 rfl dX9_order_193 rfl ?_
                                      rw [pX_k (by decide) (by decide), hr]
                                      refine r_iload_n (q := 197) dX9_order_196 rfl rfl ?_
                                      refine r_iastM (q := 198) h_177 (by decide) (by simp only [mLen]; omega) (by omega) dX9_order_197 rfl fun M_197 h_197 => ?_
                                      rw [pX_a (by decide)] at h_197
                                      refine r_aload_n (q := 199) dX9_order_198 rfl rfl ?_
                                      refine r_dup (q := 200) dX9_order_199 rfl rfl ?_
                                      refine r_get (q := 203) (kk := 24) h_197.m rfl wi_RX9 (by decide) rfl fk_X9_84 rfl dX9_order_200 rfl ?_
                                      rw [gN_sA, pX_k (by decide) (by decide), hr]
                                      refine r_iconst (v := nI 1) (q := 204) dX9_order_203 (by decide) rfl ?_
                                      refine r_iadd (q := 205) dX9_order_204 rfl ?_
                                      rw [n_add]
                                      refine r_p9 (q := 208) (kk := 24) (j := 24) h_197 (by decide) rfl fk_X9_84 dX9_order_205 rfl fun M_205 h_205 => ?_
                                      refine r_vret dX9_order_208 ?_
                                      refine hQ1 _ ?_
                                      rw [mOrR, if_neg (by rw [c184b]; decide)]
                                      exact h_205
                                    · have c184b : (orX L r 109 (false, s + 1, N)).1 = true := bI_ne c184
                                      refine r_vret dX9_order_187 ?_
                                      refine hQ1 _ ?_
                                      rw [mOrR, if_pos c184b]
                                      exact h_177
                                  · exact absurd rfl c160
                                · exact absurd c150 (by decide)
                              · exact absurd c138 (by decide)
                            · exact absurd c126 (by decide)
                    · exact absurd rfl c82
                  · exact absurd rfl c49
    · rw [show mkv L false s = nI 102 from (mk_eq hI (by decide) (by decide)).mpr ⟨rfl, hc⟩]
      rw [hc] at hQ
      have hQ1 : ∀ M', RM G Λ ρ (mOrR μ r 102 (orX L r 102 (false, s + 1, N))) M' → Q none M' := hQ
      refine r_aload_n (q := 6) dX9_order_5 rfl rfl ?_
      refine r_dup (q := 7) dX9_order_6 rfl rfl ?_
      refine r_get (q := 10) (kk := 25) h.m rfl wi_RX9 (by decide) rfl fk_X9_87 rfl dX9_order_7 rfl ?_
      rw [pM_25]
      refine r_iload_n (q := 11) dX9_order_10 rfl rfl ?_
      refine r_bipush (v := nI 115) (q := 13) dX9_order_11 (by decide) rfl ?_
      refine r_icmp_eq (t := 68) (q := 16) dX9_order_13 rfl rfl (fun c13 => ?_) (fun c13 => ?_)
      · exact absurd c13 (by decide)
      · refine r_iload_n (q := 17) dX9_order_16 rfl rfl ?_
        refine r_bipush (v := nI 117) (q := 19) dX9_order_17 (by decide) rfl ?_
        refine r_icmp_eq (t := 68) (q := 22) dX9_order_19 rfl rfl (fun c19 => ?_) (fun c19 => ?_)
        · exact absurd c19 (by decide)
        · refine r_iload_n (q := 23) dX9_order_22 rfl rfl ?_
          refine r_bipush (v := nI 112) (q := 25) dX9_order_23 (by decide) rfl ?_
          refine r_icmp_eq (t := 68) (q := 28) dX9_order_25 rfl rfl (fun c25 => ?_) (fun c25 => ?_)
          · exact absurd c25 (by decide)
          · refine r_iload_n (q := 29) dX9_order_28 rfl rfl ?_
            refine r_bipush (v := nI 119) (q := 31) dX9_order_29 (by decide) rfl ?_
            refine r_icmp_eq (t := 68) (q := 34) dX9_order_31 rfl rfl (fun c31 => ?_) (fun c31 => ?_)
            · exact absurd c31 (by decide)
            · refine r_iload_n (q := 35) dX9_order_34 rfl rfl ?_
              refine r_bipush (v := nI 108) (q := 37) dX9_order_35 (by decide) rfl ?_
              refine r_icmp_eq (t := 68) (q := 40) dX9_order_37 rfl rfl (fun c37 => ?_) (fun c37 => ?_)
              · exact absurd c37 (by decide)
              · refine r_iload_n (q := 41) dX9_order_40 rfl rfl ?_
                refine r_bipush (v := nI 120) (q := 43) dX9_order_41 (by decide) rfl ?_
                refine r_icmp_eq (t := 68) (q := 46) dX9_order_43 rfl rfl (fun c43 => ?_) (fun c43 => ?_)
                · exact absurd c43 (by decide)
                · refine r_iload_n (q := 47) dX9_order_46 rfl rfl ?_
                  refine r_bipush (v := nI 109) (q := 49) dX9_order_47 (by decide) rfl ?_
                  refine r_icmp_eq (t := 68) (q := 52) dX9_order_49 rfl rfl (fun c49 => ?_) (fun c49 => ?_)
                  · exact absurd c49 (by decide)
                  · refine r_iload_n (q := 53) dX9_order_52 rfl rfl ?_
                    refine r_bipush (v := nI 102) (q := 55) dX9_order_53 (by decide) rfl ?_
                    refine r_icmp_eq (t := 68) (q := 58) dX9_order_55 rfl rfl (fun c55 => ?_) (fun c55 => ?_)
                    · refine r_iconst (v := nI 0) (q := 69) dX9_order_68 (by decide) rfl ?_
                      refine r_ior (q := 70) dX9_order_69 rfl ?_
                      rw [show bI false ||| nI 0 = bI false from rfl]
                      refine r_p9b (q := 73) (b := _) (kk := 25) h (Or.inr (Or.inl rfl)) rfl fk_X9_87 dX9_order_70 fun M_70 h_70 => ?_
                      rw [pM_w] at h_70
                      refine r_aload_n (q := 74) dX9_order_73 rfl rfl ?_
                      refine r_dup (q := 75) dX9_order_74 rfl rfl ?_
                      refine r_get (q := 78) (kk := 23) h_70.m rfl wi_RX9 (by decide) rfl fk_X9_81 rfl dX9_order_75 rfl ?_
                      rw [pM_23]
                      refine r_aload_n (q := 79) dX9_order_78 rfl rfl ?_
                      refine r_get (q := 82) (kk := 25) h_70.m rfl wi_RX9 (by decide) rfl fk_X9_87 rfl dX9_order_79 rfl ?_
                      rw [pM_25]
                      refine r_if_eq (t := 89) (q := 85) dX9_order_82 rfl rfl (fun c82 => ?_) (fun c82 => ?_)
                      · refine r_iconst (v := nI 1) (q := 90) dX9_order_89 (by decide) rfl ?_
                        refine r_iadd (q := 91) dX9_order_90 rfl ?_
                        rw [n_add]
                        refine r_p9 (q := 94) (kk := 23) (j := 23) h_70 (by decide) rfl fk_X9_81 dX9_order_91 rfl fun M_91 h_91 => ?_
                        rw [pM_s] at h_91
                        replace h_91 : RM G Λ ρ (pX μ (false, s + 1, N)) M_91 := h_91
                        refine r_iload_n (q := 95) dX9_order_94 rfl rfl ?_
                        refine r_bipush (v := nI 104) (q := 97) dX9_order_95 (by decide) rfl ?_
                        refine r_icmp_eq (t := 105) (q := 100) dX9_order_97 rfl rfl (fun c97 => ?_) (fun c97 => ?_)
                        · exact absurd c97 (by decide)
                        · refine r_aload_n (q := 101) dX9_order_100 rfl rfl ?_
                          refine r_iconst (v := nI 0) (q := 102) dX9_order_101 (by decide) rfl ?_
                          refine r_cV (q := 105) (As := [.int _]) wc_X9_297 rfl im_X9_takesDigit se_X9_takesDigit h_91.m rfl rfl (Nat.le_of_ble_eq_true rfl) (Nat.le_of_eq (Nat.zero_add _)) (Nat.le_of_eq (Nat.zero_add _)) dX9_order_102 rfl rfl (x_takesDigit h_91 hI (by first | omega | (show s + 1 < _; omega) | (show s < _; omega)) hr hr30 (by decide) fun M_102 h_102 => ?_)
                          have hd1 := dg_le (L := L) (r := r) (a := 0) (x := (false, s + 1, N))
                          replace hd1 : (dgK L r 0 (false, s + 1, N)).2.1 ≤ s + 1 + 1 := hd1
                          refine r_iload_n (q := 106) dX9_order_105 rfl rfl ?_
                          refine r_bipush (v := nI 115) (q := 108) dX9_order_106 (by decide) rfl ?_
                          refine r_icmp_eq (t := 117) (q := 111) dX9_order_108 rfl rfl (fun c108 => ?_) (fun c108 => ?_)
                          · exact absurd c108 (by decide)
                          · refine r_iload_n (q := 112) dX9_order_111 rfl rfl ?_
                            refine r_bipush (v := nI 109) (q := 114) dX9_order_112 (by decide) rfl ?_
                            refine r_icmp_ne (t := 123) (q := 117) dX9_order_114 rfl rfl (fun c114 => ?_) (fun c114 => ?_)
                            · refine r_iload_n (q := 124) dX9_order_123 rfl rfl ?_
                              refine r_bipush (v := nI 112) (q := 126) dX9_order_124 (by decide) rfl ?_
                              refine r_icmp_ne (t := 135) (q := 129) dX9_order_126 rfl rfl (fun c126 => ?_) (fun c126 => ?_)
                              · refine r_iload_n (q := 136) dX9_order_135 rfl rfl ?_
                                refine r_bipush (v := nI 108) (q := 138) dX9_order_136 (by decide) rfl ?_
                                refine r_icmp_ne (t := 147) (q := 141) dX9_order_138 rfl rfl (fun c138 => ?_) (fun c138 => ?_)
                                · refine r_iload_n (q := 148) dX9_order_147 rfl rfl ?_
                                  refine r_bipush (v := nI 115) (q := 150) dX9_order_148 (by decide) rfl ?_
                                  refine r_icmp_ne (t := 157) (q := 153) dX9_order_150 rfl rfl (fun c150 => ?_) (fun c150 => ?_)
                                  · refine r_iload_n (q := 158) dX9_order_157 rfl rfl ?_
                                    refine r_bipush (v := nI 109) (q := 160) dX9_order_158 (by decide) rfl ?_
                                    refine r_icmp_eq (t := 175) (q := 163) dX9_order_160 rfl rfl (fun c160 => ?_) (fun c160 => ?_)
                                    · exact absurd c160 (by decide)
                                    · refine r_iload_n (q := 164) dX9_order_163 rfl rfl ?_
                                      refine r_bipush (v := nI 112) (q := 166) dX9_order_164 (by decide) rfl ?_
                                      refine r_icmp_eq (t := 175) (q := 169) dX9_order_166 rfl rfl (fun c166 => ?_) (fun c166 => ?_)
                                      · exact absurd c166 (by decide)
                                      · refine r_iload_n (q := 170) dX9_order_169 rfl rfl ?_
                                        refine r_bipush (v := nI 108) (q := 172) dX9_order_170 (by decide) rfl ?_
                                        refine r_icmp_ne (t := 180) (q := 175) dX9_order_172 rfl rfl (fun c172 => ?_) (fun c172 => ?_)
                                        · refine r_aload_n (q := 181) dX9_order_180 rfl rfl ?_
                                          refine r_get (q := 184) (kk := 25) h_102.m rfl wi_RX9 (by decide) rfl fk_X9_87 rfl dX9_order_181 rfl ?_
                                          rw [pX_25]
                                          refine r_if_eq (t := 188) (q := 187) dX9_order_184 rfl rfl (fun c184 => ?_) (fun c184 => ?_)
                                          · have c184b : (orX L r 102 (false, s + 1, N)).1 = false := bI_eq0.mp c184
                                            refine r_aload_n (q := 189) dX9_order_188 rfl rfl ?_
                                            refine r_get (q := 192) (kk := 19) h_102.m rfl wi_RX9 (by decide) rfl fk_X9_69 rfl dX9_order_189 rfl ?_
                                            refine r_aload_n (q := 193) dX9_order_192 rfl rfl ?_
                                            refine r_get (q := 196) (kk := 24) h_102.m rfl wi_RX9 (by decide) rfl fk_X9_84 rfl dX9_order_193 rfl ?_
                                            rw [pX_k (by decide) (by decide), hr]
                                            refine r_iload_n (q := 197) dX9_order_196 rfl rfl ?_
                                            refine r_iastM (q := 198) h_102 (by decide) (by simp only [mLen]; omega) (by omega) dX9_order_197 rfl fun M_197 h_197 => ?_
                                            rw [pX_a (by decide)] at h_197
                                            refine r_aload_n (q := 199) dX9_order_198 rfl rfl ?_
                                            refine r_dup (q := 200) dX9_order_199 rfl rfl ?_
                                            refine r_get (q := 203) (kk := 24) h_197.m rfl wi_RX9 (by decide) rfl fk_X9_84 rfl dX9_order_200 rfl ?_
                                            rw [gN_sA, pX_k (by decide) (by decide), hr]
                                            refine r_iconst (v := nI 1) (q := 204) dX9_order_203 (by decide) rfl ?_
                                            refine r_iadd (q := 205) dX9_order_204 rfl ?_
                                            rw [n_add]
                                            refine r_p9 (q := 208) (kk := 24) (j := 24) h_197 (by decide) rfl fk_X9_84 dX9_order_205 rfl fun M_205 h_205 => ?_
                                            refine r_vret dX9_order_208 ?_
                                            refine hQ1 _ ?_
                                            rw [mOrR, if_neg (by rw [c184b]; decide)]
                                            exact h_205
                                          · have c184b : (orX L r 102 (false, s + 1, N)).1 = true := bI_ne c184
                                            refine r_vret dX9_order_187 ?_
                                            refine hQ1 _ ?_
                                            rw [mOrR, if_pos c184b]
                                            exact h_102
                                        · exact absurd c172 (by decide)
                                  · exact absurd c150 (by decide)
                                · exact absurd c138 (by decide)
                              · exact absurd c126 (by decide)
                            · exact absurd c114 (by decide)
                      · exact absurd rfl c82
                    · exact absurd rfl c55
    · rw [show mkv L false s = nI 104 from (mk_eq hI (by decide) (by decide)).mpr ⟨rfl, hc⟩]
      rw [hc] at hQ
      have hQ1 : ∀ M', RM G Λ ρ (mOrR μ r 104 (orX L r 104 (false, s + 1, N))) M' → Q none M' := hQ
      refine r_aload_n (q := 6) dX9_order_5 rfl rfl ?_
      refine r_dup (q := 7) dX9_order_6 rfl rfl ?_
      refine r_get (q := 10) (kk := 25) h.m rfl wi_RX9 (by decide) rfl fk_X9_87 rfl dX9_order_7 rfl ?_
      rw [pM_25]
      refine r_iload_n (q := 11) dX9_order_10 rfl rfl ?_
      refine r_bipush (v := nI 115) (q := 13) dX9_order_11 (by decide) rfl ?_
      refine r_icmp_eq (t := 68) (q := 16) dX9_order_13 rfl rfl (fun c13 => ?_) (fun c13 => ?_)
      · exact absurd c13 (by decide)
      · refine r_iload_n (q := 17) dX9_order_16 rfl rfl ?_
        refine r_bipush (v := nI 117) (q := 19) dX9_order_17 (by decide) rfl ?_
        refine r_icmp_eq (t := 68) (q := 22) dX9_order_19 rfl rfl (fun c19 => ?_) (fun c19 => ?_)
        · exact absurd c19 (by decide)
        · refine r_iload_n (q := 23) dX9_order_22 rfl rfl ?_
          refine r_bipush (v := nI 112) (q := 25) dX9_order_23 (by decide) rfl ?_
          refine r_icmp_eq (t := 68) (q := 28) dX9_order_25 rfl rfl (fun c25 => ?_) (fun c25 => ?_)
          · exact absurd c25 (by decide)
          · refine r_iload_n (q := 29) dX9_order_28 rfl rfl ?_
            refine r_bipush (v := nI 119) (q := 31) dX9_order_29 (by decide) rfl ?_
            refine r_icmp_eq (t := 68) (q := 34) dX9_order_31 rfl rfl (fun c31 => ?_) (fun c31 => ?_)
            · exact absurd c31 (by decide)
            · refine r_iload_n (q := 35) dX9_order_34 rfl rfl ?_
              refine r_bipush (v := nI 108) (q := 37) dX9_order_35 (by decide) rfl ?_
              refine r_icmp_eq (t := 68) (q := 40) dX9_order_37 rfl rfl (fun c37 => ?_) (fun c37 => ?_)
              · exact absurd c37 (by decide)
              · refine r_iload_n (q := 41) dX9_order_40 rfl rfl ?_
                refine r_bipush (v := nI 120) (q := 43) dX9_order_41 (by decide) rfl ?_
                refine r_icmp_eq (t := 68) (q := 46) dX9_order_43 rfl rfl (fun c43 => ?_) (fun c43 => ?_)
                · exact absurd c43 (by decide)
                · refine r_iload_n (q := 47) dX9_order_46 rfl rfl ?_
                  refine r_bipush (v := nI 109) (q := 49) dX9_order_47 (by decide) rfl ?_
                  refine r_icmp_eq (t := 68) (q := 52) dX9_order_49 rfl rfl (fun c49 => ?_) (fun c49 => ?_)
                  · exact absurd c49 (by decide)
                  · refine r_iload_n (q := 53) dX9_order_52 rfl rfl ?_
                    refine r_bipush (v := nI 102) (q := 55) dX9_order_53 (by decide) rfl ?_
                    refine r_icmp_eq (t := 68) (q := 58) dX9_order_55 rfl rfl (fun c55 => ?_) (fun c55 => ?_)
                    · exact absurd c55 (by decide)
                    · refine r_iload_n (q := 59) dX9_order_58 rfl rfl ?_
                      refine r_bipush (v := nI 104) (q := 61) dX9_order_59 (by decide) rfl ?_
                      refine r_icmp_eq (t := 68) (q := 64) dX9_order_61 rfl rfl (fun c61 => ?_) (fun c61 => ?_)
                      · refine r_iconst (v := nI 0) (q := 69) dX9_order_68 (by decide) rfl ?_
                        refine r_ior (q := 70) dX9_order_69 rfl ?_
                        rw [show bI false ||| nI 0 = bI false from rfl]
                        refine r_p9b (q := 73) (b := _) (kk := 25) h (Or.inr (Or.inl rfl)) rfl fk_X9_87 dX9_order_70 fun M_70 h_70 => ?_
                        rw [pM_w] at h_70
                        refine r_aload_n (q := 74) dX9_order_73 rfl rfl ?_
                        refine r_dup (q := 75) dX9_order_74 rfl rfl ?_
                        refine r_get (q := 78) (kk := 23) h_70.m rfl wi_RX9 (by decide) rfl fk_X9_81 rfl dX9_order_75 rfl ?_
                        rw [pM_23]
                        refine r_aload_n (q := 79) dX9_order_78 rfl rfl ?_
                        refine r_get (q := 82) (kk := 25) h_70.m rfl wi_RX9 (by decide) rfl fk_X9_87 rfl dX9_order_79 rfl ?_
                        rw [pM_25]
                        refine r_if_eq (t := 89) (q := 85) dX9_order_82 rfl rfl (fun c82 => ?_) (fun c82 => ?_)
                        · refine r_iconst (v := nI 1) (q := 90) dX9_order_89 (by decide) rfl ?_
                          refine r_iadd (q := 91) dX9_order_90 rfl ?_
                          rw [n_add]
                          refine r_p9 (q := 94) (kk := 23) (j := 23) h_70 (by decide) rfl fk_X9_81 dX9_order_91 rfl fun M_91 h_91 => ?_
                          rw [pM_s] at h_91
                          replace h_91 : RM G Λ ρ (pX μ (false, s + 1, N)) M_91 := h_91
                          refine r_iload_n (q := 95) dX9_order_94 rfl rfl ?_
                          refine r_bipush (v := nI 104) (q := 97) dX9_order_95 (by decide) rfl ?_
                          refine r_icmp_eq (t := 105) (q := 100) dX9_order_97 rfl rfl (fun c97 => ?_) (fun c97 => ?_)
                          · refine r_iload_n (q := 106) dX9_order_105 rfl rfl ?_
                            refine r_bipush (v := nI 115) (q := 108) dX9_order_106 (by decide) rfl ?_
                            refine r_icmp_eq (t := 117) (q := 111) dX9_order_108 rfl rfl (fun c108 => ?_) (fun c108 => ?_)
                            · exact absurd c108 (by decide)
                            · refine r_iload_n (q := 112) dX9_order_111 rfl rfl ?_
                              refine r_bipush (v := nI 109) (q := 114) dX9_order_112 (by decide) rfl ?_
                              refine r_icmp_ne (t := 123) (q := 117) dX9_order_114 rfl rfl (fun c114 => ?_) (fun c114 => ?_)
                              · refine r_iload_n (q := 124) dX9_order_123 rfl rfl ?_
                                refine r_bipush (v := nI 112) (q := 126) dX9_order_124 (by decide) rfl ?_
                                refine r_icmp_ne (t := 135) (q := 129) dX9_order_126 rfl rfl (fun c126 => ?_) (fun c126 => ?_)
                                · refine r_iload_n (q := 136) dX9_order_135 rfl rfl ?_
                                  refine r_bipush (v := nI 108) (q := 138) dX9_order_136 (by decide) rfl ?_
                                  refine r_icmp_ne (t := 147) (q := 141) dX9_order_138 rfl rfl (fun c138 => ?_) (fun c138 => ?_)
                                  · refine r_iload_n (q := 148) dX9_order_147 rfl rfl ?_
                                    refine r_bipush (v := nI 115) (q := 150) dX9_order_148 (by decide) rfl ?_
                                    refine r_icmp_ne (t := 157) (q := 153) dX9_order_150 rfl rfl (fun c150 => ?_) (fun c150 => ?_)
                                    · refine r_iload_n (q := 158) dX9_order_157 rfl rfl ?_
                                      refine r_bipush (v := nI 109) (q := 160) dX9_order_158 (by decide) rfl ?_
                                      refine r_icmp_eq (t := 175) (q := 163) dX9_order_160 rfl rfl (fun c160 => ?_) (fun c160 => ?_)
                                      · exact absurd c160 (by decide)
                                      · refine r_iload_n (q := 164) dX9_order_163 rfl rfl ?_
                                        refine r_bipush (v := nI 112) (q := 166) dX9_order_164 (by decide) rfl ?_
                                        refine r_icmp_eq (t := 175) (q := 169) dX9_order_166 rfl rfl (fun c166 => ?_) (fun c166 => ?_)
                                        · exact absurd c166 (by decide)
                                        · refine r_iload_n (q := 170) dX9_order_169 rfl rfl ?_
                                          refine r_bipush (v := nI 108) (q := 172) dX9_order_170 (by decide) rfl ?_
                                          refine r_icmp_ne (t := 180) (q := 175) dX9_order_172 rfl rfl (fun c172 => ?_) (fun c172 => ?_)
                                          · refine r_aload_n (q := 181) dX9_order_180 rfl rfl ?_
                                            refine r_get (q := 184) (kk := 25) h_91.m rfl wi_RX9 (by decide) rfl fk_X9_87 rfl dX9_order_181 rfl ?_
                                            rw [pX_25]
                                            refine r_if_eq (t := 188) (q := 187) dX9_order_184 rfl rfl (fun c184 => ?_) (fun c184 => ?_)
                                            · refine r_aload_n (q := 189) dX9_order_188 rfl rfl ?_
                                              refine r_get (q := 192) (kk := 19) h_91.m rfl wi_RX9 (by decide) rfl fk_X9_69 rfl dX9_order_189 rfl ?_
                                              refine r_aload_n (q := 193) dX9_order_192 rfl rfl ?_
                                              refine r_get (q := 196) (kk := 24) h_91.m rfl wi_RX9 (by decide) rfl fk_X9_84 rfl dX9_order_193 rfl ?_
                                              rw [pX_k (by decide) (by decide), hr]
                                              refine r_iload_n (q := 197) dX9_order_196 rfl rfl ?_
                                              refine r_iastM (q := 198) h_91 (by decide) (by simp only [mLen]; omega) (by omega) dX9_order_197 rfl fun M_197 h_197 => ?_
                                              rw [pX_a (by decide)] at h_197
                                              refine r_aload_n (q := 199) dX9_order_198 rfl rfl ?_
                                              refine r_dup (q := 200) dX9_order_199 rfl rfl ?_
                                              refine r_get (q := 203) (kk := 24) h_197.m rfl wi_RX9 (by decide) rfl fk_X9_84 rfl dX9_order_200 rfl ?_
                                              rw [gN_sA, pX_k (by decide) (by decide), hr]
                                              refine r_iconst (v := nI 1) (q := 204) dX9_order_203 (by decide) rfl ?_
                                              refine r_iadd (q := 205) dX9_order_204 rfl ?_
                                              rw [n_add]
                                              refine r_p9 (q := 208) (kk := 24) (j := 24) h_197 (by decide) rfl fk_X9_84 dX9_order_205 rfl fun M_205 h_205 => ?_
                                              refine r_vret dX9_order_208 ?_
                                              exact hQ1 _ h_205
                                            · exact absurd rfl c184
                                          · exact absurd c172 (by decide)
                                    · exact absurd c150 (by decide)
                                  · exact absurd c138 (by decide)
                                · exact absurd c126 (by decide)
                              · exact absurd c114 (by decide)
                          · exact absurd rfl c97
                        · exact absurd rfl c82
                      · exact absurd rfl c61
  · rw [show mOrd L r s N = (true, s, N) from if_neg (by rw [hK]; decide)] at hQ
    have hno := isK_n hI hK
    generalize hmk : mkv L false s = mk at hno ⊢
    have hQ1 : ∀ M', RM G Λ ρ (pX μ (true, s, N)) M' → Q none M' := hQ
    refine r_aload_n (q := 6) dX9_order_5 rfl rfl ?_
    refine r_dup (q := 7) dX9_order_6 rfl rfl ?_
    refine r_get (q := 10) (kk := 25) h.m rfl wi_RX9 (by decide) rfl fk_X9_87 rfl dX9_order_7 rfl ?_
    rw [pM_25]
    refine r_iload_n (q := 11) dX9_order_10 rfl rfl ?_
    refine r_bipush (v := nI 115) (q := 13) dX9_order_11 (by decide) rfl ?_
    refine r_icmp_eq (t := 68) (q := 16) dX9_order_13 rfl rfl (fun c13 => ?_) (fun c13 => ?_)
    · exact absurd c13 (hno 115 (by decide))
    · refine r_iload_n (q := 17) dX9_order_16 rfl rfl ?_
      refine r_bipush (v := nI 117) (q := 19) dX9_order_17 (by decide) rfl ?_
      refine r_icmp_eq (t := 68) (q := 22) dX9_order_19 rfl rfl (fun c19 => ?_) (fun c19 => ?_)
      · exact absurd c19 (hno 117 (by decide))
      · refine r_iload_n (q := 23) dX9_order_22 rfl rfl ?_
        refine r_bipush (v := nI 112) (q := 25) dX9_order_23 (by decide) rfl ?_
        refine r_icmp_eq (t := 68) (q := 28) dX9_order_25 rfl rfl (fun c25 => ?_) (fun c25 => ?_)
        · exact absurd c25 (hno 112 (by decide))
        · refine r_iload_n (q := 29) dX9_order_28 rfl rfl ?_
          refine r_bipush (v := nI 119) (q := 31) dX9_order_29 (by decide) rfl ?_
          refine r_icmp_eq (t := 68) (q := 34) dX9_order_31 rfl rfl (fun c31 => ?_) (fun c31 => ?_)
          · exact absurd c31 (hno 119 (by decide))
          · refine r_iload_n (q := 35) dX9_order_34 rfl rfl ?_
            refine r_bipush (v := nI 108) (q := 37) dX9_order_35 (by decide) rfl ?_
            refine r_icmp_eq (t := 68) (q := 40) dX9_order_37 rfl rfl (fun c37 => ?_) (fun c37 => ?_)
            · exact absurd c37 (hno 108 (by decide))
            · refine r_iload_n (q := 41) dX9_order_40 rfl rfl ?_
              refine r_bipush (v := nI 120) (q := 43) dX9_order_41 (by decide) rfl ?_
              refine r_icmp_eq (t := 68) (q := 46) dX9_order_43 rfl rfl (fun c43 => ?_) (fun c43 => ?_)
              · exact absurd c43 (hno 120 (by decide))
              · refine r_iload_n (q := 47) dX9_order_46 rfl rfl ?_
                refine r_bipush (v := nI 109) (q := 49) dX9_order_47 (by decide) rfl ?_
                refine r_icmp_eq (t := 68) (q := 52) dX9_order_49 rfl rfl (fun c49 => ?_) (fun c49 => ?_)
                · exact absurd c49 (hno 109 (by decide))
                · refine r_iload_n (q := 53) dX9_order_52 rfl rfl ?_
                  refine r_bipush (v := nI 102) (q := 55) dX9_order_53 (by decide) rfl ?_
                  refine r_icmp_eq (t := 68) (q := 58) dX9_order_55 rfl rfl (fun c55 => ?_) (fun c55 => ?_)
                  · exact absurd c55 (hno 102 (by decide))
                  · refine r_iload_n (q := 59) dX9_order_58 rfl rfl ?_
                    refine r_bipush (v := nI 104) (q := 61) dX9_order_59 (by decide) rfl ?_
                    refine r_icmp_eq (t := 68) (q := 64) dX9_order_61 rfl rfl (fun c61 => ?_) (fun c61 => ?_)
                    · exact absurd c61 (hno 104 (by decide))
                    · refine r_iconst (v := nI 1) (q := 65) dX9_order_64 (by decide) rfl ?_
                      refine r_goto (t := 69) dX9_order_65 rfl ?_
                      refine r_ior (q := 70) dX9_order_69 rfl ?_
                      rw [bI_or1]
                      refine r_p9b (q := 73) (b := _) (kk := 25) h (Or.inr (Or.inl rfl)) rfl fk_X9_87 dX9_order_70 fun M_70 h_70 => ?_
                      rw [pM_w] at h_70
                      refine r_aload_n (q := 74) dX9_order_73 rfl rfl ?_
                      refine r_dup (q := 75) dX9_order_74 rfl rfl ?_
                      refine r_get (q := 78) (kk := 23) h_70.m rfl wi_RX9 (by decide) rfl fk_X9_81 rfl dX9_order_75 rfl ?_
                      rw [pM_23]
                      refine r_aload_n (q := 79) dX9_order_78 rfl rfl ?_
                      refine r_get (q := 82) (kk := 25) h_70.m rfl wi_RX9 (by decide) rfl fk_X9_87 rfl dX9_order_79 rfl ?_
                      rw [pM_25]
                      refine r_if_eq (t := 89) (q := 85) dX9_order_82 rfl rfl (fun c82 => ?_) (fun c82 => ?_)
                      · exact absurd c82 (by decide)
                      · refine r_iconst (v := nI 0) (q := 86) dX9_order_85 (by decide) rfl ?_
                        refine r_goto (t := 90) dX9_order_86 rfl ?_
                        refine r_iadd (q := 91) dX9_order_90 rfl ?_
                        rw [n_add]
                        refine r_p9 (q := 94) (kk := 23) (j := 23) h_70 (by decide) rfl fk_X9_81 dX9_order_91 rfl fun M_91 h_91 => ?_
                        rw [pM_s] at h_91
                        replace h_91 : RM G Λ ρ (pX μ (true, s, N)) M_91 := h_91
                        refine r_iload_n (q := 95) dX9_order_94 rfl rfl ?_
                        refine r_bipush (v := nI 104) (q := 97) dX9_order_95 (by decide) rfl ?_
                        refine r_icmp_eq (t := 105) (q := 100) dX9_order_97 rfl rfl (fun c97 => ?_) (fun c97 => ?_)
                        · exact absurd c97 (hno 104 (by decide))
                        · refine r_aload_n (q := 101) dX9_order_100 rfl rfl ?_
                          refine r_iconst (v := nI 0) (q := 102) dX9_order_101 (by decide) rfl ?_
                          refine r_cV (q := 105) (As := [.int _]) wc_X9_297 rfl im_X9_takesDigit se_X9_takesDigit h_91.m rfl rfl (Nat.le_of_ble_eq_true rfl) (Nat.le_of_eq (Nat.zero_add _)) (Nat.le_of_eq (Nat.zero_add _)) dX9_order_102 rfl rfl (x_takesDigit h_91 hI (by first | omega | (show s + 1 < _; omega) | (show s < _; omega)) hr hr30 (by decide) fun M_102 h_102 => ?_)
                          rw [show dgK L r 0 (true, s, N) = (true, s, N) from if_neg (fun g => absurd g.1 (show ¬ (true : Bool) = false by decide))] at h_102
                          refine r_iload_n (q := 106) dX9_order_105 rfl rfl ?_
                          refine r_bipush (v := nI 115) (q := 108) dX9_order_106 (by decide) rfl ?_
                          refine r_icmp_eq (t := 117) (q := 111) dX9_order_108 rfl rfl (fun c108 => ?_) (fun c108 => ?_)
                          · exact absurd c108 (hno 115 (by decide))
                          · refine r_iload_n (q := 112) dX9_order_111 rfl rfl ?_
                            refine r_bipush (v := nI 109) (q := 114) dX9_order_112 (by decide) rfl ?_
                            refine r_icmp_ne (t := 123) (q := 117) dX9_order_114 rfl rfl (fun c114 => ?_) (fun c114 => ?_)
                            · refine r_iload_n (q := 124) dX9_order_123 rfl rfl ?_
                              refine r_bipush (v := nI 112) (q := 126) dX9_order_124 (by decide) rfl ?_
                              refine r_icmp_ne (t := 135) (q := 129) dX9_order_126 rfl rfl (fun c126 => ?_) (fun c126 => ?_)
                              · refine r_iload_n (q := 136) dX9_order_135 rfl rfl ?_
                                refine r_bipush (v := nI 108) (q := 138) dX9_order_136 (by decide) rfl ?_
                                refine r_icmp_ne (t := 147) (q := 141) dX9_order_138 rfl rfl (fun c138 => ?_) (fun c138 => ?_)
                                · refine r_iload_n (q := 148) dX9_order_147 rfl rfl ?_
                                  refine r_bipush (v := nI 115) (q := 150) dX9_order_148 (by decide) rfl ?_
                                  refine r_icmp_ne (t := 157) (q := 153) dX9_order_150 rfl rfl (fun c150 => ?_) (fun c150 => ?_)
                                  · refine r_iload_n (q := 158) dX9_order_157 rfl rfl ?_
                                    refine r_bipush (v := nI 109) (q := 160) dX9_order_158 (by decide) rfl ?_
                                    refine r_icmp_eq (t := 175) (q := 163) dX9_order_160 rfl rfl (fun c160 => ?_) (fun c160 => ?_)
                                    · exact absurd c160 (hno 109 (by decide))
                                    · refine r_iload_n (q := 164) dX9_order_163 rfl rfl ?_
                                      refine r_bipush (v := nI 112) (q := 166) dX9_order_164 (by decide) rfl ?_
                                      refine r_icmp_eq (t := 175) (q := 169) dX9_order_166 rfl rfl (fun c166 => ?_) (fun c166 => ?_)
                                      · exact absurd c166 (hno 112 (by decide))
                                      · refine r_iload_n (q := 170) dX9_order_169 rfl rfl ?_
                                        refine r_bipush (v := nI 108) (q := 172) dX9_order_170 (by decide) rfl ?_
                                        refine r_icmp_ne (t := 180) (q := 175) dX9_order_172 rfl rfl (fun c172 => ?_) (fun c172 => ?_)
                                        · refine r_aload_n (q := 181) dX9_order_180 rfl rfl ?_
                                          refine r_get (q := 184) (kk := 25) h_102.m rfl wi_RX9 (by decide) rfl fk_X9_87 rfl dX9_order_181 rfl ?_
                                          rw [pX_25]
                                          refine r_if_eq (t := 188) (q := 187) dX9_order_184 rfl rfl (fun c184 => ?_) (fun c184 => ?_)
                                          · exact absurd c184 (show ¬ bI true = 0 by decide)
                                          · refine r_vret dX9_order_187 ?_
                                            exact hQ1 _ h_102
                                        · exact absurd c172 (hno 108 (by decide))
                                  · exact absurd c150 (hno 115 (by decide))
                                · exact absurd c138 (hno 108 (by decide))
                              · exact absurd c126 (hno 112 (by decide))
                            · exact absurd c114 (hno 109 (by decide))
/-- where the reading has come to: its state, the orders read, their kinds -/
def nuM (μ : Mg) (r : Nat) (K : Nat → Nat) : Mg := sN (sA μ 8 K) 24 (nI r)
theorem nu_X {X : PX} {K K' : Nat → Nat} {r' : Nat} : sN (sA (pX (nuM μ r K) X) 8 K') 24 (nI r') = pX (nuM μ r' K') X := by
  refine Prod.ext (funext fun i => ?_) (funext fun k => ?_)
  · show (if i = 8 then K' else if i = 9 then X.2.2 else if i = 8 then K else μ.1 i) = if i = 9 then X.2.2 else if i = 8 then K' else μ.1 i
    by_cases h : i = 8
    · subst h; rfl
    · rw [if_neg h, if_neg h, if_neg h]
  · show (if k = 24 then nI r' else if k = 23 then nI X.2.1 else if k = 25 then bI X.1 else if k = 24 then nI r else μ.2 k) = if k = 23 then nI X.2.1 else if k = 25 then bI X.1 else if k = 24 then nI r' else μ.2 k
    by_cases h : k = 24
    · subst h; rfl
    · rw [if_neg h, if_neg h, if_neg h]
abbrev PY : Type := PX × Nat × (Nat → Nat)
def mOrY (L : List Nat) (r s : Nat) (N K : Nat → Nat) : PY := (mOrd L r s N, if (mOrd L r s N).1 = true then r else r + 1, if (mOrd L r s N).1 = true then K else uN K r (L.getD s 0))
def pY (μ : Mg) (Y : PY) : Mg := pX (nuM μ Y.2.1 Y.2.2) Y.1
theorem mOr_Y {K : Nat → Nat} : mOrR (nuM μ r K) r (L.getD s 0) (mOrd L r s N) = pY μ (mOrY L r s N K) := by
  unfold mOrR mOrY pY
  by_cases h : (mOrd L r s N).1 = true
  · rw [if_pos h, if_pos h, if_pos h]
  · rw [if_neg h, if_neg h, if_neg h, nu_X, show gA (nuM μ r K) 8 = K by rw [nuM, gA_sNe, gA_s]]
def mLp (L : List Nat) : Nat → PY → PY
  | 0, Y => Y
  | q + 1, Y => if Y.1.1 = false ∧ L.getD Y.1.2.1 0 = 59 then mLp L q (mOrY L Y.2.1 (Y.1.2.1 + 1) Y.1.2.2 Y.2.2) else Y
def mPar (L : List Nat) (N K : Nat → Nat) : PY := mLp L 61 (mOrY L 0 0 N K)
theorem PIN_nu {K : Nat → Nat} (hI : PIN L μ) : PIN L (nuM μ r K) := ⟨(gN_sNn (by decide)).trans hI.1, by rw [nuM, gA_sNe, gA_n (by decide)]; exact hI.2.1, hI.2.2⟩
def CL (L : List Nat) : Prop := ∀ x ∈ L, 32 ≤ x ∧ x < 127
theorem gd_n (h : L.getD s 0 ≠ 0) : s < L.length := Decidable.byContradiction fun g => h (by rw [List.getD_eq_getElem?_getD, List.getElem?_eq_none (by omega)]; rfl)
theorem dg_p {a : Nat} {x : PX} (h : x.2.1 ≤ L.length) : (dgK L r a x).2.1 ≤ L.length ∧ x.2.1 ≤ (dgK L r a x).2.1 := by
  unfold dgK
  split
  · rename_i e; have := gd_n (L := L) (s := x.2.1) (by omega); exact ⟨this, Nat.le_succ _⟩
  · exact ⟨h, Nat.le_refl _⟩
theorem tk_p {c : Nat} (h0 : c ≠ 0) {x : PX} (h : x.2.1 ≤ L.length) : (tkS L c x).2.1 ≤ L.length ∧ x.2.1 ≤ (tkS L c x).2.1 := by
  unfold tkS
  split
  · rename_i e; have := gd_n (L := L) (s := x.2.1) (by omega); exact ⟨this, Nat.le_succ _⟩
  · exact ⟨h, Nat.le_refl _⟩
theorem pWl_ge : ∀ (q : Nat) (x : Nat × Nat × Nat), x.1 ≤ (pWl L q x).1
  | 0, x => Nat.le_refl _
  | q + 1, x => by
    rw [pWl]
    split
    · exact Nat.le_trans (Nat.le_succ _) (pWl_ge q (x.1 + 1, x.2.1 + 1, x.2.2 + if L.getD x.1 0 = 108 then 2 ^ x.2.1 else 0))
    · exact Nat.le_refl _
theorem wd_p {x : PX} (h : x.2.1 ≤ L.length) : (wdK L r x).2.1 ≤ L.length ∧ x.2.1 ≤ (wdK L r x).2.1 := by
  unfold wdK
  split
  · exact ⟨(pWl_ok 6 (x.2.1, 0, 0) h (show 0 + 6 ≤ 6 by decide) (show 0 < 2 ^ 0 by decide)).1, pWl_ge 6 (x.2.1, 0, 0)⟩
  · exact ⟨h, Nat.le_refl _⟩
theorem orX_p {c : Nat} {x : PX} (h : x.2.1 ≤ L.length) : (orX L r c x).2.1 ≤ L.length ∧ x.2.1 ≤ (orX L r c x).2.1 := by
  have h1 := dg_p (r := r) (a := 0) h
  unfold orX
  split
  · exact ⟨h, Nat.le_refl _⟩
  · split
    · have h2 := tk_p (c := 58) (by decide) h1.1
      have h3 := wd_p (r := r) h2.1
      exact ⟨h3.1, by omega⟩
    · split
      · have h2 := tk_p (c := 58) (by decide) h1.1
        have h3 := dg_p (r := r) (a := 1) h2.1
        exact ⟨h3.1, by omega⟩
      · split
        · have h2 := tk_p (c := 61) (by decide) h1.1
          have h3 := dg_p (r := r) (a := 1) h2.1
          exact ⟨h3.1, by omega⟩
        · split
          · have h2 := tk_p (c := 62) (by decide) h1.1
            have h3 := dg_p (r := r) (a := 1) h2.1
            exact ⟨h3.1, by omega⟩
          · exact h1
theorem mOrd_p (h : s ≤ L.length) : (mOrd L r s N).2.1 ≤ L.length ∧ s ≤ (mOrd L r s N).2.1 ∧ ((mOrd L r s N).1 = false → s + 1 ≤ (mOrd L r s N).2.1) := by
  unfold mOrd
  split
  · rename_i e
    have hm := isK_m e
    have hs := gd_n (L := L) (s := s) (by omega)
    have h2 := orX_p (L := L) (r := r) (c := L.getD s 0) (x := (false, s + 1, N)) (show s + 1 ≤ L.length from hs)
    exact ⟨h2.1, by have := h2.2; simp only at this; omega, fun _ => h2.2⟩
  · exact ⟨h, Nat.le_refl _, fun e => absurd e (show ¬ (true : Bool) = false by decide)⟩
def muR (μ : Mg) (L : List Nat) : Mg := sN (sN μ 22 (nI L.length)) 21 (nI 0)
def mRds (μ : Mg) (L : List Nat) (N K : Nat → Nat) : Mg := pX (nuM (muR μ L) (mPar L N K).2.1 (mPar L N K).2.2) ((mPar L N K).1.1 || decide ((mPar L N K).1.2.1 < L.length), (mPar L N K).1.2)
theorem bI_or (a b : Bool) : bI a ||| bI b = bI (a || b) := by cases a <;> cases b <;> decide
theorem s_X9_reads (h : RM G Λ ρ μ M) (hfed : gN μ 21 = nI L.length) (hI : PIN L (muR μ L)) (hQ : ∀ M', RM G Λ ρ (mRds μ L (gA μ 9) (gA μ 8)) M' → Q none M')  : MS G yX9_reads cX9_reads 1 none (d + 4) 0 0 [.ref (Λ (10, 0, 0))] M Q QX := by
  have loop : ∀ (m : Nat) (q : Nat) (Y : PY) (M1 : Me), m = q → L.length < Y.1.2.1 + q → Y.1.2.1 ≤ L.length → 2 * Y.2.1 ≤ Y.1.2.1 + 1 → RM G Λ ρ (pY (muR μ L) Y) M1 → (∀ M', RM G Λ ρ (pX (nuM (muR μ L) (mLp L q Y).2.1 (mLp L q Y).2.2) ((mLp L q Y).1.1 || decide ((mLp L q Y).1.2.1 < L.length), (mLp L q Y).1.2)) M' → Q none M') → AW G (wX G yX9_reads cX9_reads 1 none 0 0 Q QX) (d + 4) 0 0 32 [some (.ref (Λ (10, 0, 0)))] [] M1 := by
    intro m
    induction m using Nat.strongRecOn with
    | _ m ih =>
    intro q Y M1 hm hq hs hr h1 hQ1
    subst hm
    have hl60 := hI.2.2.1
    refine r_aload_n (q := 33) dX9_reads_32 rfl rfl ?_
    refine r_cV (q := 36) (As := []) wc_X9_290 rfl im_X9_mark se_X9_mark h1.m rfl rfl (Nat.le_of_ble_eq_true rfl) (Nat.le_of_eq (Nat.zero_add _)) (Nat.le_of_eq (Nat.zero_add _)) dX9_reads_33 rfl rfl (s_X9_mark (μ := nuM (muR μ L) Y.2.1 Y.2.2) h1 (PIN_nu hI) (by omega) ?_)
    obtain ⟨q, rfl⟩ : ∃ q0, m = q0 + 1 := ⟨m - 1, by omega⟩
    refine r_bipush (v := nI 59) (q := 38) dX9_reads_36 (by decide) rfl ?_
    refine r_icmp_ne (t := 58) (q := 41) dX9_reads_38 rfl rfl (fun c38 => ?_) (fun c38 => ?_)
    · have hno : ¬ (Y.1.1 = false ∧ L.getD Y.1.2.1 0 = 59) := fun g => c38 ((mk_eq (PIN_nu (r := Y.2.1) (K := Y.2.2) hI) (by decide) (by decide)).mpr g)
      rw [show mLp L (q + 1) Y = Y from if_neg hno] at hQ1
      refine r_aload_n (q := 59) dX9_reads_58 rfl rfl ?_
      refine r_dup (q := 60) dX9_reads_59 rfl rfl ?_
      refine r_get (q := 63) (kk := 25) h1.m rfl wi_RX9 (by decide) rfl fk_X9_87 rfl dX9_reads_60 rfl ?_
      rw [show gN (pY (muR μ L) Y) 25 = bI Y.1.1 from rfl]
      refine r_aload_n (q := 64) dX9_reads_63 rfl rfl ?_
      refine r_get (q := 67) (kk := 23) h1.m rfl wi_RX9 (by decide) rfl fk_X9_81 rfl dX9_reads_64 rfl ?_
      rw [show gN (pY (muR μ L) Y) 23 = nI Y.1.2.1 from rfl]
      refine r_aload_n (q := 68) dX9_reads_67 rfl rfl ?_
      refine r_get (q := 71) (kk := 22) h1.m rfl wi_RX9 (by decide) rfl fk_X9_78 rfl dX9_reads_68 rfl ?_
      rw [show gN (pY (muR μ L) Y) 22 = nI L.length from rfl]
      refine r_icmp_ge (t := 78) (q := 74) dX9_reads_71 rfl rfl (fun c71 => ?_) (fun c71 => ?_)
      · rw [nI_leI (by omega) (by omega)] at c71
        rw [decide_eq_false (by omega)] at hQ1
        refine r_iconst (v := nI 0) (q := 79) dX9_reads_78 (by decide) rfl ?_
        refine r_ior (q := 80) dX9_reads_79 rfl ?_
        first
          | rw [show nI 1 = bI true from rfl, bI_or]
          | rw [show nI 0 = bI false from rfl, bI_or]
        refine r_p9b (q := 83) (b := _) (kk := 25) h1 (Or.inr (Or.inl rfl)) rfl fk_X9_87 dX9_reads_80 fun M_80 h_80 => ?_
        refine r_vret dX9_reads_83 ?_
        refine hQ1 _ ?_
        rw [show pY (muR μ L) Y = pM (nuM (muR μ L) Y.2.1 Y.2.2) Y.1.1 Y.1.2.1 Y.1.2.2 from rfl, pM_w] at h_80
        exact h_80
      · rw [nI_leI (by omega) (by omega)] at c71
        rw [decide_eq_true (by omega)] at hQ1
        refine r_iconst (v := nI 1) (q := 75) dX9_reads_74 (by decide) rfl ?_
        refine r_goto (t := 79) dX9_reads_75 rfl ?_
        refine r_ior (q := 80) dX9_reads_79 rfl ?_
        first
          | rw [show nI 1 = bI true from rfl, bI_or]
          | rw [show nI 0 = bI false from rfl, bI_or]
        refine r_p9b (q := 83) (b := _) (kk := 25) h1 (Or.inr (Or.inl rfl)) rfl fk_X9_87 dX9_reads_80 fun M_80 h_80 => ?_
        refine r_vret dX9_reads_83 ?_
        refine hQ1 _ ?_
        rw [show pY (muR μ L) Y = pM (nuM (muR μ L) Y.2.1 Y.2.2) Y.1.1 Y.1.2.1 Y.1.2.2 from rfl, pM_w] at h_80
        exact h_80
    · obtain ⟨hw, hch⟩ := (mk_eq (PIN_nu (r := Y.2.1) (K := Y.2.2) hI) (by decide) (by decide)).mp c38
      rw [show mLp L (q + 1) Y = mLp L q (mOrY L Y.2.1 (Y.1.2.1 + 1) Y.1.2.2 Y.2.2) from if_pos ⟨hw, hch⟩] at hQ1
      have hsl := gd_n (L := L) (s := Y.1.2.1) (by omega)
      have hop := mOrd_p (r := Y.2.1) (N := Y.1.2.2) (show Y.1.2.1 + 1 ≤ L.length from hsl)
      refine r_aload_n (q := 42) dX9_reads_41 rfl rfl ?_
      refine r_dup (q := 43) dX9_reads_42 rfl rfl ?_
      refine r_get (q := 46) (kk := 23) h1.m rfl wi_RX9 (by decide) rfl fk_X9_81 rfl dX9_reads_43 rfl ?_
      rw [show gN (pY (muR μ L) Y) 23 = nI Y.1.2.1 from rfl]
      refine r_iconst (v := nI 1) (q := 47) dX9_reads_46 (by decide) rfl ?_
      refine r_iadd (q := 48) dX9_reads_47 rfl ?_
      rw [n_add]
      refine r_p9 (q := 51) (kk := 23) (j := 23) h1 (by decide) rfl fk_X9_81 dX9_reads_48 rfl fun M_48 h1_48 => ?_
      replace h1_48 : RM G Λ ρ (pM (nuM (muR μ L) Y.2.1 Y.2.2) Y.1.1 (Y.1.2.1 + 1) Y.1.2.2) M_48 := by rw [← pM_s]; exact h1_48
      rw [hw] at h1_48
      refine r_aload_n (q := 52) dX9_reads_51 rfl rfl ?_
      refine r_cV (q := 55) (As := []) wc_X9_306 rfl im_X9_order se_X9_order h1_48.m rfl rfl (Nat.le_of_ble_eq_true rfl) (Nat.le_of_eq (Nat.zero_add _)) (Nat.le_of_eq (Nat.zero_add _)) dX9_reads_52 rfl rfl (s_X9_order (μ := nuM (muR μ L) Y.2.1 Y.2.2) (s := Y.1.2.1 + 1) (N := Y.1.2.2) h1_48 (PIN_nu hI) (by have := gd_n (L := L) (s := Y.1.2.1) (by omega); omega) rfl (by omega) fun M_52 h1_52 => ?_)
      rw [mOr_Y] at h1_52
      refine r_goto (t := 32) dX9_reads_55 rfl ?_
      exact ih q (by omega) q _ _ rfl (by show L.length < (mOrd L Y.2.1 (Y.1.2.1 + 1) Y.1.2.2).2.1 + q; omega) hop.1 (by
        show 2 * (if (mOrd L Y.2.1 (Y.1.2.1 + 1) Y.1.2.2).1 = true then Y.2.1 else Y.2.1 + 1) ≤ (mOrd L Y.2.1 (Y.1.2.1 + 1) Y.1.2.2).2.1 + 1
        split
        · omega
        · rename_i e; have := hop.2.2 (by simpa using e); omega) h1_52 hQ1
  refine MS.of (by decide) (by simp [Value.category]) (Nat.le_of_ble_eq_true rfl) ?_
  show AW _ (_, _, _, _, _, _, _, _, _) _ _ _ _ [some _] _ _
  refine r_aload_n (q := 1) dX9_reads_0 rfl rfl ?_
  refine r_aload_n (q := 2) dX9_reads_1 rfl rfl ?_
  refine r_get (q := 5) (kk := 21) h.m rfl wi_RX9 (by decide) rfl fk_X9_75 rfl dX9_reads_2 rfl ?_
  rw [hfed]
  refine r_p9 (q := 8) (kk := 22) (j := 22) h (by decide) rfl fk_X9_78 dX9_reads_5 rfl fun M_5 h_5 => ?_
  refine r_aload_n (q := 9) dX9_reads_8 rfl rfl ?_
  refine r_iconst (v := nI 0) (q := 10) dX9_reads_9 (by decide) rfl ?_
  refine r_p9 (q := 13) (kk := 21) (j := 21) h_5 (by decide) rfl fk_X9_75 dX9_reads_10 rfl fun M_10 h_10 => ?_
  refine r_aload_n (q := 14) dX9_reads_13 rfl rfl ?_
  refine r_iconst (v := nI 0) (q := 15) dX9_reads_14 (by decide) rfl ?_
  refine r_p9 (q := 18) (kk := 23) (j := 23) h_10 (by decide) rfl fk_X9_81 dX9_reads_15 rfl fun M_15 h_15 => ?_
  refine r_aload_n (q := 19) dX9_reads_18 rfl rfl ?_
  refine r_iconst (v := nI 0) (q := 20) dX9_reads_19 (by decide) rfl ?_
  refine r_p9 (q := 23) (kk := 24) (j := 24) h_15 (by decide) rfl fk_X9_84 dX9_reads_20 rfl fun M_20 h_20 => ?_
  refine r_aload_n (q := 24) dX9_reads_23 rfl rfl ?_
  refine r_iconst (v := nI 0) (q := 25) dX9_reads_24 (by decide) rfl ?_
  refine r_p9b (q := 28) (b := false) (kk := 25) h_20 (Or.inr (Or.inl rfl)) rfl fk_X9_87 dX9_reads_25 fun M_25 h_25 => ?_
  replace h_25 : RM G Λ ρ (pM (nuM (muR μ L) 0 (gA μ 8)) false 0 (gA μ 9)) M_25 := h_25.ext (fun i hi j hj => by
      show (if i = 9 then gA μ 9 else if i = 8 then gA μ 8 else μ.1 i) j = μ.1 i j
      split
      · rename_i e; rw [e]; rfl
      · split
        · rename_i e; rw [e]; rfl
        · rfl) (fun k => by
      show (if k = 23 then nI 0 else if k = 25 then bI false else if k = 24 then nI 0 else if k = 21 then nI 0 else if k = 22 then nI L.length else μ.2 k) = (if k = 25 then bI false else if k = 24 then nI 0 else if k = 23 then nI 0 else if k = 21 then nI 0 else if k = 22 then nI L.length else μ.2 k)
      by_cases h23 : k = 23
      · subst h23; rfl
      · rw [if_neg h23, if_neg h23])
  refine r_aload_n (q := 29) dX9_reads_28 rfl rfl ?_
  refine r_cV (q := 32) (As := []) wc_X9_306 rfl im_X9_order se_X9_order h_25.m rfl rfl (Nat.le_of_ble_eq_true rfl) (Nat.le_of_eq (Nat.zero_add _)) (Nat.le_of_eq (Nat.zero_add _)) dX9_reads_29 rfl rfl (s_X9_order (μ := nuM (muR μ L) 0 (gA μ 8)) (s := 0) h_25 (PIN_nu hI) (Nat.zero_le _) rfl (by decide) fun M_29 h_29 => ?_)
  rw [mOr_Y] at h_29
  have hl60 := hI.2.2.1
  have hop := mOrd_p (L := L) (r := 0) (N := gA μ 9) (Nat.zero_le L.length)
  exact loop _ 61 (mOrY L 0 0 (gA μ 9) (gA μ 8)) _ rfl (by show L.length < (mOrd L 0 0 (gA μ 9)).2.1 + 61; omega) hop.1 (by
    show 2 * (if (mOrd L 0 0 (gA μ 9)).1 = true then 0 else 0 + 1) ≤ (mOrd L 0 0 (gA μ 9)).2.1 + 1
    split
    · omega
    · rename_i e; have := hop.2.2 (by simpa using e); omega) h_29 hQ
end W63
