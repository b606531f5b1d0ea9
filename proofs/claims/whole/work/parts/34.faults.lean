/-! THE CLASS ITSELF: what is allowed, faults -/
section W34
variable {G : En} {Λ : Ob → Nat} {ρ : Me} {σ : Sg} {M : Me} {d : Nat} {Q : Option Value → Me → Prop} {QX : String → Me → Prop} {S : St}
def isL (l : Int32) : Bool := decide (¬ l < 0) && decide (¬ nI 7 ≤ l)
def isP (l : Int32) : Bool := decide (¬ l < 0) && decide (¬ nI 4 ≤ l)
def isN (l : Int32) : Bool := decide (¬ l < nI 1) && decide (¬ nI 6 < l)
theorem isL_t {l : Int32} (h : isL l = true) : ∃ j : Nat, j < 7 ∧ l = nI j := by
  simp only [isL, Bool.and_eq_true, decide_eq_true_eq] at h
  obtain ⟨j, hj, rfl⟩ := nI_nat h.1
  have h2 := h.2
  rw [nI_leI (by omega) hj] at h2
  exact ⟨j, by omega, rfl⟩
theorem isP_t {l : Int32} (h : isP l = true) : ∃ j : Nat, j < 4 ∧ l = nI j := by
  simp only [isP, Bool.and_eq_true, decide_eq_true_eq] at h
  obtain ⟨j, hj, rfl⟩ := nI_nat h.1
  have h2 := h.2
  rw [nI_leI (by omega) hj] at h2
  exact ⟨j, by omega, rfl⟩
theorem isN_t {l : Int32} (h : isN l = true) : ∃ j : Nat, 1 ≤ j ∧ j ≤ 6 ∧ l = nI j := by
  simp only [isN, Bool.and_eq_true, decide_eq_true_eq] at h
  have h0 : ¬ l < 0 := fun g => h.1 (Int32.lt_of_lt_of_le g (by decide))
  obtain ⟨j, hj, rfl⟩ := nI_nat h0
  have h2 := h.2
  have h1 := h.1
  rw [nI_ltI (by omega) hj] at h2
  rw [nI_ltI hj (by omega)] at h1
  exact ⟨j, by omega, by omega, rfl⟩
theorem isL_n {j : Nat} (h : j < 7) : isL (nI j) = true := by
  have h0 : ¬ nI j < 0 := nI_pos (by omega)
  have h1 : ¬ nI 7 ≤ nI j := by rw [nI_leI (by omega) (by omega)]; omega
  rw [isL, decide_eq_true h0, decide_eq_true h1]; rfl
theorem isP_n {j : Nat} (h : j < 4) : isP (nI j) = true := by
  have h0 : ¬ nI j < 0 := nI_pos (by omega)
  have h1 : ¬ nI 4 ≤ nI j := by rw [nI_leI (by omega) (by omega)]; omega
  rw [isP, decide_eq_true h0, decide_eq_true h1]; rfl
theorem isN_n {j : Nat} (h1 : 1 ≤ j) (h6 : j ≤ 6) : isN (nI j) = true := by
  have h0 : ¬ nI j < nI 1 := by rw [nI_ltI (by omega) (by omega)]; omega
  have h1 : ¬ nI 6 < nI j := by rw [nI_ltI (by omega) (by omega)]; omega
  rw [isN, decide_eq_true h0, decide_eq_true h1]; rfl
theorem s_X8_isLine {l : Int32} (hQ : Q (some (.int (bI (isL l)))) M)  : MS G yX8_isLine cX8_isLine 1 (some .boolean) d 0 0 [.int l] M Q QX := by
  refine MS.of (by decide) (by simp [Value.category]) (Nat.le_of_ble_eq_true rfl) ?_
  show AW _ (_, _, _, _, _, _, _, _, _) _ _ _ _ [some _] _ _
  refine r_iload_n (q := 1) dX8_isLine_0 rfl rfl ?_
  refine r_if_lt (t := 14) (q := 4) dX8_isLine_1 rfl rfl (fun c1 => ?_) (fun c1 => ?_)
  · rw [show isL l = false from by rw [isL, decide_eq_false (not_not_intro c1)]; rfl] at hQ
    refine r_iconst (v := nI 0) (q := 15) dX8_isLine_14 (by decide) rfl ?_
    refine r_zret dX8_isLine_15 (by first | rfl | exact narrow_bI _) ?_
    exact hQ
  · refine r_iload_n (q := 5) dX8_isLine_4 rfl rfl ?_
    refine r_bipush (v := nI 7) (q := 7) dX8_isLine_5 (by decide) rfl ?_
    refine r_icmp_ge (t := 14) (q := 10) dX8_isLine_7 rfl rfl (fun c7 => ?_) (fun c7 => ?_)
    · rw [show isL l = false from by rw [isL, decide_eq_false (not_not_intro c7), Bool.and_false]] at hQ
      refine r_iconst (v := nI 0) (q := 15) dX8_isLine_14 (by decide) rfl ?_
      refine r_zret dX8_isLine_15 (by first | rfl | exact narrow_bI _) ?_
      exact hQ
    · rw [show isL l = true from by rw [isL, decide_eq_true c1, decide_eq_true c7]; rfl] at hQ
      refine r_iconst (v := nI 1) (q := 11) dX8_isLine_10 (by decide) rfl ?_
      refine r_goto (t := 15) dX8_isLine_11 rfl ?_
      refine r_zret dX8_isLine_15 (by first | rfl | exact narrow_bI _) ?_
      exact hQ
theorem s_X8_isPlatform {l : Int32} (hQ : Q (some (.int (bI (isP l)))) M)  : MS G yX8_isPlatform cX8_isPlatform 1 (some .boolean) d 0 0 [.int l] M Q QX := by
  refine MS.of (by decide) (by simp [Value.category]) (Nat.le_of_ble_eq_true rfl) ?_
  show AW _ (_, _, _, _, _, _, _, _, _) _ _ _ _ [some _] _ _
  refine r_iload_n (q := 1) dX8_isPlatform_0 rfl rfl ?_
  refine r_if_lt (t := 13) (q := 4) dX8_isPlatform_1 rfl rfl (fun c1 => ?_) (fun c1 => ?_)
  · rw [show isP l = false from by rw [isP, decide_eq_false (not_not_intro c1)]; rfl] at hQ
    refine r_iconst (v := nI 0) (q := 14) dX8_isPlatform_13 (by decide) rfl ?_
    refine r_zret dX8_isPlatform_14 (by first | rfl | exact narrow_bI _) ?_
    exact hQ
  · refine r_iload_n (q := 5) dX8_isPlatform_4 rfl rfl ?_
    refine r_iconst (v := nI 4) (q := 6) dX8_isPlatform_5 (by decide) rfl ?_
    refine r_icmp_ge (t := 13) (q := 9) dX8_isPlatform_6 rfl rfl (fun c6 => ?_) (fun c6 => ?_)
    · rw [show isP l = false from by rw [isP, decide_eq_false (not_not_intro c6), Bool.and_false]] at hQ
      refine r_iconst (v := nI 0) (q := 14) dX8_isPlatform_13 (by decide) rfl ?_
      refine r_zret dX8_isPlatform_14 (by first | rfl | exact narrow_bI _) ?_
      exact hQ
    · rw [show isP l = true from by rw [isP, decide_eq_true c1, decide_eq_true c6]; rfl] at hQ
      refine r_iconst (v := nI 1) (q := 10) dX8_isPlatform_9 (by decide) rfl ?_
      refine r_goto (t := 14) dX8_isPlatform_10 rfl ?_
      refine r_zret dX8_isPlatform_14 (by first | rfl | exact narrow_bI _) ?_
      exact hQ
theorem s_X8_isLength {l : Int32} (hQ : Q (some (.int (bI (isN l)))) M)  : MS G yX8_isLength cX8_isLength 1 (some .boolean) d 0 0 [.int l] M Q QX := by
  refine MS.of (by decide) (by simp [Value.category]) (Nat.le_of_ble_eq_true rfl) ?_
  show AW _ (_, _, _, _, _, _, _, _, _) _ _ _ _ [some _] _ _
  refine r_iload_n (q := 1) dX8_isLength_0 rfl rfl ?_
  refine r_iconst (v := nI 1) (q := 2) dX8_isLength_1 (by decide) rfl ?_
  refine r_icmp_lt (t := 15) (q := 5) dX8_isLength_2 rfl rfl (fun c2 => ?_) (fun c2 => ?_)
  · rw [show isN l = false from by rw [isN, decide_eq_false (not_not_intro c2)]; rfl] at hQ
    refine r_iconst (v := nI 0) (q := 16) dX8_isLength_15 (by decide) rfl ?_
    refine r_zret dX8_isLength_16 (by first | rfl | exact narrow_bI _) ?_
    exact hQ
  · refine r_iload_n (q := 6) dX8_isLength_5 rfl rfl ?_
    refine r_bipush (v := nI 6) (q := 8) dX8_isLength_6 (by decide) rfl ?_
    refine r_icmp_gt (t := 15) (q := 11) dX8_isLength_8 rfl rfl (fun c8 => ?_) (fun c8 => ?_)
    · rw [show isN l = false from by rw [isN, decide_eq_false (not_not_intro c8), Bool.and_false]] at hQ
      refine r_iconst (v := nI 0) (q := 16) dX8_isLength_15 (by decide) rfl ?_
      refine r_zret dX8_isLength_16 (by first | rfl | exact narrow_bI _) ?_
      exact hQ
    · rw [show isN l = true from by rw [isN, decide_eq_true c2, decide_eq_true c8]; rfl] at hQ
      refine r_iconst (v := nI 1) (q := 12) dX8_isLength_11 (by decide) rfl ?_
      refine r_goto (t := 16) dX8_isLength_12 rfl ?_
      refine r_zret dX8_isLength_16 (by first | rfl | exact narrow_bI _) ?_
      exact hQ
abbrev Fl : Type := Nat × Option (Int32 × Int32)
def fR (σ : Sg) : Option (Int32 × Int32) → Sg
  | none => σ
  | some r => sM (sM σ 3 r.1) 4 r.2
def no : Fl := (0, none)
def bad (f v : Int32) : Fl := (3, some (f, v))
def fNS (S : St) (l : Nat) : Fl := if (S.1 0).getD l 0 = 0 then bad (nI 2) (nI ((S.1 0).countP (0 < ·))) else no
def fMt (S : St) (l : Nat) : Fl := if 0 < (S.1 4).getD l 0 then bad (nI 4) (nI ((S.1 4).getD l 0)) else no
def fBl (S : St) (l t : Nat) : Fl := if (S.1 0).getD t 0 = 0 then bad (nI 2) (nI ((S.1 0).countP (0 < ·))) else if 0 < (S.1 4).getD l 0 then bad (nI 4) (nI ((S.1 4).getD l 0)) else if (gWh (S.1 11) l).isSome = true then bad (nI 5) (nI (S.2 0)) else if (S.1 2).getD l 0 < cost S l t then bad (nI 6) (nI (cost S l t - (S.1 2).getD l 0)) else no
def fSign (S : St) (l n b : Int32) : Fl := if isL l = false then (1, none) else if isN n = false then (2, none) else if b < 0 then (2, none) else if nI (2 ^ n.toNatClampNeg - 1) < b then (2, none) else match gOwner (S.1 0) (n.toNatClampNeg * 64 + b.toNatClampNeg) with
  | none => no
  | some o => bad (nI 1) (nI o)
def fUns (S : St) (l : Int32) : Fl := if isL l = false then (1, none) else fNS S l.toNatClampNeg
def fPri (S : St) (l p : Int32) : Fl := if isL l = false then (1, none) else if p < 0 then (2, none) else if nI 9 < p then (2, none) else if (S.1 1).getD l.toNatClampNeg 0 = p.toNatClampNeg then bad (nI 3) p else no
def fPla (p dl m : Int32) : Fl := if isP p = false then (1, none) else if dl < 0 then (2, none) else if nI 5 < dl then (2, none) else if m < 0 then (2, none) else if nI 127 < m then (2, none) else no
def fWhi (S : St) (l : Int32) : Fl := if isL l = false then (1, none) else fBl S l.toNatClampNeg l.toNatClampNeg
def fLi (S : St) (l t : Int32) : Fl := if isL l = false then (1, none) else if isL t = false then (1, none) else if l = t then (2, none) else fBl S l.toNatClampNeg t.toNatClampNeg
def fXp (S : St) (l : Int32) : Fl := if isL l = false then (1, none) else if gLie (S.1 11) l.toNatClampNeg = none then bad (nI 7) (nI ((S.1 11).countP fun s => !dX s)) else no
def fMu (S : St) (l m : Int32) : Fl := if isL l = false then (1, none) else if m < nI 1 then (2, none) else if nI 9 < m then (2, none) else fMt S l.toNatClampNeg
def fFi (S : St) (l : Int32) : Fl := if isL l = false then (1, none) else if (S.1 4).getD l.toNatClampNeg 0 = 0 then bad (nI 8) (nI ((S.1 3).getD l.toNatClampNeg 0)) else if (S.1 3).getD l.toNatClampNeg 0 < 2 * (S.1 4).getD l.toNatClampNeg 0 then bad (nI 9) (nI (2 * (S.1 4).getD l.toNatClampNeg 0 - (S.1 3).getD l.toNatClampNeg 0)) else no
theorem sub_le0 {a b : Nat} (ha : a < 2 ^ 30) (hb : b < 2 ^ 30) : nI a - nI b ≤ 0 ↔ a ≤ b := by
  rw [Int32.le_iff_toInt_le, pk_sub_toInt ha hb, Int32.toInt_zero]; omega
theorem cost_lt (hw : ∀ x ∈ S.1 0, x < 448) (l t : Nat) : cost S l t ≤ 24 := by
  have h1 : gWd S t < 448 := getD_all (by decide) hw t
  have h2 := stm_lt h1
  unfold cost
  split <;> omega
theorem nI_c7 {j : Nat} (h : j < 2 ^ 31) : (nI j).toNatClampNeg = j := nI_clamp h
theorem s_X8_refuse (h : RX G Λ ρ (sS σ 0 S) M) {f v : Int32} (hQ : ∀ M', RX G Λ ρ (sS (sM (sM σ 3 f) 4 v) 0 S) M' → Q (some (.int (nI 3))) M')  : MS G yX8_refuse cX8_refuse 3 (some .int) d 0 0 [.ref (Λ (0, 0, 0)), .int f, .int v] M Q QX := by
  refine MS.of (by decide) (by simp [Value.category]) (Nat.le_of_ble_eq_true rfl) ?_
  show AW _ (_, _, _, _, _, _, _, _, _) _ _ _ _ [some _, some _, some _] _ _
  refine r_aload_n (q := 1) dX8_refuse_0 rfl rfl ?_
  refine r_iload_n (q := 2) dX8_refuse_1 rfl rfl ?_
  refine r_p8 (q := 5) (kk := 10) (j := 3) h (by decide) rfl fk_X8_61 dX8_refuse_2 rfl fun M_2 h_2 => ?_
  refine r_aload_n (q := 6) dX8_refuse_5 rfl rfl ?_
  refine r_iload_n (q := 7) dX8_refuse_6 rfl rfl ?_
  refine r_p8 (q := 10) (kk := 11) (j := 4) h_2 (by decide) rfl fk_X8_64 dX8_refuse_7 rfl fun M_7 h_7 => ?_
  refine r_iconst (v := nI 3) (q := 11) dX8_refuse_10 (by decide) rfl ?_
  refine r_iret dX8_refuse_11 ?_
  exact hQ _ h_7
theorem s_X8_faultOfNoSign (h : RX G Λ ρ (sS σ 0 S) M) {l : Nat} (hl : l < 7) (hQ : ∀ M', RX G Λ ρ (sS (fR σ (fNS S l).2) 0 S) M' → Q (some (.int (nI (fNS S l).1))) M')  : MS G yX8_faultOfNoSign cX8_faultOfNoSign 2 (some .int) (d + 2) 0 0 [.ref (Λ (0, 0, 0)), .int (nI l)] M Q QX := by
  have h0 := t_lt h (by decide : wR 0 0 = true) l
  refine MS.of (by decide) (by simp [Value.category]) (Nat.le_of_ble_eq_true rfl) ?_
  show AW _ (_, _, _, _, _, _, _, _, _) _ _ _ _ [some _, some _] _ _
  refine r_aload_n (q := 1) dX8_faultOfNoSign_0 rfl rfl ?_
  refine r_get (q := 4) (kk := 0) h.x rfl wi_RX8 (by decide) rfl fk_X8_12 rfl dX8_faultOfNoSign_1 rfl ?_
  refine r_get (q := 7) (kk := 0) (h.st (by decide)) rfl wi_RX5 (by decide) rfl fk_X8_67 rfl dX8_faultOfNoSign_4 rfl ?_
  refine r_iload_n (q := 8) dX8_faultOfNoSign_7 rfl rfl ?_
  refine r_cV (q := 11) (As := [.int _]) wc_X8_215 rfl im_X2_at se_X2_at (h.row (by decide)) rfl rfl (Nat.le_of_ble_eq_true rfl) (Nat.le_of_eq (Nat.zero_add _)) (Nat.le_of_eq (Nat.zero_add _)) dX8_faultOfNoSign_8 rfl rfl (t_atN h (by decide) (by omega) ?_)
  refine r_if_ne (t := 32) (q := 14) dX8_faultOfNoSign_11 rfl rfl (fun c11 => ?_) (fun c11 => ?_)
  · simp (disch := omega) only [nI_leI, nI_ltI, nI_eq, nI_lt0, nI_ge0, nI_gt0, nI_le0, nI_eq0] at c11
    rw [show fNS S l = no from if_neg c11] at hQ
    refine r_iconst (v := nI 0) (q := 33) dX8_faultOfNoSign_32 (by decide) rfl ?_
    refine r_iret dX8_faultOfNoSign_33 ?_
    exact hQ _ h
  · simp (disch := omega) only [nI_leI, nI_ltI, nI_eq, nI_lt0, nI_ge0, nI_gt0, nI_le0, nI_eq0] at c11
    rw [show fNS S l = bad (nI 2) (nI ((S.1 0).countP (0 < ·))) from if_pos c11] at hQ
    refine r_aload_n (q := 15) dX8_faultOfNoSign_14 rfl rfl ?_
    refine r_iconst (v := nI 2) (q := 16) dX8_faultOfNoSign_15 (by decide) rfl ?_
    refine r_aload_n (q := 17) dX8_faultOfNoSign_16 rfl rfl ?_
    refine r_get (q := 20) (kk := 0) h.x rfl wi_RX8 (by decide) rfl fk_X8_12 rfl dX8_faultOfNoSign_17 rfl ?_
    refine r_get (q := 23) (kk := 0) (h.st (by decide)) rfl wi_RX5 (by decide) rfl fk_X8_67 rfl dX8_faultOfNoSign_20 rfl ?_
    refine r_cS (q := 26) (As := [.ref _]) wc_X8_71 st_X3_number rfl (Nat.le_of_ble_eq_true rfl) (Nat.le_of_eq (Nat.zero_add _)) (Nat.le_of_eq (Nat.zero_add _)) dX8_faultOfNoSign_23 rfl rfl (s_X3_number (h.rwS (by decide)) ?_)
    refine r_cV (q := 29) (As := [.int _, .int _]) wc_X8_384 rfl im_X8_refuse se_X8_refuse h.x rfl rfl (Nat.le_of_ble_eq_true rfl) (Nat.le_of_eq (Nat.zero_add _)) (Nat.le_of_eq (Nat.zero_add _)) dX8_faultOfNoSign_26 rfl rfl (s_X8_refuse h fun M_26 h_26 => ?_)
    refine r_goto (t := 33) dX8_faultOfNoSign_29 rfl ?_
    refine r_iret dX8_faultOfNoSign_33 ?_
    exact hQ _ h_26
theorem s_X8_faultOfMuted (h : RX G Λ ρ (sS σ 0 S) M) {l : Nat} (hl : l < 7) (hQ : ∀ M', RX G Λ ρ (sS (fR σ (fMt S l).2) 0 S) M' → Q (some (.int (nI (fMt S l).1))) M')  : MS G yX8_faultOfMuted cX8_faultOfMuted 3 (some .int) (d + 1) 0 0 [.ref (Λ (0, 0, 0)), .int (nI l)] M Q QX := by
  have h0 := t_lt h (by decide : wR 0 4 = true) l
  refine MS.of (by decide) (by simp [Value.category]) (Nat.le_of_ble_eq_true rfl) ?_
  show AW _ (_, _, _, _, _, _, _, _, _) _ _ _ _ [some _, some _, _] _ _
  refine r_aload_n (q := 1) dX8_faultOfMuted_0 rfl rfl ?_
  refine r_get (q := 4) (kk := 0) h.x rfl wi_RX8 (by decide) rfl fk_X8_12 rfl dX8_faultOfMuted_1 rfl ?_
  refine r_get (q := 7) (kk := 4) (h.st (by decide)) rfl wi_RX5 (by decide) rfl fk_X8_411 rfl dX8_faultOfMuted_4 rfl ?_
  refine r_iload_n (q := 8) dX8_faultOfMuted_7 rfl rfl ?_
  refine r_cV (q := 11) (As := [.int _]) wc_X8_215 rfl im_X2_at se_X2_at (h.row (by decide)) rfl rfl (Nat.le_of_ble_eq_true rfl) (Nat.le_of_eq (Nat.zero_add _)) (Nat.le_of_eq (Nat.zero_add _)) dX8_faultOfMuted_8 rfl rfl (t_atN h (by decide) (by omega) ?_)
  refine r_istore_n (q := 12) dX8_faultOfMuted_11 (Nat.le_of_ble_eq_true rfl) rfl rfl ?_
  show AW _ (_, _, _, _, _, _, _, _, _) _ _ _ _ [some _, some _, some _] _ _
  refine r_iload_n (q := 13) dX8_faultOfMuted_12 rfl rfl ?_
  refine r_if_le (t := 25) (q := 16) dX8_faultOfMuted_13 rfl rfl (fun c13 => ?_) (fun c13 => ?_)
  · simp (disch := omega) only [nI_leI, nI_ltI, nI_eq, nI_lt0, nI_ge0, nI_gt0, nI_le0, nI_eq0] at c13
    rw [show fMt S l = no from if_neg (by omega)] at hQ
    refine r_iconst (v := nI 0) (q := 26) dX8_faultOfMuted_25 (by decide) rfl ?_
    refine r_iret dX8_faultOfMuted_26 ?_
    exact hQ _ h
  · simp (disch := omega) only [nI_leI, nI_ltI, nI_eq, nI_lt0, nI_ge0, nI_gt0, nI_le0, nI_eq0] at c13
    rw [show fMt S l = bad (nI 4) (nI ((S.1 4).getD l 0)) from if_pos (by omega)] at hQ
    refine r_aload_n (q := 17) dX8_faultOfMuted_16 rfl rfl ?_
    refine r_iconst (v := nI 4) (q := 18) dX8_faultOfMuted_17 (by decide) rfl ?_
    refine r_iload_n (q := 19) dX8_faultOfMuted_18 rfl rfl ?_
    refine r_cV (q := 22) (As := [.int _, .int _]) wc_X8_384 rfl im_X8_refuse se_X8_refuse h.x rfl rfl (Nat.le_of_ble_eq_true rfl) (Nat.le_of_eq (Nat.zero_add _)) (Nat.le_of_eq (Nat.zero_add _)) dX8_faultOfMuted_19 rfl rfl (s_X8_refuse h fun M_19 h_19 => ?_)
    refine r_goto (t := 26) dX8_faultOfMuted_22 rfl ?_
    refine r_iret dX8_faultOfMuted_26 ?_
    exact hQ _ h_19
theorem s_X8_faultOfBlow (h : RX G Λ ρ (sS σ 0 S) M) (hs : Sm S) (hw : ∀ x ∈ S.1 0, x < 448) {l t : Nat} (hl : l < 7) (ht : t < 7) (hQ : ∀ M', RX G Λ ρ (sS (fR σ (fBl S l t).2) 0 S) M' → Q (some (.int (nI (fBl S l t).1))) M')  : MS G yX8_faultOfBlow cX8_faultOfBlow 5 (some .int) (d + 4) 0 0 [.ref (Λ (0, 0, 0)), .int (nI l), .int (nI t)] M Q QX := by
  have hc9 := cost_lt hw l t
  have h29 := hs.lt (by decide : 2 < 13) l
  have h4 := t_lt h (by decide : wR 0 4 = true) l
  have tailF : ∀ (σ : Sg) (M1 : Me) (u : Option Value), RX G Λ ρ (sS σ 0 S) M1 → Q (some (.int (nI 3))) M1 → AW G (wX G yX8_faultOfBlow cX8_faultOfBlow 5 (some .int) 0 0 Q QX) (d + 4) 0 0 44 [some (.ref (Λ (0, 0, 0))), some (.int (nI l)), some (.int (nI t)), some (.int (nI 3)), u] [] M1 := by
    intro σ M1 u h1 hQ1
    refine r_aload_n (q := 45) dX8_faultOfBlow_44 rfl rfl ?_
    refine r_get (q := 48) (kk := 0) h1.x rfl wi_RX8 (by decide) rfl fk_X8_12 rfl dX8_faultOfBlow_45 rfl ?_
    refine r_iload_n (q := 49) dX8_faultOfBlow_48 rfl rfl ?_
    refine r_iload_n (q := 50) dX8_faultOfBlow_49 rfl rfl ?_
    refine r_cV (q := 53) (As := [.int _, .int _]) wc_X8_402 rfl im_X5_steamToBlow se_X5_steamToBlow (h1.st (by decide)) rfl rfl (Nat.le_of_ble_eq_true rfl) (Nat.le_of_eq (Nat.zero_add _)) (Nat.le_of_eq (Nat.zero_add _)) dX8_faultOfBlow_50 rfl rfl (s_X5_steamToBlow h1 (by decide) hl ht ?_)
    refine r_aload_n (q := 54) dX8_faultOfBlow_53 rfl rfl ?_
    refine r_get (q := 57) (kk := 0) h1.x rfl wi_RX8 (by decide) rfl fk_X8_12 rfl dX8_faultOfBlow_54 rfl ?_
    refine r_get (q := 60) (kk := 2) (h1.st (by decide)) rfl wi_RX5 (by decide) rfl fk_X8_251 rfl dX8_faultOfBlow_57 rfl ?_
    refine r_iload_n (q := 61) dX8_faultOfBlow_60 rfl rfl ?_
    refine r_cV (q := 64) (As := [.int _]) wc_X8_215 rfl im_X2_at se_X2_at (h1.row (by decide)) rfl rfl (Nat.le_of_ble_eq_true rfl) (Nat.le_of_eq (Nat.zero_add _)) (Nat.le_of_eq (Nat.zero_add _)) dX8_faultOfBlow_61 rfl rfl (t_atN h1 (by decide) (by omega) ?_)
    refine r_isub (q := 65) dX8_faultOfBlow_64 rfl ?_
    refine r_istore (q := 67) dX8_faultOfBlow_65 (Nat.le_of_ble_eq_true rfl) rfl rfl ?_
    show AW _ (_, _, _, _, _, _, _, _, _) _ _ _ _ [some _, some _, some _, some _, some _] _ _
    refine r_iload_n (q := 68) dX8_faultOfBlow_67 rfl rfl ?_
    refine r_if_ne (t := 85) (q := 71) dX8_faultOfBlow_68 rfl rfl (fun c68 => ?_) (fun c68 => ?_)
    · refine r_iload_n (q := 86) dX8_faultOfBlow_85 rfl rfl ?_
      refine r_iret dX8_faultOfBlow_86 ?_
      exact hQ1
    · exact absurd c68 (by decide)
  have tail0 : ∀ (σ : Sg) (M1 : Me) (u : Option Value), RX G Λ ρ (sS σ 0 S) M1 → (∀ M', RX G Λ ρ (sS (fR σ (if (S.1 2).getD l 0 < cost S l t then bad (nI 6) (nI (cost S l t - (S.1 2).getD l 0)) else no).2) 0 S) M' → Q (some (.int (nI (if (S.1 2).getD l 0 < cost S l t then bad (nI 6) (nI (cost S l t - (S.1 2).getD l 0)) else no).1))) M') → AW G (wX G yX8_faultOfBlow cX8_faultOfBlow 5 (some .int) 0 0 Q QX) (d + 4) 0 0 44 [some (.ref (Λ (0, 0, 0))), some (.int (nI l)), some (.int (nI t)), some (.int (nI 0)), u] [] M1 := by
    intro σ M1 u h1 hQ1
    refine r_aload_n (q := 45) dX8_faultOfBlow_44 rfl rfl ?_
    refine r_get (q := 48) (kk := 0) h1.x rfl wi_RX8 (by decide) rfl fk_X8_12 rfl dX8_faultOfBlow_45 rfl ?_
    refine r_iload_n (q := 49) dX8_faultOfBlow_48 rfl rfl ?_
    refine r_iload_n (q := 50) dX8_faultOfBlow_49 rfl rfl ?_
    refine r_cV (q := 53) (As := [.int _, .int _]) wc_X8_402 rfl im_X5_steamToBlow se_X5_steamToBlow (h1.st (by decide)) rfl rfl (Nat.le_of_ble_eq_true rfl) (Nat.le_of_eq (Nat.zero_add _)) (Nat.le_of_eq (Nat.zero_add _)) dX8_faultOfBlow_50 rfl rfl (s_X5_steamToBlow h1 (by decide) hl ht ?_)
    refine r_aload_n (q := 54) dX8_faultOfBlow_53 rfl rfl ?_
    refine r_get (q := 57) (kk := 0) h1.x rfl wi_RX8 (by decide) rfl fk_X8_12 rfl dX8_faultOfBlow_54 rfl ?_
    refine r_get (q := 60) (kk := 2) (h1.st (by decide)) rfl wi_RX5 (by decide) rfl fk_X8_251 rfl dX8_faultOfBlow_57 rfl ?_
    refine r_iload_n (q := 61) dX8_faultOfBlow_60 rfl rfl ?_
    refine r_cV (q := 64) (As := [.int _]) wc_X8_215 rfl im_X2_at se_X2_at (h1.row (by decide)) rfl rfl (Nat.le_of_ble_eq_true rfl) (Nat.le_of_eq (Nat.zero_add _)) (Nat.le_of_eq (Nat.zero_add _)) dX8_faultOfBlow_61 rfl rfl (t_atN h1 (by decide) (by omega) ?_)
    refine r_isub (q := 65) dX8_faultOfBlow_64 rfl ?_
    refine r_istore (q := 67) dX8_faultOfBlow_65 (Nat.le_of_ble_eq_true rfl) rfl rfl ?_
    show AW _ (_, _, _, _, _, _, _, _, _) _ _ _ _ [some _, some _, some _, some _, some _] _ _
    refine r_iload_n (q := 68) dX8_faultOfBlow_67 rfl rfl ?_
    refine r_if_ne (t := 85) (q := 71) dX8_faultOfBlow_68 rfl rfl (fun c68 => ?_) (fun c68 => ?_)
    · exact absurd (rfl : nI 0 = 0) c68
    · refine r_iload (q := 73) dX8_faultOfBlow_71 rfl rfl ?_
      refine r_if_le (t := 85) (q := 76) dX8_faultOfBlow_73 rfl rfl (fun c73 => ?_) (fun c73 => ?_)
      · rw [sub_le0 (by omega) (by omega)] at c73
        rw [if_neg (by omega)] at hQ1
        refine r_iload_n (q := 86) dX8_faultOfBlow_85 rfl rfl ?_
        refine r_iret dX8_faultOfBlow_86 ?_
        exact hQ1 _ h1
      · rw [sub_le0 (by omega) (by omega)] at c73
        rw [if_pos (by omega)] at hQ1
        rw [n_sub (by omega)]
        refine r_aload_n (q := 77) dX8_faultOfBlow_76 rfl rfl ?_
        refine r_bipush (v := nI 6) (q := 79) dX8_faultOfBlow_77 (by decide) rfl ?_
        refine r_iload (q := 81) dX8_faultOfBlow_79 rfl rfl ?_
        refine r_cV (q := 84) (As := [.int _, .int _]) wc_X8_384 rfl im_X8_refuse se_X8_refuse h1.x rfl rfl (Nat.le_of_ble_eq_true rfl) (Nat.le_of_eq (Nat.zero_add _)) (Nat.le_of_eq (Nat.zero_add _)) dX8_faultOfBlow_81 rfl rfl (s_X8_refuse h1 fun M_81 h1_81 => ?_)
        refine r_istore_n (q := 85) dX8_faultOfBlow_84 (Nat.le_of_ble_eq_true rfl) rfl rfl ?_
        show AW _ (_, _, _, _, _, _, _, _, _) _ _ _ _ [some _, some _, some _, some _, some _] _ _
        refine r_iload_n (q := 86) dX8_faultOfBlow_85 rfl rfl ?_
        refine r_iret dX8_faultOfBlow_86 ?_
        exact hQ1 _ h1_81
  refine MS.of (by decide) (by simp [Value.category]) (Nat.le_of_ble_eq_true rfl) ?_
  show AW _ (_, _, _, _, _, _, _, _, _) _ _ _ _ [some _, some _, some _, _, _] _ _
  refine r_aload_n (q := 1) dX8_faultOfBlow_0 rfl rfl ?_
  refine r_iload_n (q := 2) dX8_faultOfBlow_1 rfl rfl ?_
  refine r_cV (q := 5) (As := [.int _]) wc_X8_387 rfl im_X8_faultOfNoSign se_X8_faultOfNoSign h.x rfl rfl (Nat.le_of_ble_eq_true rfl) (Nat.le_of_eq (Nat.zero_add _)) (Nat.le_of_eq (Nat.zero_add _)) dX8_faultOfBlow_2 rfl rfl (s_X8_faultOfNoSign h ht fun M_2 h_2 => ?_)
  refine r_istore_n (q := 6) dX8_faultOfBlow_5 (Nat.le_of_ble_eq_true rfl) rfl rfl ?_
  show AW _ (_, _, _, _, _, _, _, _, _) _ _ _ _ [some _, some _, some _, some _, _] _ _
  by_cases e2 : (S.1 0).getD t 0 = 0
  · rw [show fNS S t = bad (nI 2) (nI ((S.1 0).countP (0 < ·))) from if_pos e2] at h_2 ⊢
    rw [show fBl S l t = bad (nI 2) (nI ((S.1 0).countP (0 < ·))) from if_pos e2] at hQ
    refine r_iload_n (q := 7) dX8_faultOfBlow_6 rfl rfl ?_
    refine r_if_ne (t := 16) (q := 10) dX8_faultOfBlow_7 rfl rfl (fun c7 => ?_) (fun c7 => absurd c7 (show ¬ nI 3 = 0 by decide))
    refine r_iload_n (q := 17) dX8_faultOfBlow_16 rfl rfl ?_
    refine r_if_ne (t := 44) (q := 20) dX8_faultOfBlow_17 rfl rfl (fun c17 => ?_) (fun c17 => absurd c17 (show ¬ nI 3 = 0 by decide))
    exact tailF _ _ _ h_2 (hQ _ h_2)
  rw [show fNS S t = no from if_neg e2] at h_2 ⊢
  refine r_iload_n (q := 7) dX8_faultOfBlow_6 rfl rfl ?_
  refine r_if_ne (t := 16) (q := 10) dX8_faultOfBlow_7 rfl rfl (fun c7 => ?_) (fun c7 => ?_)
  · exact absurd (rfl : nI 0 = 0) c7
  · refine r_aload_n (q := 11) dX8_faultOfBlow_10 rfl rfl ?_
    refine r_iload_n (q := 12) dX8_faultOfBlow_11 rfl rfl ?_
    refine r_cV (q := 15) (As := [.int _]) wc_X8_393 rfl im_X8_faultOfMuted se_X8_faultOfMuted h_2.x rfl rfl (Nat.le_of_ble_eq_true rfl) (Nat.le_of_eq (Nat.zero_add _)) (Nat.le_of_eq (Nat.zero_add _)) dX8_faultOfBlow_12 rfl rfl (s_X8_faultOfMuted h_2 hl fun M_12 h_12 => ?_)
    refine r_istore_n (q := 16) dX8_faultOfBlow_15 (Nat.le_of_ble_eq_true rfl) rfl rfl ?_
    show AW _ (_, _, _, _, _, _, _, _, _) _ _ _ _ [some _, some _, some _, some _, _] _ _
    by_cases e4 : 0 < (S.1 4).getD l 0
    · rw [show fMt S l = bad (nI 4) (nI ((S.1 4).getD l 0)) from if_pos e4] at h_12 ⊢
      rw [show fBl S l t = bad (nI 4) (nI ((S.1 4).getD l 0)) from by rw [fBl, if_neg e2, if_pos e4]] at hQ
      refine r_iload_n (q := 17) dX8_faultOfBlow_16 rfl rfl ?_
      refine r_if_ne (t := 44) (q := 20) dX8_faultOfBlow_17 rfl rfl (fun c17 => ?_) (fun c17 => absurd c17 (show ¬ nI 3 = 0 by decide))
      exact tailF _ _ _ h_12 (hQ _ h_12)
    rw [show fMt S l = no from if_neg e4] at h_12 ⊢
    refine r_iload_n (q := 17) dX8_faultOfBlow_16 rfl rfl ?_
    refine r_if_ne (t := 44) (q := 20) dX8_faultOfBlow_17 rfl rfl (fun c17 => ?_) (fun c17 => ?_)
    · exact absurd (rfl : nI 0 = 0) c17
    · refine r_aload_n (q := 21) dX8_faultOfBlow_20 rfl rfl ?_
      refine r_get (q := 24) (kk := 0) h_12.x rfl wi_RX8 (by decide) rfl fk_X8_12 rfl dX8_faultOfBlow_21 rfl ?_
      refine r_iload_n (q := 25) dX8_faultOfBlow_24 rfl rfl ?_
      refine r_cV (q := 28) (As := [.int _]) wc_X8_396 rfl im_X5_hasWhistled se_X5_hasWhistled (h_12.st (by decide)) rfl rfl (Nat.le_of_ble_eq_true rfl) (Nat.le_of_eq (Nat.zero_add _)) (Nat.le_of_eq (Nat.zero_add _)) dX8_faultOfBlow_25 rfl rfl (s_X5_hasWhistled h_12 (by decide) hl ?_)
      refine r_if_eq (t := 44) (q := 31) dX8_faultOfBlow_28 rfl rfl (fun c28 => ?_) (fun c28 => ?_)
      · have e5 := bI_eq0.mp c28
        rw [show fBl S l t = (if (S.1 2).getD l 0 < cost S l t then bad (nI 6) (nI (cost S l t - (S.1 2).getD l 0)) else no) from by rw [fBl, if_neg e2, if_neg e4, if_neg (by rw [e5]; decide)]] at hQ
        exact tail0 _ _ _ h_12 hQ
      · have e5 := bI_ne c28
        rw [show fBl S l t = bad (nI 5) (nI (S.2 0)) from by rw [fBl, if_neg e2, if_neg e4, if_pos e5]] at hQ
        refine r_aload_n (q := 32) dX8_faultOfBlow_31 rfl rfl ?_
        refine r_iconst (v := nI 5) (q := 33) dX8_faultOfBlow_32 (by decide) rfl ?_
        refine r_aload_n (q := 34) dX8_faultOfBlow_33 rfl rfl ?_
        refine r_get (q := 37) (kk := 0) h_12.x rfl wi_RX8 (by decide) rfl fk_X8_12 rfl dX8_faultOfBlow_34 rfl ?_
        refine r_get (q := 40) (kk := 13) (h_12.st (by decide)) rfl wi_RX5 (by decide) rfl fk_X8_399 rfl dX8_faultOfBlow_37 rfl ?_
        rw [gI_s]
        refine r_cV (q := 43) (As := [.int _, .int _]) wc_X8_384 rfl im_X8_refuse se_X8_refuse h_12.x rfl rfl (Nat.le_of_ble_eq_true rfl) (Nat.le_of_eq (Nat.zero_add _)) (Nat.le_of_eq (Nat.zero_add _)) dX8_faultOfBlow_40 rfl rfl (s_X8_refuse h_12 fun M_40 h_40 => ?_)
        refine r_istore_n (q := 44) dX8_faultOfBlow_43 (Nat.le_of_ble_eq_true rfl) rfl rfl ?_
        show AW _ (_, _, _, _, _, _, _, _, _) _ _ _ _ [some _, some _, some _, some _, _] _ _
        exact tailF _ _ _ h_40 (hQ _ h_40)
theorem s_X8_faultOfUnsign (h : RX G Λ ρ (sS σ 0 S) M) {l : Int32} (hQ : ∀ M', RX G Λ ρ (sS (fR σ (fUns S l).2) 0 S) M' → Q (some (.int (nI (fUns S l).1))) M')  : MS G yX8_faultOfUnsign cX8_faultOfUnsign 2 (some .int) (d + 3) 0 0 [.ref (Λ (0, 0, 0)), .int l] M Q QX := by
  refine MS.of (by decide) (by simp [Value.category]) (Nat.le_of_ble_eq_true rfl) ?_
  show AW _ (_, _, _, _, _, _, _, _, _) _ _ _ _ [some _, some _] _ _
  refine r_iload_n (q := 1) dX8_faultOfUnsign_0 rfl rfl ?_
  refine r_cS (q := 4) (As := [.int _]) wc_X8_119 st_X8_isLine rfl (Nat.le_of_ble_eq_true rfl) (Nat.le_of_eq (Nat.zero_add _)) (Nat.le_of_eq (Nat.zero_add _)) dX8_faultOfUnsign_1 rfl rfl (s_X8_isLine ?_)
  refine r_if_ne (t := 9) (q := 7) dX8_faultOfUnsign_4 rfl rfl (fun c4 => ?_) (fun c4 => ?_)
  · obtain ⟨j, hj, rfl⟩ := isL_t (bI_ne c4)
    have e4 : ¬ isL (nI j) = false := by rw [isL_n hj]; decide
    rw [show fUns S (nI j) = fNS S j from by rw [fUns, if_neg e4, nI_c7 (by omega)]] at hQ
    refine r_aload_n (q := 10) dX8_faultOfUnsign_9 rfl rfl ?_
    refine r_iload_n (q := 11) dX8_faultOfUnsign_10 rfl rfl ?_
    refine r_cV (q := 14) (As := [.int _]) wc_X8_387 rfl im_X8_faultOfNoSign se_X8_faultOfNoSign h.x rfl rfl (Nat.le_of_ble_eq_true rfl) (Nat.le_of_eq (Nat.zero_add _)) (Nat.le_of_eq (Nat.zero_add _)) dX8_faultOfUnsign_11 rfl rfl (s_X8_faultOfNoSign h hj fun M_11 h_11 => ?_)
    refine r_iret dX8_faultOfUnsign_14 ?_
    exact hQ _ h_11
  · rw [show fUns S l = (1, none) from if_pos (bI_eq0.mp c4)] at hQ
    refine r_iconst (v := nI 1) (q := 8) dX8_faultOfUnsign_7 (by decide) rfl ?_
    refine r_iret dX8_faultOfUnsign_8 ?_
    exact hQ _ h
theorem s_X8_faultOfWhistle (h : RX G Λ ρ (sS σ 0 S) M) (hs : Sm S) (hw : ∀ x ∈ S.1 0, x < 448) {l : Int32} (hQ : ∀ M', RX G Λ ρ (sS (fR σ (fWhi S l).2) 0 S) M' → Q (some (.int (nI (fWhi S l).1))) M')  : MS G yX8_faultOfWhistle cX8_faultOfWhistle 2 (some .int) (d + 5) 0 0 [.ref (Λ (0, 0, 0)), .int l] M Q QX := by
  refine MS.of (by decide) (by simp [Value.category]) (Nat.le_of_ble_eq_true rfl) ?_
  show AW _ (_, _, _, _, _, _, _, _, _) _ _ _ _ [some _, some _] _ _
  refine r_iload_n (q := 1) dX8_faultOfWhistle_0 rfl rfl ?_
  refine r_cS (q := 4) (As := [.int _]) wc_X8_119 st_X8_isLine rfl (Nat.le_of_ble_eq_true rfl) (Nat.le_of_eq (Nat.zero_add _)) (Nat.le_of_eq (Nat.zero_add _)) dX8_faultOfWhistle_1 rfl rfl (s_X8_isLine ?_)
  refine r_if_ne (t := 9) (q := 7) dX8_faultOfWhistle_4 rfl rfl (fun c4 => ?_) (fun c4 => ?_)
  · obtain ⟨j, hj, rfl⟩ := isL_t (bI_ne c4)
    have e4 : ¬ isL (nI j) = false := by rw [isL_n hj]; decide
    rw [show fWhi S (nI j) = fBl S j j from by rw [fWhi, if_neg e4, nI_c7 (by omega)]] at hQ
    refine r_aload_n (q := 10) dX8_faultOfWhistle_9 rfl rfl ?_
    refine r_iload_n (q := 11) dX8_faultOfWhistle_10 rfl rfl ?_
    refine r_iload_n (q := 12) dX8_faultOfWhistle_11 rfl rfl ?_
    refine r_cV (q := 15) (As := [.int _, .int _]) wc_X8_390 rfl im_X8_faultOfBlow se_X8_faultOfBlow h.x rfl rfl (Nat.le_of_ble_eq_true rfl) (Nat.le_of_eq (Nat.zero_add _)) (Nat.le_of_eq (Nat.zero_add _)) dX8_faultOfWhistle_12 rfl rfl (s_X8_faultOfBlow h hs hw hj hj fun M_12 h_12 => ?_)
    refine r_iret dX8_faultOfWhistle_15 ?_
    exact hQ _ h_12
  · rw [show fWhi S l = (1, none) from if_pos (bI_eq0.mp c4)] at hQ
    refine r_iconst (v := nI 1) (q := 8) dX8_faultOfWhistle_7 (by decide) rfl ?_
    refine r_iret dX8_faultOfWhistle_8 ?_
    exact hQ _ h
theorem s_X8_faultOfMute (h : RX G Λ ρ (sS σ 0 S) M) {l m : Int32} (hQ : ∀ M', RX G Λ ρ (sS (fR σ (fMu S l m).2) 0 S) M' → Q (some (.int (nI (fMu S l m).1))) M')  : MS G yX8_faultOfMute cX8_faultOfMute 3 (some .int) (d + 2) 0 0 [.ref (Λ (0, 0, 0)), .int l, .int m] M Q QX := by
  refine MS.of (by decide) (by simp [Value.category]) (Nat.le_of_ble_eq_true rfl) ?_
  show AW _ (_, _, _, _, _, _, _, _, _) _ _ _ _ [some _, some _, some _] _ _
  refine r_iload_n (q := 1) dX8_faultOfMute_0 rfl rfl ?_
  refine r_cS (q := 4) (As := [.int _]) wc_X8_119 st_X8_isLine rfl (Nat.le_of_ble_eq_true rfl) (Nat.le_of_eq (Nat.zero_add _)) (Nat.le_of_eq (Nat.zero_add _)) dX8_faultOfMute_1 rfl rfl (s_X8_isLine ?_)
  refine r_if_ne (t := 9) (q := 7) dX8_faultOfMute_4 rfl rfl (fun c4 => ?_) (fun c4 => ?_)
  · obtain ⟨j, hj, rfl⟩ := isL_t (bI_ne c4)
    have e4 : ¬ isL (nI j) = false := by rw [isL_n hj]; decide
    refine r_iload_n (q := 10) dX8_faultOfMute_9 rfl rfl ?_
    refine r_iconst (v := nI 1) (q := 11) dX8_faultOfMute_10 (by decide) rfl ?_
    refine r_icmp_lt (t := 20) (q := 14) dX8_faultOfMute_11 rfl rfl (fun c11 => ?_) (fun c11 => ?_)
    · rw [show fMu S (nI j) m = (2, none) from by rw [fMu, if_neg e4, if_pos c11]] at hQ
      refine r_iconst (v := nI 2) (q := 21) dX8_faultOfMute_20 (by decide) rfl ?_
      refine r_iret dX8_faultOfMute_21 ?_
      exact hQ _ h
    · refine r_iload_n (q := 15) dX8_faultOfMute_14 rfl rfl ?_
      refine r_bipush (v := nI 9) (q := 17) dX8_faultOfMute_15 (by decide) rfl ?_
      refine r_icmp_le (t := 22) (q := 20) dX8_faultOfMute_17 rfl rfl (fun c17 => ?_) (fun c17 => ?_)
      · rw [show fMu S (nI j) m = fMt S j from by rw [fMu, if_neg e4, if_neg c11, if_neg (Int32.not_lt.mpr c17), nI_c7 (by omega)]] at hQ
        refine r_aload_n (q := 23) dX8_faultOfMute_22 rfl rfl ?_
        refine r_iload_n (q := 24) dX8_faultOfMute_23 rfl rfl ?_
        refine r_cV (q := 27) (As := [.int _]) wc_X8_393 rfl im_X8_faultOfMuted se_X8_faultOfMuted h.x rfl rfl (Nat.le_of_ble_eq_true rfl) (Nat.le_of_eq (Nat.zero_add _)) (Nat.le_of_eq (Nat.zero_add _)) dX8_faultOfMute_24 rfl rfl (s_X8_faultOfMuted h hj fun M_24 h_24 => ?_)
        refine r_iret dX8_faultOfMute_27 ?_
        exact hQ _ h_24
      · rw [show fMu S (nI j) m = (2, none) from by rw [fMu, if_neg e4, if_neg c11, if_pos (Int32.not_le.mp c17)]] at hQ
        refine r_iconst (v := nI 2) (q := 21) dX8_faultOfMute_20 (by decide) rfl ?_
        refine r_iret dX8_faultOfMute_21 ?_
        exact hQ _ h
  · rw [show fMu S l m = (1, none) from if_pos (bI_eq0.mp c4)] at hQ
    refine r_iconst (v := nI 1) (q := 8) dX8_faultOfMute_7 (by decide) rfl ?_
    refine r_iret dX8_faultOfMute_8 ?_
    exact hQ _ h
theorem s_X8_faultOfPriority (h : RX G Λ ρ (sS σ 0 S) M) {l p : Int32} (hQ : ∀ M', RX G Λ ρ (sS (fR σ (fPri S l p).2) 0 S) M' → Q (some (.int (nI (fPri S l p).1))) M')  : MS G yX8_faultOfPriority cX8_faultOfPriority 3 (some .int) (d + 1) 0 0 [.ref (Λ (0, 0, 0)), .int l, .int p] M Q QX := by
  refine MS.of (by decide) (by simp [Value.category]) (Nat.le_of_ble_eq_true rfl) ?_
  show AW _ (_, _, _, _, _, _, _, _, _) _ _ _ _ [some _, some _, some _] _ _
  refine r_iload_n (q := 1) dX8_faultOfPriority_0 rfl rfl ?_
  refine r_cS (q := 4) (As := [.int _]) wc_X8_119 st_X8_isLine rfl (Nat.le_of_ble_eq_true rfl) (Nat.le_of_eq (Nat.zero_add _)) (Nat.le_of_eq (Nat.zero_add _)) dX8_faultOfPriority_1 rfl rfl (s_X8_isLine ?_)
  refine r_if_ne (t := 9) (q := 7) dX8_faultOfPriority_4 rfl rfl (fun c4 => ?_) (fun c4 => ?_)
  · obtain ⟨j, hj, rfl⟩ := isL_t (bI_ne c4)
    have e4 : ¬ isL (nI j) = false := by rw [isL_n hj]; decide
    refine r_iload_n (q := 10) dX8_faultOfPriority_9 rfl rfl ?_
    refine r_if_lt (t := 19) (q := 13) dX8_faultOfPriority_10 rfl rfl (fun c10 => ?_) (fun c10 => ?_)
    · rw [show fPri S (nI j) p = (2, none) from by rw [fPri, if_neg e4, if_pos c10]] at hQ
      refine r_iconst (v := nI 2) (q := 20) dX8_faultOfPriority_19 (by decide) rfl ?_
      refine r_iret dX8_faultOfPriority_20 ?_
      exact hQ _ h
    · refine r_iload_n (q := 14) dX8_faultOfPriority_13 rfl rfl ?_
      refine r_bipush (v := nI 9) (q := 16) dX8_faultOfPriority_14 (by decide) rfl ?_
      refine r_icmp_le (t := 21) (q := 19) dX8_faultOfPriority_16 rfl rfl (fun c16 => ?_) (fun c16 => ?_)
      · obtain ⟨i, hi, rfl⟩ := nI_nat c10
        have hx := t_lt h (by decide : wR 0 1 = true) j
        refine r_aload_n (q := 22) dX8_faultOfPriority_21 rfl rfl ?_
        refine r_get (q := 25) (kk := 0) h.x rfl wi_RX8 (by decide) rfl fk_X8_12 rfl dX8_faultOfPriority_22 rfl ?_
        refine r_get (q := 28) (kk := 1) (h.st (by decide)) rfl wi_RX5 (by decide) rfl fk_X8_248 rfl dX8_faultOfPriority_25 rfl ?_
        refine r_iload_n (q := 29) dX8_faultOfPriority_28 rfl rfl ?_
        refine r_cV (q := 32) (As := [.int _]) wc_X8_215 rfl im_X2_at se_X2_at (h.row (by decide)) rfl rfl (Nat.le_of_ble_eq_true rfl) (Nat.le_of_eq (Nat.zero_add _)) (Nat.le_of_eq (Nat.zero_add _)) dX8_faultOfPriority_29 rfl rfl (t_atN h (by decide) (by omega) ?_)
        refine r_iload_n (q := 33) dX8_faultOfPriority_32 rfl rfl ?_
        refine r_icmp_ne (t := 45) (q := 36) dX8_faultOfPriority_33 rfl rfl (fun c33 => ?_) (fun c33 => ?_)
        · simp (disch := omega) only [nI_leI, nI_ltI, nI_eq, nI_lt0, nI_ge0, nI_gt0, nI_le0, nI_eq0] at c33
          rw [show fPri S (nI j) (nI i) = no from by rw [fPri, if_neg e4, if_neg c10, if_neg (Int32.not_lt.mpr c16), nI_c7 (by omega), nI_c7 hi, if_neg c33]] at hQ
          refine r_iconst (v := nI 0) (q := 46) dX8_faultOfPriority_45 (by decide) rfl ?_
          refine r_iret dX8_faultOfPriority_46 ?_
          exact hQ _ h
        · simp (disch := omega) only [nI_leI, nI_ltI, nI_eq, nI_lt0, nI_ge0, nI_gt0, nI_le0, nI_eq0] at c33
          rw [show fPri S (nI j) (nI i) = bad (nI 3) (nI i) from by rw [fPri, if_neg e4, if_neg c10, if_neg (Int32.not_lt.mpr c16), nI_c7 (by omega), nI_c7 hi, if_pos c33]] at hQ
          refine r_aload_n (q := 37) dX8_faultOfPriority_36 rfl rfl ?_
          refine r_iconst (v := nI 3) (q := 38) dX8_faultOfPriority_37 (by decide) rfl ?_
          refine r_iload_n (q := 39) dX8_faultOfPriority_38 rfl rfl ?_
          refine r_cV (q := 42) (As := [.int _, .int _]) wc_X8_384 rfl im_X8_refuse se_X8_refuse h.x rfl rfl (Nat.le_of_ble_eq_true rfl) (Nat.le_of_eq (Nat.zero_add _)) (Nat.le_of_eq (Nat.zero_add _)) dX8_faultOfPriority_39 rfl rfl (s_X8_refuse h fun M_39 h_39 => ?_)
          refine r_goto (t := 46) dX8_faultOfPriority_42 rfl ?_
          refine r_iret dX8_faultOfPriority_46 ?_
          exact hQ _ h_39
      · rw [show fPri S (nI j) p = (2, none) from by rw [fPri, if_neg e4, if_neg c10, if_pos (Int32.not_le.mp c16)]] at hQ
        refine r_iconst (v := nI 2) (q := 20) dX8_faultOfPriority_19 (by decide) rfl ?_
        refine r_iret dX8_faultOfPriority_20 ?_
        exact hQ _ h
  · rw [show fPri S l p = (1, none) from if_pos (bI_eq0.mp c4)] at hQ
    refine r_iconst (v := nI 1) (q := 8) dX8_faultOfPriority_7 (by decide) rfl ?_
    refine r_iret dX8_faultOfPriority_8 ?_
    exact hQ _ h
theorem s_X8_faultOfPlatform (h : RX G Λ ρ σ M) {p dl m : Int32} (hQ : Q (some (.int (nI (fPla p dl m).1))) M)  : MS G yX8_faultOfPlatform cX8_faultOfPlatform 4 (some .int) (d + 1) 0 0 [.ref (Λ (0, 0, 0)), .int p, .int dl, .int m] M Q QX := by
  refine MS.of (by decide) (by simp [Value.category]) (Nat.le_of_ble_eq_true rfl) ?_
  show AW _ (_, _, _, _, _, _, _, _, _) _ _ _ _ [some _, some _, some _, some _] _ _
  refine r_iload_n (q := 1) dX8_faultOfPlatform_0 rfl rfl ?_
  refine r_cS (q := 4) (As := [.int _]) wc_X8_138 st_X8_isPlatform rfl (Nat.le_of_ble_eq_true rfl) (Nat.le_of_eq (Nat.zero_add _)) (Nat.le_of_eq (Nat.zero_add _)) dX8_faultOfPlatform_1 rfl rfl (s_X8_isPlatform ?_)
  refine r_if_ne (t := 9) (q := 7) dX8_faultOfPlatform_4 rfl rfl (fun c4 => ?_) (fun c4 => ?_)
  · have e4 : ¬ isP p = false := by rw [bI_ne c4]; decide
    refine r_iload_n (q := 10) dX8_faultOfPlatform_9 rfl rfl ?_
    refine r_if_lt (t := 28) (q := 13) dX8_faultOfPlatform_10 rfl rfl (fun c10 => ?_) (fun c10 => ?_)
    · rw [show fPla p dl m = (2, none) from by rw [fPla, if_neg e4, if_pos c10]] at hQ
      refine r_iconst (v := nI 2) (q := 29) dX8_faultOfPlatform_28 (by decide) rfl ?_
      refine r_iret dX8_faultOfPlatform_29 ?_
      exact hQ
    · refine r_iload_n (q := 14) dX8_faultOfPlatform_13 rfl rfl ?_
      refine r_iconst (v := nI 5) (q := 15) dX8_faultOfPlatform_14 (by decide) rfl ?_
      refine r_icmp_gt (t := 28) (q := 18) dX8_faultOfPlatform_15 rfl rfl (fun c15 => ?_) (fun c15 => ?_)
      · rw [show fPla p dl m = (2, none) from by rw [fPla, if_neg e4, if_neg c10, if_pos c15]] at hQ
        refine r_iconst (v := nI 2) (q := 29) dX8_faultOfPlatform_28 (by decide) rfl ?_
        refine r_iret dX8_faultOfPlatform_29 ?_
        exact hQ
      · refine r_iload_n (q := 19) dX8_faultOfPlatform_18 rfl rfl ?_
        refine r_if_lt (t := 28) (q := 22) dX8_faultOfPlatform_19 rfl rfl (fun c19 => ?_) (fun c19 => ?_)
        · rw [show fPla p dl m = (2, none) from by rw [fPla, if_neg e4, if_neg c10, if_neg c15, if_pos c19]] at hQ
          refine r_iconst (v := nI 2) (q := 29) dX8_faultOfPlatform_28 (by decide) rfl ?_
          refine r_iret dX8_faultOfPlatform_29 ?_
          exact hQ
        · refine r_iload_n (q := 23) dX8_faultOfPlatform_22 rfl rfl ?_
          refine r_bipush (v := nI 127) (q := 25) dX8_faultOfPlatform_23 (by decide) rfl ?_
          refine r_icmp_le (t := 30) (q := 28) dX8_faultOfPlatform_25 rfl rfl (fun c25 => ?_) (fun c25 => ?_)
          · rw [show fPla p dl m = no from by rw [fPla, if_neg e4, if_neg c10, if_neg c15, if_neg c19, if_neg (Int32.not_lt.mpr c25)]] at hQ
            refine r_iconst (v := nI 0) (q := 31) dX8_faultOfPlatform_30 (by decide) rfl ?_
            refine r_iret dX8_faultOfPlatform_31 ?_
            exact hQ
          · rw [show fPla p dl m = (2, none) from by rw [fPla, if_neg e4, if_neg c10, if_neg c15, if_neg c19, if_pos (Int32.not_le.mp c25)]] at hQ
            refine r_iconst (v := nI 2) (q := 29) dX8_faultOfPlatform_28 (by decide) rfl ?_
            refine r_iret dX8_faultOfPlatform_29 ?_
            exact hQ
  · rw [show fPla p dl m = (1, none) from if_pos (bI_eq0.mp c4)] at hQ
    refine r_iconst (v := nI 1) (q := 8) dX8_faultOfPlatform_7 (by decide) rfl ?_
    refine r_iret dX8_faultOfPlatform_8 ?_
    exact hQ
theorem s_X8_faultOfLie (h : RX G Λ ρ (sS σ 0 S) M) (hs : Sm S) (hw : ∀ x ∈ S.1 0, x < 448) {l t : Int32} (hQ : ∀ M', RX G Λ ρ (sS (fR σ (fLi S l t).2) 0 S) M' → Q (some (.int (nI (fLi S l t).1))) M')  : MS G yX8_faultOfLie cX8_faultOfLie 3 (some .int) (d + 5) 0 0 [.ref (Λ (0, 0, 0)), .int l, .int t] M Q QX := by
  refine MS.of (by decide) (by simp [Value.category]) (Nat.le_of_ble_eq_true rfl) ?_
  show AW _ (_, _, _, _, _, _, _, _, _) _ _ _ _ [some _, some _, some _] _ _
  refine r_iload_n (q := 1) dX8_faultOfLie_0 rfl rfl ?_
  refine r_cS (q := 4) (As := [.int _]) wc_X8_119 st_X8_isLine rfl (Nat.le_of_ble_eq_true rfl) (Nat.le_of_eq (Nat.zero_add _)) (Nat.le_of_eq (Nat.zero_add _)) dX8_faultOfLie_1 rfl rfl (s_X8_isLine ?_)
  refine r_if_eq (t := 14) (q := 7) dX8_faultOfLie_4 rfl rfl (fun c4 => ?_) (fun c4 => ?_)
  · rw [show fLi S l t = (1, none) from if_pos (bI_eq0.mp c4)] at hQ
    refine r_iconst (v := nI 1) (q := 15) dX8_faultOfLie_14 (by decide) rfl ?_
    refine r_iret dX8_faultOfLie_15 ?_
    exact hQ _ h
  · obtain ⟨j, hj, rfl⟩ := isL_t (bI_ne c4)
    have e4 : ¬ isL (nI j) = false := by rw [isL_n hj]; decide
    refine r_iload_n (q := 8) dX8_faultOfLie_7 rfl rfl ?_
    refine r_cS (q := 11) (As := [.int _]) wc_X8_119 st_X8_isLine rfl (Nat.le_of_ble_eq_true rfl) (Nat.le_of_eq (Nat.zero_add _)) (Nat.le_of_eq (Nat.zero_add _)) dX8_faultOfLie_8 rfl rfl (s_X8_isLine ?_)
    refine r_if_ne (t := 16) (q := 14) dX8_faultOfLie_11 rfl rfl (fun c11 => ?_) (fun c11 => ?_)
    · obtain ⟨i, hi, rfl⟩ := isL_t (bI_ne c11)
      have e11 : ¬ isL (nI i) = false := by rw [isL_n hi]; decide
      refine r_iload_n (q := 17) dX8_faultOfLie_16 rfl rfl ?_
      refine r_iload_n (q := 18) dX8_faultOfLie_17 rfl rfl ?_
      refine r_icmp_ne (t := 23) (q := 21) dX8_faultOfLie_18 rfl rfl (fun c18 => ?_) (fun c18 => ?_)
      · rw [show fLi S (nI j) (nI i) = fBl S j i from by rw [fLi, if_neg e4, if_neg e11, if_neg c18, nI_c7 (by omega), nI_c7 (by omega)]] at hQ
        refine r_aload_n (q := 24) dX8_faultOfLie_23 rfl rfl ?_
        refine r_iload_n (q := 25) dX8_faultOfLie_24 rfl rfl ?_
        refine r_iload_n (q := 26) dX8_faultOfLie_25 rfl rfl ?_
        refine r_cV (q := 29) (As := [.int _, .int _]) wc_X8_390 rfl im_X8_faultOfBlow se_X8_faultOfBlow h.x rfl rfl (Nat.le_of_ble_eq_true rfl) (Nat.le_of_eq (Nat.zero_add _)) (Nat.le_of_eq (Nat.zero_add _)) dX8_faultOfLie_26 rfl rfl (s_X8_faultOfBlow h hs hw hj hi fun M_26 h_26 => ?_)
        refine r_iret dX8_faultOfLie_29 ?_
        exact hQ _ h_26
      · rw [show fLi S (nI j) (nI i) = (2, none) from by rw [fLi, if_neg e4, if_neg e11, if_pos c18]] at hQ
        refine r_iconst (v := nI 2) (q := 22) dX8_faultOfLie_21 (by decide) rfl ?_
        refine r_iret dX8_faultOfLie_22 ?_
        exact hQ _ h
    · rw [show fLi S (nI j) t = (1, none) from by rw [fLi, if_neg e4, if_pos (bI_eq0.mp c11)]] at hQ
      refine r_iconst (v := nI 1) (q := 15) dX8_faultOfLie_14 (by decide) rfl ?_
      refine r_iret dX8_faultOfLie_15 ?_
      exact hQ _ h
theorem s_X8_faultOfExpose (h : RX G Λ ρ (sS σ 0 S) M) {l : Int32} (hQ : ∀ M', RX G Λ ρ (sS (fR σ (fXp S l).2) 0 S) M' → Q (some (.int (nI (fXp S l).1))) M')  : MS G yX8_faultOfExpose cX8_faultOfExpose 2 (some .int) (d + 3) 0 0 [.ref (Λ (0, 0, 0)), .int l] M Q QX := by
  refine MS.of (by decide) (by simp [Value.category]) (Nat.le_of_ble_eq_true rfl) ?_
  show AW _ (_, _, _, _, _, _, _, _, _) _ _ _ _ [some _, some _] _ _
  refine r_iload_n (q := 1) dX8_faultOfExpose_0 rfl rfl ?_
  refine r_cS (q := 4) (As := [.int _]) wc_X8_119 st_X8_isLine rfl (Nat.le_of_ble_eq_true rfl) (Nat.le_of_eq (Nat.zero_add _)) (Nat.le_of_eq (Nat.zero_add _)) dX8_faultOfExpose_1 rfl rfl (s_X8_isLine ?_)
  refine r_if_ne (t := 9) (q := 7) dX8_faultOfExpose_4 rfl rfl (fun c4 => ?_) (fun c4 => ?_)
  · obtain ⟨j, hj, rfl⟩ := isL_t (bI_ne c4)
    have e4 : ¬ isL (nI j) = false := by rw [isL_n hj]; decide
    refine r_aload_n (q := 10) dX8_faultOfExpose_9 rfl rfl ?_
    refine r_get (q := 13) (kk := 0) h.x rfl wi_RX8 (by decide) rfl fk_X8_12 rfl dX8_faultOfExpose_10 rfl ?_
    refine r_iload_n (q := 14) dX8_faultOfExpose_13 rfl rfl ?_
    refine r_cV (q := 17) (As := [.int _]) wc_X8_405 rfl im_X5_indexOfLie se_X5_indexOfLie (h.st (by decide)) rfl rfl (Nat.le_of_ble_eq_true rfl) (Nat.le_of_eq (Nat.zero_add _)) (Nat.le_of_eq (Nat.zero_add _)) dX8_faultOfExpose_14 rfl rfl (s_X5_indexOfLie h (by decide) hj ?_)
    refine r_if_ge (t := 36) (q := 20) dX8_faultOfExpose_17 rfl rfl (fun c17 => ?_) (fun c17 => ?_)
    · have e17 : ¬ gLie (S.1 11) j = none := fun e => by rw [e] at c17; exact absurd c17 (by decide)
      rw [show fXp S (nI j) = no from by rw [fXp, if_neg e4, nI_c7 (by omega), if_neg e17]] at hQ
      refine r_iconst (v := nI 0) (q := 37) dX8_faultOfExpose_36 (by decide) rfl ?_
      refine r_iret dX8_faultOfExpose_37 ?_
      exact hQ _ h
    · have hlen := h.lenS (by decide : wR 0 11 = true)
      have e17 := (oI_neg (fun i h => by have := gWh_lt (gLie_wh h).1; omega)).mp (Int32.not_le.mp c17)
      rw [show fXp S (nI j) = bad (nI 7) (nI ((S.1 11).countP fun s => !dX s)) from by rw [fXp, if_neg e4, nI_c7 (by omega), if_pos e17]] at hQ
      refine r_aload_n (q := 21) dX8_faultOfExpose_20 rfl rfl ?_
      refine r_bipush (v := nI 7) (q := 23) dX8_faultOfExpose_21 (by decide) rfl ?_
      refine r_aload_n (q := 24) dX8_faultOfExpose_23 rfl rfl ?_
      refine r_get (q := 27) (kk := 0) h.x rfl wi_RX8 (by decide) rfl fk_X8_12 rfl dX8_faultOfExpose_24 rfl ?_
      refine r_cV (q := 30) (As := []) wc_X8_408 rfl im_X5_numberHeard se_X5_numberHeard (h.st (by decide)) rfl rfl (Nat.le_of_ble_eq_true rfl) (Nat.le_of_eq (Nat.zero_add _)) (Nat.le_of_eq (Nat.zero_add _)) dX8_faultOfExpose_27 rfl rfl (s_X5_numberHeard h (by decide) ?_)
      refine r_cV (q := 33) (As := [.int _, .int _]) wc_X8_384 rfl im_X8_refuse se_X8_refuse h.x rfl rfl (Nat.le_of_ble_eq_true rfl) (Nat.le_of_eq (Nat.zero_add _)) (Nat.le_of_eq (Nat.zero_add _)) dX8_faultOfExpose_30 rfl rfl (s_X8_refuse h fun M_30 h_30 => ?_)
      refine r_goto (t := 37) dX8_faultOfExpose_33 rfl ?_
      refine r_iret dX8_faultOfExpose_37 ?_
      exact hQ _ h_30
  · rw [show fXp S l = (1, none) from if_pos (bI_eq0.mp c4)] at hQ
    refine r_iconst (v := nI 1) (q := 8) dX8_faultOfExpose_7 (by decide) rfl ?_
    refine r_iret dX8_faultOfExpose_8 ?_
    exact hQ _ h
theorem s_X8_faultOfFine (h : RX G Λ ρ (sS σ 0 S) M) (hs : Sm S) (hm : ∀ x ∈ S.1 4, x < 2 ^ 29) {l : Int32} (hQ : ∀ M', RX G Λ ρ (sS (fR σ (fFi S l).2) 0 S) M' → Q (some (.int (nI (fFi S l).1))) M')  : MS G yX8_faultOfFine cX8_faultOfFine 3 (some .int) (d + 2) 0 0 [.ref (Λ (0, 0, 0)), .int l] M Q QX := by
  refine MS.of (by decide) (by simp [Value.category]) (Nat.le_of_ble_eq_true rfl) ?_
  show AW _ (_, _, _, _, _, _, _, _, _) _ _ _ _ [some _, some _, _] _ _
  refine r_iload_n (q := 1) dX8_faultOfFine_0 rfl rfl ?_
  refine r_cS (q := 4) (As := [.int _]) wc_X8_119 st_X8_isLine rfl (Nat.le_of_ble_eq_true rfl) (Nat.le_of_eq (Nat.zero_add _)) (Nat.le_of_eq (Nat.zero_add _)) dX8_faultOfFine_1 rfl rfl (s_X8_isLine ?_)
  refine r_if_ne (t := 9) (q := 7) dX8_faultOfFine_4 rfl rfl (fun c4 => ?_) (fun c4 => ?_)
  · obtain ⟨j, hj, rfl⟩ := isL_t (bI_ne c4)
    have e4 : ¬ isL (nI j) = false := by rw [isL_n hj]; decide
    have h3 := hs.lt (by decide : 3 < 13) j
    have h4 := hs.lt (by decide : 4 < 13) j
    have h5 : (S.1 4).getD j 0 < 2 ^ 29 := getD_all (by decide) hm j
    refine r_aload_n (q := 10) dX8_faultOfFine_9 rfl rfl ?_
    refine r_get (q := 13) (kk := 0) h.x rfl wi_RX8 (by decide) rfl fk_X8_12 rfl dX8_faultOfFine_10 rfl ?_
    refine r_get (q := 16) (kk := 4) (h.st (by decide)) rfl wi_RX5 (by decide) rfl fk_X8_411 rfl dX8_faultOfFine_13 rfl ?_
    refine r_iload_n (q := 17) dX8_faultOfFine_16 rfl rfl ?_
    refine r_cV (q := 20) (As := [.int _]) wc_X8_215 rfl im_X2_at se_X2_at (h.row (by decide)) rfl rfl (Nat.le_of_ble_eq_true rfl) (Nat.le_of_eq (Nat.zero_add _)) (Nat.le_of_eq (Nat.zero_add _)) dX8_faultOfFine_17 rfl rfl (t_atN h (by decide) (by omega) ?_)
    refine r_if_ne (t := 41) (q := 23) dX8_faultOfFine_20 rfl rfl (fun c20 => ?_) (fun c20 => ?_)
    · simp (disch := omega) only [nI_leI, nI_ltI, nI_eq, nI_lt0, nI_ge0, nI_gt0, nI_le0, nI_eq0] at c20
      refine r_aload_n (q := 42) dX8_faultOfFine_41 rfl rfl ?_
      refine r_get (q := 45) (kk := 0) h.x rfl wi_RX8 (by decide) rfl fk_X8_12 rfl dX8_faultOfFine_42 rfl ?_
      refine r_iload_n (q := 46) dX8_faultOfFine_45 rfl rfl ?_
      refine r_cV (q := 49) (As := [.int _]) wc_X8_417 rfl im_X5_fineOf se_X5_fineOf (h.st (by decide)) rfl rfl (Nat.le_of_ble_eq_true rfl) (Nat.le_of_eq (Nat.zero_add _)) (Nat.le_of_eq (Nat.zero_add _)) dX8_faultOfFine_46 rfl rfl (s_X5_fineOf h (by decide) hj ?_)
      refine r_aload_n (q := 50) dX8_faultOfFine_49 rfl rfl ?_
      refine r_get (q := 53) (kk := 0) h.x rfl wi_RX8 (by decide) rfl fk_X8_12 rfl dX8_faultOfFine_50 rfl ?_
      refine r_get (q := 56) (kk := 3) (h.st (by decide)) rfl wi_RX5 (by decide) rfl fk_X8_414 rfl dX8_faultOfFine_53 rfl ?_
      refine r_iload_n (q := 57) dX8_faultOfFine_56 rfl rfl ?_
      refine r_cV (q := 60) (As := [.int _]) wc_X8_215 rfl im_X2_at se_X2_at (h.row (by decide)) rfl rfl (Nat.le_of_ble_eq_true rfl) (Nat.le_of_eq (Nat.zero_add _)) (Nat.le_of_eq (Nat.zero_add _)) dX8_faultOfFine_57 rfl rfl (t_atN h (by decide) (by omega) ?_)
      refine r_isub (q := 61) dX8_faultOfFine_60 rfl ?_
      refine r_istore_n (q := 62) dX8_faultOfFine_61 (Nat.le_of_ble_eq_true rfl) rfl rfl ?_
      show AW _ (_, _, _, _, _, _, _, _, _) _ _ _ _ [some _, some _, some _] _ _
      refine r_iload_n (q := 63) dX8_faultOfFine_62 rfl rfl ?_
      refine r_if_le (t := 76) (q := 66) dX8_faultOfFine_63 rfl rfl (fun c63 => ?_) (fun c63 => ?_)
      · rw [sub_le0 (by omega) (by omega)] at c63
        rw [show fFi S (nI j) = no from by rw [fFi, if_neg e4, nI_c7 (by omega), if_neg c20, if_neg (by omega)]] at hQ
        refine r_iconst (v := nI 0) (q := 77) dX8_faultOfFine_76 (by decide) rfl ?_
        refine r_iret dX8_faultOfFine_77 ?_
        exact hQ _ h
      · rw [sub_le0 (by omega) (by omega)] at c63
        rw [show fFi S (nI j) = bad (nI 9) (nI (2 * (S.1 4).getD j 0 - (S.1 3).getD j 0)) from by rw [fFi, if_neg e4, nI_c7 (by omega), if_neg c20, if_pos (by omega)]] at hQ
        rw [n_sub (by omega)]
        refine r_aload_n (q := 67) dX8_faultOfFine_66 rfl rfl ?_
        refine r_bipush (v := nI 9) (q := 69) dX8_faultOfFine_67 (by decide) rfl ?_
        refine r_iload_n (q := 70) dX8_faultOfFine_69 rfl rfl ?_
        refine r_cV (q := 73) (As := [.int _, .int _]) wc_X8_384 rfl im_X8_refuse se_X8_refuse h.x rfl rfl (Nat.le_of_ble_eq_true rfl) (Nat.le_of_eq (Nat.zero_add _)) (Nat.le_of_eq (Nat.zero_add _)) dX8_faultOfFine_70 rfl rfl (s_X8_refuse h fun M_70 h_70 => ?_)
        refine r_goto (t := 77) dX8_faultOfFine_73 rfl ?_
        refine r_iret dX8_faultOfFine_77 ?_
        exact hQ _ h_70
    · simp (disch := omega) only [nI_leI, nI_ltI, nI_eq, nI_lt0, nI_ge0, nI_gt0, nI_le0, nI_eq0] at c20
      rw [show fFi S (nI j) = bad (nI 8) (nI ((S.1 3).getD j 0)) from by rw [fFi, if_neg e4, nI_c7 (by omega), if_pos c20]] at hQ
      refine r_aload_n (q := 24) dX8_faultOfFine_23 rfl rfl ?_
      refine r_bipush (v := nI 8) (q := 26) dX8_faultOfFine_24 (by decide) rfl ?_
      refine r_aload_n (q := 27) dX8_faultOfFine_26 rfl rfl ?_
      refine r_get (q := 30) (kk := 0) h.x rfl wi_RX8 (by decide) rfl fk_X8_12 rfl dX8_faultOfFine_27 rfl ?_
      refine r_get (q := 33) (kk := 3) (h.st (by decide)) rfl wi_RX5 (by decide) rfl fk_X8_414 rfl dX8_faultOfFine_30 rfl ?_
      refine r_iload_n (q := 34) dX8_faultOfFine_33 rfl rfl ?_
      refine r_cV (q := 37) (As := [.int _]) wc_X8_215 rfl im_X2_at se_X2_at (h.row (by decide)) rfl rfl (Nat.le_of_ble_eq_true rfl) (Nat.le_of_eq (Nat.zero_add _)) (Nat.le_of_eq (Nat.zero_add _)) dX8_faultOfFine_34 rfl rfl (t_atN h (by decide) (by omega) ?_)
      refine r_cV (q := 40) (As := [.int _, .int _]) wc_X8_384 rfl im_X8_refuse se_X8_refuse h.x rfl rfl (Nat.le_of_ble_eq_true rfl) (Nat.le_of_eq (Nat.zero_add _)) (Nat.le_of_eq (Nat.zero_add _)) dX8_faultOfFine_37 rfl rfl (s_X8_refuse h fun M_37 h_37 => ?_)
      refine r_iret dX8_faultOfFine_40 ?_
      exact hQ _ h_37
  · rw [show fFi S l = (1, none) from if_pos (bI_eq0.mp c4)] at hQ
    refine r_iconst (v := nI 1) (q := 8) dX8_faultOfFine_7 (by decide) rfl ?_
    refine r_iret dX8_faultOfFine_8 ?_
    exact hQ _ h
theorem s_X8_faultOfSign (h : RX G Λ ρ (sS σ 0 S) M) {l n b : Int32} (hQ : ∀ M', RX G Λ ρ (sS (fR σ (fSign S l n b).2) 0 S) M' → Q (some (.int (nI (fSign S l n b).1))) M')  : MS G yX8_faultOfSign cX8_faultOfSign 5 (some .int) (d + 2) 0 0 [.ref (Λ (0, 0, 0)), .int l, .int n, .int b] M Q QX := by
  refine MS.of (by decide) (by simp [Value.category]) (Nat.le_of_ble_eq_true rfl) ?_
  show AW _ (_, _, _, _, _, _, _, _, _) _ _ _ _ [some _, some _, some _, some _, _] _ _
  refine r_iload_n (q := 1) dX8_faultOfSign_0 rfl rfl ?_
  refine r_cS (q := 4) (As := [.int _]) wc_X8_119 st_X8_isLine rfl (Nat.le_of_ble_eq_true rfl) (Nat.le_of_eq (Nat.zero_add _)) (Nat.le_of_eq (Nat.zero_add _)) dX8_faultOfSign_1 rfl rfl (s_X8_isLine ?_)
  refine r_if_ne (t := 9) (q := 7) dX8_faultOfSign_4 rfl rfl (fun c4 => ?_) (fun c4 => ?_)
  · obtain ⟨j, hj, rfl⟩ := isL_t (bI_ne c4)
    have e4 : ¬ isL (nI j) = false := by rw [isL_n hj]; decide
    refine r_iload_n (q := 10) dX8_faultOfSign_9 rfl rfl ?_
    refine r_cS (q := 13) (As := [.int _]) wc_X8_156 st_X8_isLength rfl (Nat.le_of_ble_eq_true rfl) (Nat.le_of_eq (Nat.zero_add _)) (Nat.le_of_eq (Nat.zero_add _)) dX8_faultOfSign_10 rfl rfl (s_X8_isLength ?_)
    refine r_if_eq (t := 28) (q := 16) dX8_faultOfSign_13 rfl rfl (fun c13 => ?_) (fun c13 => ?_)
    · rw [show fSign S (nI j) n b = (2, none) from by rw [fSign, if_neg e4, if_pos (bI_eq0.mp c13)]] at hQ
      refine r_iconst (v := nI 2) (q := 29) dX8_faultOfSign_28 (by decide) rfl ?_
      refine r_iret dX8_faultOfSign_29 ?_
      exact hQ _ h
    · obtain ⟨m, hm1, hm6, rfl⟩ := isN_t (bI_ne c13)
      have e13 : ¬ isN (nI m) = false := by rw [isN_n hm1 hm6]; decide
      have hp6 : 2 ^ m ≤ 2 ^ 6 := Nat.pow_le_pow_right (by decide) hm6
      refine r_iload_n (q := 17) dX8_faultOfSign_16 rfl rfl ?_
      refine r_if_lt (t := 28) (q := 20) dX8_faultOfSign_17 rfl rfl (fun c17 => ?_) (fun c17 => ?_)
      · rw [show fSign S (nI j) (nI m) b = (2, none) from by rw [fSign, if_neg e4, if_neg e13, if_pos c17]] at hQ
        refine r_iconst (v := nI 2) (q := 29) dX8_faultOfSign_28 (by decide) rfl ?_
        refine r_iret dX8_faultOfSign_29 ?_
        exact hQ _ h
      · obtain ⟨i, hi, rfl⟩ := nI_nat c17
        refine r_iload_n (q := 21) dX8_faultOfSign_20 rfl rfl ?_
        refine r_iload_n (q := 22) dX8_faultOfSign_21 rfl rfl ?_
        refine r_cS (q := 25) (As := [.int _]) wc_X8_378 st_X7_mask rfl (Nat.le_of_ble_eq_true rfl) (Nat.le_of_eq (Nat.zero_add _)) (Nat.le_of_eq (Nat.zero_add _)) dX8_faultOfSign_22 rfl rfl (s_X7_mask (by omega) ?_)
        refine r_icmp_le (t := 30) (q := 28) dX8_faultOfSign_25 rfl rfl (fun c25 => ?_) (fun c25 => ?_)
        · have e25 := Int32.not_lt.mpr c25
          rw [nI_leI (by omega) (by omega)] at c25
          refine r_aload_n (q := 31) dX8_faultOfSign_30 rfl rfl ?_
          refine r_get (q := 34) (kk := 0) h.x rfl wi_RX8 (by decide) rfl fk_X8_12 rfl dX8_faultOfSign_31 rfl ?_
          refine r_get (q := 37) (kk := 0) (h.st (by decide)) rfl wi_RX5 (by decide) rfl fk_X8_67 rfl dX8_faultOfSign_34 rfl ?_
          refine r_iload_n (q := 38) dX8_faultOfSign_37 rfl rfl ?_
          refine r_iload_n (q := 39) dX8_faultOfSign_38 rfl rfl ?_
          refine r_cS (q := 42) (As := [.int _, .int _]) wc_X8_91 st_X7_of rfl (Nat.le_of_ble_eq_true rfl) (Nat.le_of_eq (Nat.zero_add _)) (Nat.le_of_eq (Nat.zero_add _)) dX8_faultOfSign_39 rfl rfl (s_X7_of (by omega) (by omega) ?_)
          refine r_cS (q := 45) (As := [.ref _, .int _]) wc_X8_381 st_X3_owner rfl (Nat.le_of_ble_eq_true rfl) (Nat.le_of_eq (Nat.zero_add _)) (Nat.le_of_eq (Nat.zero_add _)) dX8_faultOfSign_42 rfl rfl (s_X3_owner (h.rwS (by decide)) (by omega) ?_)
          refine r_istore (q := 47) dX8_faultOfSign_45 (Nat.le_of_ble_eq_true rfl) rfl rfl ?_
          show AW _ (_, _, _, _, _, _, _, _, _) _ _ _ _ [some _, some _, some _, some _, some _] _ _
          refine r_iload (q := 49) dX8_faultOfSign_47 rfl rfl ?_
          refine r_if_lt (t := 62) (q := 52) dX8_faultOfSign_49 rfl rfl (fun c49 => ?_) (fun c49 => ?_)
          · have e49 := (oI_neg (fun i h => Nat.lt_trans (gOwner_lt h) (by decide))).mp c49
            rw [show fSign S (nI j) (nI m) (nI i) = no from by rw [fSign, if_neg e4, if_neg e13, if_neg c17, nI_c7 (by omega), nI_c7 (by omega), if_neg e25, e49]] at hQ
            refine r_iconst (v := nI 0) (q := 63) dX8_faultOfSign_62 (by decide) rfl ?_
            refine r_iret dX8_faultOfSign_63 ?_
            exact hQ _ h
          · obtain ⟨o, e49⟩ : ∃ o, gOwner (S.1 0) (m * 64 + i) = some o := by
              cases e : gOwner (S.1 0) (m * 64 + i) with
              | none => rw [e] at c49; exact absurd (by decide : oI none < 0) c49
              | some o => exact ⟨o, rfl⟩
            rw [show fSign S (nI j) (nI m) (nI i) = bad (nI 1) (nI o) from by rw [fSign, if_neg e4, if_neg e13, if_neg c17, nI_c7 (by omega), nI_c7 (by omega), if_neg e25, e49]] at hQ
            rw [e49]
            refine r_aload_n (q := 53) dX8_faultOfSign_52 rfl rfl ?_
            refine r_iconst (v := nI 1) (q := 54) dX8_faultOfSign_53 (by decide) rfl ?_
            refine r_iload (q := 56) dX8_faultOfSign_54 rfl rfl ?_
            refine r_cV (q := 59) (As := [.int _, .int _]) wc_X8_384 rfl im_X8_refuse se_X8_refuse h.x rfl rfl (Nat.le_of_ble_eq_true rfl) (Nat.le_of_eq (Nat.zero_add _)) (Nat.le_of_eq (Nat.zero_add _)) dX8_faultOfSign_56 rfl rfl (s_X8_refuse h fun M_56 h_56 => ?_)
            refine r_goto (t := 63) dX8_faultOfSign_59 rfl ?_
            refine r_iret dX8_faultOfSign_63 ?_
            exact hQ _ h_56
        · rw [show fSign S (nI j) (nI m) (nI i) = (2, none) from by rw [fSign, if_neg e4, if_neg e13, if_neg c17, nI_c7 (by omega), if_pos (Int32.not_le.mp c25)]] at hQ
          refine r_iconst (v := nI 2) (q := 29) dX8_faultOfSign_28 (by decide) rfl ?_
          refine r_iret dX8_faultOfSign_29 ?_
          exact hQ _ h
  · rw [show fSign S l n b = (1, none) from if_pos (bI_eq0.mp c4)] at hQ
    refine r_iconst (v := nI 1) (q := 8) dX8_faultOfSign_7 (by decide) rfl ?_
    refine r_iret dX8_faultOfSign_8 ?_
    exact hQ _ h
end W34
