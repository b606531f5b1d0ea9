/-! THE CLASS ITSELF: an input read -/
section W66
variable {G : En} {Λ : Ob → Nat} {ρ : Me} {σ : Sg} {M : Me} {d : Nat} {Q : Option Value → Me → Prop} {QX : String → Me → Prop} {S : St}
/-- what the class's orders need -/
def OKS (S : St) : Prop := Sm S ∧ (∀ x ∈ S.1 0, x < 448) ∧ (∀ x ∈ S.1 4, x < 2 ^ 29) ∧ (∀ x ∈ S.1 8, x < 8) ∧ ∀ x ∈ S.1 12, 262144 ≤ x ∧ 1 ≤ dE x
def rEx (K A B : List Nat) : Nat → Nat → St → St × Option (Nat × Fl)
  | 0, _, S => (S, none)
  | n + 1, i, S => if (fOrd S (K.getD i 0) (A.getD i 0) (B.getD i 0)).1 = 0 then rEx K A B n (i + 1) (oOrd S (K.getD i 0) (A.getD i 0) (B.getD i 0)) else (S, some (i, fOrd S (K.getD i 0) (A.getD i 0) (B.getD i 0)))
/-- the parse of what was typed in -/
def rdP (σ : Sg) : Bool × St × PI := pPar (gS σ 11) (gM σ 8) (gM σ 9)
/-- the class after the parse -/
def rdS (σ : Sg) : Sg := iS σ (uR (rdP σ).2.1 0 []) (nI (rdP σ).2.2.1) (rdP σ).2.2.2.1 (rdP σ).2.2.2.2
def rdR (σ : Sg) : St × Option (Nat × Fl) := rEx ((rdP σ).2.1.1 1) ((rdP σ).2.1.1 2) ((rdP σ).2.1.1 3) ((rdP σ).2.1.1 1).length 0 (gS σ 0)
def rdN (σ : Sg) : Sg := sS (rdS σ) 1 (gS σ 0)
theorem rdS_r (b : Nat) (hb : b ≠ 0) : gR (rdS σ) 11 b = (rdP σ).2.1.1 b := by
  show gR (sS σ 11 (uR (rdP σ).2.1 0 [])) 11 b = _
  rw [gR_s, uR_1, if_neg hb]
theorem rdS_0 (a : Nat) (ha : a ≠ 11) : gS (rdS σ) a = gS σ a := gS_ne (σ := σ) ha
theorem rdN_r (b : Nat) (hb : b ≠ 0) : gR (rdN σ) 11 b = (rdP σ).2.1.1 b := (gR_n (by decide)).trans (rdS_r b hb)
theorem fR_n {x : Option (Int32 × Int32)} : gS (fR σ x) 1 = gS σ 1 := by
  cases x with
  | none => rfl
  | some y => rfl
def FlOk (f : Fl) : Prop := f.1 ≤ 3 ∧ (f.1 = 0 → f.2 = none)
theorem FlOk_no : FlOk no := ⟨by decide, fun _ => rfl⟩
theorem FlOk_bad (f v : Int32) : FlOk (bad f v) := ⟨Nat.le_refl _, fun e => absurd e (show ¬ (3 : Nat) = 0 by decide)⟩
theorem FlOk_1 : FlOk (1, none) := ⟨by decide, fun _ => rfl⟩
theorem FlOk_2 : FlOk (2, none) := ⟨by decide, fun _ => rfl⟩
theorem FlOk_ite {p : Prop} [Decidable p] {a b : Fl} (ha : FlOk a) (hb : FlOk b) : FlOk (if p then a else b) := by split <;> assumption
theorem FlOk_bl (S : St) (l t : Nat) : FlOk (fBl S l t) := by
  unfold fBl
  repeat' apply FlOk_ite
  all_goals first | exact FlOk_no | exact FlOk_bad _ _
theorem FlOk_ord (S : St) (k l s : Nat) : FlOk (fOrd S k l s) := by
  unfold fOrd
  repeat' apply FlOk_ite
  all_goals first | exact FlOk_no | exact FlOk_1 | exact FlOk_2 | exact FlOk_bad _ _ | (split <;> first | exact FlOk_no | exact FlOk_bad _ _)
theorem fO_n {S : St} {k l s : Nat} (h : (fOrd S k l s).1 = 0) : (fOrd S k l s).2 = none := (FlOk_ord S k l s).2 h
theorem fO_0 {S : St} {k l s : Nat} (h : nI (fOrd S k l s).1 = 0) : (fOrd S k l s).1 = 0 := by
  have h3 := (FlOk_ord S k l s).1
  exact (nI_eq (b := 0) (by omega) (by decide)).mp h
theorem s_X8_read {J : Nat → St → Prop} {o z p : Nat} (h : RX G Λ ρ σ M) (ho : gM σ 5 = nI o) (ho8 : o < 8) (hz : gM σ 6 = nI z) (hz8 : z ≤ 8) (h7 : gM σ 7 = nI p) (hch : ∀ x ∈ gR σ 11 0, x < 128) (hJ : J 0 (gS σ 0)) (hJO : ∀ i S, i ≤ ((rdP σ).2.1.1 1).length → J i S → OKS S) (hJS : ∀ i S, i < ((rdP σ).2.1.1 1).length → J i S → (fOrd S (((rdP σ).2.1.1 1).getD i 0) (((rdP σ).2.1.1 2).getD i 0) (((rdP σ).2.1.1 3).getD i 0)).1 = 0 → J (i + 1) (oOrd S (((rdP σ).2.1.1 1).getD i 0) (((rdP σ).2.1.1 2).getD i 0) (((rdP σ).2.1.1 3).getD i 0))) (hPK : ∀ i, i < ((rdP σ).2.1.1 1).length → (((rdP σ).2.1.1 1).getD i 0 = 115 ∨ ((rdP σ).2.1.1 1).getD i 0 = 117 ∨ ((rdP σ).2.1.1 1).getD i 0 = 112 ∨ ((rdP σ).2.1.1 1).getD i 0 = 119 ∨ ((rdP σ).2.1.1 1).getD i 0 = 108 ∨ ((rdP σ).2.1.1 1).getD i 0 = 120 ∨ ((rdP σ).2.1.1 1).getD i 0 = 109 ∨ ((rdP σ).2.1.1 1).getD i 0 = 102 ∨ ((rdP σ).2.1.1 1).getD i 0 = 104)) (hor : ∀ S, (gR (hPush (sS (rdN σ) 0 S) o z 1) 11 1).length = ((rdP σ).2.1.1 1).length) (hXf : (rdP σ).1 = false → ∀ M', RX G Λ ρ (sM (rdS σ) 1 (nI (rdP σ).2.2.1)) M' → QX "java/lang/IllegalArgumentException" M') (hXr : (rdP σ).1 = true → ∀ i S f, rdR σ = (S, some (i, f)) → ∀ M', RX G Λ ρ (sM (sS (fR (rdN σ) f.2) 0 (gS σ 0)) 2 (nI i)) M' → QX "java/lang/UnsupportedOperationException" M') (hQ : (rdP σ).1 = true → (rdR σ).2 = none → ∀ M', RX G Λ ρ (hPush (sS (rdN σ) 0 (rdR σ).1) o z 1) M' → Q (some (.int (nI ((rdP σ).2.1.1 1).length))) M')  : MS G yX8_read cX8_read 3 (some .int) (d + 12) 1 6 [.ref (Λ (0, 0, 0))] M Q QX := by
  have okp : (rdP σ).1 = true → ∀ M1, RX G Λ ρ (sS (rdN σ) 0 (gS σ 0)) M1 → AW G (wX G yX8_read cX8_read 3 (some .int) 1 6 Q QX) (d + 12) 1 6 54 [some (.ref (Λ (0, 0, 0))), some (.int (bI true)), some (.int (nI 0))] [] M1 := by
    intro hok M1 h1
    have loop : ∀ (m : Nat) (i n : Nat) (S : St) (M1 : Me), m = n → i + n = ((rdP σ).2.1.1 1).length → J i S → RX G Λ ρ (sS (rdN σ) 0 S) M1 → rEx ((rdP σ).2.1.1 1) ((rdP σ).2.1.1 2) ((rdP σ).2.1.1 3) n i S = rdR σ → AW G (wX G yX8_read cX8_read 3 (some .int) 1 6 Q QX) (d + 12) 1 6 54 [some (.ref (Λ (0, 0, 0))), some (.int (bI true)), some (.int (nI i))] [] M1 := by
      intro m
      induction m using Nat.strongRecOn with
      | _ m ih =>
      intro i n S M1 hm hin hJ1 h1 hEx
      subst hm
      have hlen60 : ((rdP σ).2.1.1 1).length ≤ 60 := by have := (h1.rw (by decide : wR 11 1 = true)).2.1; rw [gR_n (by decide), rdN_r 1 (by decide)] at this; exact this
      refine r_iload_n (q := 55) dX8_read_54 rfl rfl ?_
      refine r_aload_n (q := 56) dX8_read_55 rfl rfl ?_
      refine r_get (q := 59) (kk := 5) h1.x rfl wi_RX8 (by decide) rfl fk_X8_36 rfl dX8_read_56 rfl ?_
      refine r_cV (q := 62) (As := []) wc_X8_344 rfl im_X1_orders se_X1_orders h1.inp rfl rfl (Nat.le_of_ble_eq_true rfl) (Nat.le_of_eq (Nat.zero_add _)) (Nat.le_of_eq (Nat.zero_add _)) dX8_read_59 rfl rfl (s_X1_ordersO h1 ?_)
      rw [show (gR (sS (rdN σ) 0 S) 11 1).length = ((rdP σ).2.1.1 1).length by rw [gR_n (by decide), rdN_r 1 (by decide)]]
      have hk := hJO i _ (by omega) hJ1
      refine r_icmp_ge (t := 111) (q := 65) dX8_read_62 rfl rfl (fun c62 => ?_) (fun c62 => ?_)
      · rw [nI_leI (by omega) (by omega)] at c62
        obtain rfl : m = 0 := by omega
        replace hEx : (S, none) = rdR σ := hEx
        have e1 : (rdR σ).1 = S := by rw [← hEx]
        have e2 : (rdR σ).2 = none := by rw [← hEx]
        refine r_aload_n (q := 112) dX8_read_111 rfl rfl ?_
        refine r_get (q := 115) (kk := 4) h1.x rfl wi_RX8 (by decide) rfl fk_X8_29 rfl dX8_read_112 rfl ?_
        refine r_aload_n (q := 116) dX8_read_115 rfl rfl ?_
        refine r_get (q := 119) (kk := 1) h1.x rfl wi_RX8 (by decide) rfl fk_X8_16 rfl dX8_read_116 rfl ?_
        refine r_cV (q := 122) (As := [.ref _]) wc_X8_358 rfl im_X0_push se_X0_push h1.hi rfl rfl (Nat.le_of_ble_eq_true rfl) (Nat.le_of_eq (Nat.zero_add _)) (Nat.le_of_eq (Nat.zero_add _)) dX8_read_119 rfl rfl (s_X0_push (o := o) (z := z) (a := 1) h1 ho ho8 hz hz8 (by decide) fun M_119 h1_119 => ?_)
        refine r_aload_n (q := 123) dX8_read_122 rfl rfl ?_
        refine r_get (q := 126) (kk := 5) h1_119.x rfl wi_RX8 (by decide) rfl fk_X8_36 rfl dX8_read_123 rfl ?_
        refine r_cV (q := 129) (As := []) wc_X8_344 rfl im_X1_orders se_X1_orders h1_119.inp rfl rfl (Nat.le_of_ble_eq_true rfl) (Nat.le_of_eq (Nat.zero_add _)) (Nat.le_of_eq (Nat.zero_add _)) dX8_read_126 rfl rfl (s_X1_ordersO h1_119 ?_)
        rw [hor]
        refine r_iret dX8_read_129 ?_
        refine hQ hok e2 _ ?_
        rw [e1]
        exact h1_119
      · rw [nI_leI (by omega) (by omega)] at c62
        obtain ⟨n, rfl⟩ : ∃ n0, m = n0 + 1 := ⟨m - 1, by omega⟩
        rw [rEx] at hEx
        have hK := hPK i (by omega)
        have hl1 : ((rdP σ).2.1.1 2).getD i 0 < 2 ^ 31 := by have := getD_all (by decide) (h1.rw (by decide : wR 11 2 = true)).2.2.1 i; rw [gR_n (by decide), rdN_r 2 (by decide)] at this; exact this
        have hs1 : ((rdP σ).2.1.1 3).getD i 0 < 2 ^ 31 := by have := getD_all (by decide) (h1.rw (by decide : wR 11 3 = true)).2.2.1 i; rw [gR_n (by decide), rdN_r 3 (by decide)] at this; exact this
        refine r_aload_n (q := 66) dX8_read_65 rfl rfl ?_
        refine r_iload_n (q := 67) dX8_read_66 rfl rfl ?_
        refine r_cV (q := 70) (As := [.int _]) wc_X8_347 rfl im_X8_faultOfOrder se_X8_faultOfOrder h1.x rfl rfl (Nat.le_of_ble_eq_true rfl) (Nat.le_of_eq (Nat.zero_add _)) (Nat.le_of_eq (Nat.zero_add _)) dX8_read_67 rfl rfl (s_X8_faultOfOrder (k := ((rdP σ).2.1.1 1).getD i 0) (l := ((rdP σ).2.1.1 2).getD i 0) (s := ((rdP σ).2.1.1 3).getD i 0) h1 hk.1 hk.2.1 hk.2.2.1 (by omega) (by rw [rdN_r 1 (by decide)]) (by rw [rdN_r 2 (by decide)]) (by rw [rdN_r 3 (by decide)]) hl1 hs1 hK fun M_67 h1_67 => ?_)
        refine r_if_eq (t := 100) (q := 73) dX8_read_70 rfl rfl (fun c70 => ?_) (fun c70 => ?_)
        · have c70b : (fOrd S (((rdP σ).2.1.1 1).getD i 0) (((rdP σ).2.1.1 2).getD i 0) (((rdP σ).2.1.1 3).getD i 0)).1 = 0 := fO_0 c70
          rw [if_pos c70b] at hEx
          have c70n : (fOrd S (((rdP σ).2.1.1 1).getD i 0) (((rdP σ).2.1.1 2).getD i 0) (((rdP σ).2.1.1 3).getD i 0)).2 = none := fO_n c70b
          rw [c70n] at h1_67
          replace h1_67 : RX G Λ ρ (sS (rdN σ) 0 S) _ := h1_67
          refine r_aload_n (q := 101) dX8_read_100 rfl rfl ?_
          refine r_iload_n (q := 102) dX8_read_101 rfl rfl ?_
          refine r_cV (q := 105) (As := [.int _]) wc_X8_355 rfl im_X8_carryOut se_X8_carryOut h1_67.x rfl rfl (Nat.le_of_ble_eq_true rfl) (Nat.le_of_eq (Nat.zero_add _)) (Nat.le_of_eq (Nat.zero_add _)) dX8_read_102 rfl rfl (s_X8_carryOut (k := ((rdP σ).2.1.1 1).getD i 0) (l := ((rdP σ).2.1.1 2).getD i 0) (s := ((rdP σ).2.1.1 3).getD i 0) h1_67 hk.1 hk.2.1 hk.2.2.1 hk.2.2.2.1 hk.2.2.2.2 (by omega) (by rw [rdN_r 1 (by decide)]) (by rw [rdN_r 2 (by decide)]) (by rw [rdN_r 3 (by decide)]) hl1 hs1 hK c70b fun M_102 h1_102 => ?_)
          refine r_inc1 (q := 108) dX8_read_105 rfl (Nat.le_of_ble_eq_true rfl) rfl rfl ?_
          show AW _ (_, _, _, _, _, _, _, _, _) _ _ _ _ [some _, some _, some _] _ _
          refine r_goto (t := 54) dX8_read_108 rfl ?_
          exact ih n (by omega) (i + 1) n _ _ rfl (by omega) (hJS i _ (by omega) hJ1 c70b) h1_102 hEx
        · have c70b : ¬ (fOrd S (((rdP σ).2.1.1 1).getD i 0) (((rdP σ).2.1.1 2).getD i 0) (((rdP σ).2.1.1 3).getD i 0)).1 = 0 := fun g => c70 (by rw [g]; rfl)
          rw [if_neg c70b] at hEx
          refine r_aload_n (q := 74) dX8_read_73 rfl rfl ?_
          refine r_get (q := 77) (kk := 0) h1_67.x rfl wi_RX8 (by decide) rfl fk_X8_12 rfl dX8_read_74 rfl ?_
          refine r_aload_n (q := 78) dX8_read_77 rfl rfl ?_
          refine r_get (q := 81) (kk := 1) h1_67.x rfl wi_RX8 (by decide) rfl fk_X8_16 rfl dX8_read_78 rfl ?_
          refine r_cV (q := 84) (As := [.ref _]) wc_X8_340 rfl im_X5_copyFrom se_X5_copyFrom (h1_67.st (by first | assumption | decide | omega)) rfl rfl (Nat.le_of_ble_eq_true rfl) (Nat.le_of_eq (Nat.zero_add _)) (Nat.le_of_eq (Nat.zero_add _)) dX8_read_81 rfl rfl (s_X5_copyFrom (a2 := 1) h1_67 (by decide) (by decide) (by decide) fun M_81 h1_81 => ?_)
          rw [fR_n, show gS (rdN σ) 1 = gS σ 0 from gS_sS] at h1_81
          refine r_aload_n (q := 85) dX8_read_84 rfl rfl ?_
          refine r_iload_n (q := 86) dX8_read_85 rfl rfl ?_
          refine r_p8 (q := 89) (kk := 9) (j := 2) h1_81 (by decide) rfl fk_X8_58 dX8_read_86 rfl fun M_86 h1_86 => ?_
          exact r_throwW (names := nm_UnsupportedOperationException) (j := 32) (by decide +kernel) (by decide +kernel) ck_X8_350 ini_UnsupportedOperationException rfl at_X8_354 og_X8_354 (by decide) (by omega) (Nat.le_of_ble_eq_true rfl) (by decide) (by decide) dX8_read_89 dX8_read_92 dX8_read_93 dX8_read_96 dX8_read_99 (hXr hok i _ _ hEx.symm _ h1_86)
    exact loop _ 0 ((rdP σ).2.1.1 1).length (gS σ 0) _ rfl (Nat.zero_add _) hJ h1 rfl
  refine MS.of (by decide) (by simp [Value.category]) (Nat.le_of_ble_eq_true rfl) ?_
  show AW _ (_, _, _, _, _, _, _, _, _) _ _ _ _ [some _, _, _] _ _
  refine r_aload_n (q := 1) dX8_read_0 rfl rfl ?_
  refine r_get (q := 4) (kk := 5) h.x rfl wi_RX8 (by decide) rfl fk_X8_36 rfl dX8_read_1 rfl ?_
  refine r_cV (q := 7) (As := []) wc_X8_329 rfl im_X1_parse se_X1_parse h.inp rfl rfl (Nat.le_of_ble_eq_true rfl) (Nat.le_of_eq (Nat.zero_add _)) (Nat.le_of_eq (Nat.zero_add _)) dX8_read_4 rfl rfl (s_X1_parse (σ := σ) (S := gS σ 11) (p := p) (l := gM σ 8) (s := gM σ 9) (by rw [← h7, iS_self]; exact h) hch fun M_4 h_4 => ?_)
  refine r_istore_n (q := 8) dX8_read_7 (Nat.le_of_ble_eq_true rfl) rfl rfl ?_
  show AW _ (_, _, _, _, _, _, _, _, _) _ _ _ _ [some _, some _, _] _ _
  refine r_aload_n (q := 9) dX8_read_8 rfl rfl ?_
  refine r_get (q := 12) (kk := 5) h_4.x rfl wi_RX8 (by decide) rfl fk_X8_36 rfl dX8_read_9 rfl ?_
  refine r_cV (q := 15) (As := []) wc_X8_332 rfl im_X1_empty se_X1_empty h_4.inp rfl rfl (Nat.le_of_ble_eq_true rfl) (Nat.le_of_eq (Nat.zero_add _)) (Nat.le_of_eq (Nat.zero_add _)) dX8_read_12 rfl rfl (s_X1_empty h_4 fun M_12 h_12 => ?_)
  replace h_12 : RX G Λ ρ (rdS σ) M_12 := h_12
  refine r_iload_n (q := 16) dX8_read_15 rfl rfl ?_
  refine r_if_ne (t := 41) (q := 19) dX8_read_16 rfl rfl (fun c16 => ?_) (fun c16 => ?_)
  · have c16b : (rdP σ).1 = true := bI_ne c16
    rw [show (pPar (gS σ 11) (gM σ 8) (gM σ 9)).1 = true from c16b]
    refine r_aload_n (q := 42) dX8_read_41 rfl rfl ?_
    refine r_get (q := 45) (kk := 1) h_12.x rfl wi_RX8 (by decide) rfl fk_X8_16 rfl dX8_read_42 rfl ?_
    refine r_aload_n (q := 46) dX8_read_45 rfl rfl ?_
    refine r_get (q := 49) (kk := 0) h_12.x rfl wi_RX8 (by decide) rfl fk_X8_12 rfl dX8_read_46 rfl ?_
    refine r_cV (q := 52) (As := [.ref _]) wc_X8_340 rfl im_X5_copyFrom se_X5_copyFrom (h_12.st (by first | assumption | decide | omega)) rfl rfl (Nat.le_of_ble_eq_true rfl) (Nat.le_of_eq (Nat.zero_add _)) (Nat.le_of_eq (Nat.zero_add _)) dX8_read_49 rfl rfl (s_X5_copyFrom (σ := rdS σ) (a := 1) (a2 := 0) (RX.toS h_12 1) (by decide) (by decide) (by decide) fun M_49 h_49 => ?_)
    rw [rdS_0 0 (by decide)] at h_49
    replace h_49 : RX G Λ ρ (sS (rdN σ) 0 (gS σ 0)) M_49 := by rw [show gS σ 0 = gS (rdN σ) 0 from ((gS_ne (by decide)).trans (rdS_0 0 (by decide))).symm, sS_gS]; exact h_49
    refine r_iconst (v := nI 0) (q := 53) dX8_read_52 (by decide) rfl ?_
    refine r_istore_n (q := 54) dX8_read_53 (Nat.le_of_ble_eq_true rfl) rfl rfl ?_
    show AW _ (_, _, _, _, _, _, _, _, _) _ _ _ _ [some _, some _, some _] _ _
    exact okp c16b _ h_49
  · have c16b : (rdP σ).1 = false := bI_eq0.mp c16
    refine r_aload_n (q := 20) dX8_read_19 rfl rfl ?_
    refine r_aload_n (q := 21) dX8_read_20 rfl rfl ?_
    refine r_get (q := 24) (kk := 5) h_12.x rfl wi_RX8 (by decide) rfl fk_X8_36 rfl dX8_read_21 rfl ?_
    refine r_cV (q := 27) (As := []) wc_X8_335 rfl im_X1_position se_X1_position h_12.inp rfl rfl (Nat.le_of_ble_eq_true rfl) (Nat.le_of_eq (Nat.zero_add _)) (Nat.le_of_eq (Nat.zero_add _)) dX8_read_24 rfl rfl (s_X1_position (σ := σ) (S := uR (rdP σ).2.1 0 []) h_12 ?_)
    refine r_p8 (q := 30) (kk := 8) (j := 1) h_12 (by decide) rfl fk_X8_54 dX8_read_27 rfl fun M_27 h_27 => ?_
    exact r_throwW (names := nm_IllegalArgumentException) (j := 31) (by decide +kernel) (by decide +kernel) ck_X8_130 ini_IllegalArgumentException rfl at_X8_134 og_X8_134 (by decide) (by omega) (Nat.le_of_ble_eq_true rfl) (by decide) (by decide) dX8_read_30 dX8_read_33 dX8_read_34 dX8_read_37 dX8_read_40 (hXf c16b _ h_27)
end W66
