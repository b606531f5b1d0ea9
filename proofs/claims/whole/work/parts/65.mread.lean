/-! THE MODEL: an input read -/
section W65
variable {G : En} {Λ : Ob → Nat} {ρ : Me} {μ : Mg} {M : Me} {d : Nat} {Q : Option Value → Me → Prop} {QX : String → Me → Prop} {S : St} {F : Nat → Nat} {L : List Nat} {z : Nat}
def kOk (kd a b c : Nat) : Prop := (kd = 115 ∨ kd = 117 ∨ kd = 112 ∨ kd = 119 ∨ kd = 108 ∨ kd = 120 ∨ kd = 109 ∨ kd = 102 ∨ kd = 104) ∧ a < 100 ∧ b < 100 ∧ c < 100 ∧ (kd = 115 → b ≤ 6 ∧ c < 64)
def mEx (K N : Nat → Nat) : Nat → Nat → (Nat → Nat) → (Nat → Nat) × Option (Nat × Fl)
  | 0, _, F => (F, none)
  | n + 1, k, F => if (mCo F (K k) (N (3 * k)) (N (3 * k + 1)) (N (3 * k + 2))).1 = 0 then mEx K N n (k + 1) (mCF F (K k) (N (3 * k)) (N (3 * k + 1)) (N (3 * k + 2))) else (F, some (k, mCo F (K k) (N (3 * k)) (N (3 * k + 1)) (N (3 * k + 2))))
/-- the model after an input has been parsed -/
def nuR (μ : Mg) (L : List Nat) : Mg := mRds (bgM μ) L (gA μ 9) (gA μ 8)
def rdY (μ : Mg) (L : List Nat) : PY := mPar L (gA μ 9) (gA μ 8)
def rdW (μ : Mg) (L : List Nat) : Bool := (rdY μ L).1.1 || decide ((rdY μ L).1.2.1 < L.length)
def rdE (μ : Mg) (L : List Nat) : (Nat → Nat) × Option (Nat × Fl) := mEx (rdY μ L).2.2 (rdY μ L).1.2.2 (rdY μ L).2.1 0 (gA μ 0)
theorem nuR_25 : gN (nuR μ L) 25 = bI (rdW μ L) := rfl
theorem nuR_23 : gN (nuR μ L) 23 = nI (rdY μ L).1.2.1 := rfl
theorem nuR_24 : gN (nuR μ L) 24 = nI (rdY μ L).2.1 := rfl
theorem nuR_8 : gA (nuR μ L) 8 = (rdY μ L).2.2 := by
  show gA (pX (nuM (muR (bgM μ) L) _ _) _) 8 = _
  rw [pX_a (by decide), nuM, gA_sNe, gA_s]; rfl
theorem nuR_9 : gA (nuR μ L) 9 = (rdY μ L).1.2.2 := by
  show gA (pM _ _ _ _) 9 = _
  rw [pM_9]; rfl
theorem nuR_0 : gA (nuR μ L) 0 = gA μ 0 := by
  show gA (pX (nuM (muR (bgM μ) L) _ _) _) 0 = _
  rw [pX_a (by decide), nuM, gA_sNe, gA_n (by decide), muR, gA_sNe, gA_sNe, gA_bg]
theorem nuR_1 : gA (nuR μ L) 1 = gA μ 0 := by
  show gA (pX (nuM (muR (bgM μ) L) _ _) _) 1 = _
  rw [pX_a (by decide), nuM, gA_sNe, gA_n (by decide), muR, gA_sNe, gA_sNe, bgM, gA_s]
theorem mCo_c {F : Nat → Nat} {kd a b c : Nat} (h : ¬ (mCo F kd a b c).1 = 0) : mCo F kd a b c = (2, none) ∨ ∃ x, mCo F kd a b c = (3, some x) := by
  have hm : ∀ o : Option (Int32 × Int32), mFl o = (2, none) ∨ (∃ x, mFl o = (3, some x)) ∨ mFl o = no := by
    intro o; cases o with
    | none => exact Or.inr (Or.inr rfl)
    | some x => exact Or.inr (Or.inl ⟨x, rfl⟩)
  have key : mCo F kd a b c = (2, none) ∨ (∃ x, mCo F kd a b c = (3, some x)) ∨ mCo F kd a b c = no := by
    unfold mCo
    repeat' split
    all_goals first | exact Or.inl rfl | exact Or.inr (Or.inr rfl) | exact hm _
  rcases key with e | e | e
  · exact Or.inl e
  · exact Or.inr e
  · exact absurd (by rw [e]; rfl) h
/-- the end of an input that goes against a rule -/
def rdEl (μ : Mg) (L : List Nat) (F : Nat → Nat) (k : Nat) : Mg := sN (sN (sA (sN (nuR μ L) 26 (bI true)) 0 (gA μ 0)) 11 (nI k)) 4 (nI 2)
def rdRf (μ : Mg) (L : List Nat) (k : Nat) (x : Int32 × Int32) : Mg := sN (sN (sN (sN (sN (sN (sA (sN (nuR μ L) 26 (bI false)) 0 (gA μ 0)) 6 x.1) 7 x.2) 11 (nI k)) 8 x.1) 9 x.2) 4 (nI 2)
def rdWr (μ : Mg) (L : List Nat) : Mg := sN (sN (nuR μ L) 10 (nI (rdY μ L).1.2.1)) 4 (nI 1)
theorem mCR_0 {f : Fl} {F' : Nat → Nat} (h : f.1 = 0) (h2 : f.2 = none) : mCR μ f F' = sA (sN μ 26 (bI false)) 0 F' := by
  unfold mCR; rw [h2]; exact if_pos h
theorem mCo_n {F : Nat → Nat} {kd a b c : Nat} (h : (mCo F kd a b c).1 = 0) : (mCo F kd a b c).2 = none := by
  have hm : ∀ o : Option (Int32 × Int32), (mFl o).1 = 0 → (mFl o).2 = none := by
    intro o; cases o with
    | none => exact fun _ => rfl
    | some x => exact fun e => absurd e (show ¬ (3 : Nat) = 0 by decide)
  revert h
  unfold mCo
  repeat' split
  all_goals first | exact fun _ => rfl | exact hm _
theorem s_X9_read {J : Nat → (Nat → Nat) → Prop} (h : RM G Λ ρ μ M) (hz : gN μ 5 = nI z) (hz8 : z ≤ 8) (hfed : gN μ 21 = nI L.length) (hI : PIN L (muR (bgM μ) L)) (hJ : J 0 (gA μ 0)) (hJO : ∀ k F, k ≤ (rdY μ L).2.1 → J k F → OKF F) (hJS : ∀ k F, k < (rdY μ L).2.1 → J k F → (mCo F ((rdY μ L).2.2 k) ((rdY μ L).1.2.2 (3 * k)) ((rdY μ L).1.2.2 (3 * k + 1)) ((rdY μ L).1.2.2 (3 * k + 2))).1 = 0 → J (k + 1) (mCF F ((rdY μ L).2.2 k) ((rdY μ L).1.2.2 (3 * k)) ((rdY μ L).1.2.2 (3 * k + 1)) ((rdY μ L).1.2.2 (3 * k + 2)))) (hPK : rdW μ L = false → ∀ k, k < (rdY μ L).2.1 → kOk ((rdY μ L).2.2 k) ((rdY μ L).1.2.2 (3 * k)) ((rdY μ L).1.2.2 (3 * k + 1)) ((rdY μ L).1.2.2 (3 * k + 2))) (hR9 : (rdY μ L).2.1 < 50) (hW : rdW μ L = true → ∀ M', RM G Λ ρ (rdWr μ L) M' → Q (some (.int (nI 0))) M') (hE : rdW μ L = false → ∀ k F1, rdE μ L = (F1, some (k, (2, none))) → ∀ M', RM G Λ ρ (rdEl μ L F1 k) M' → Q (some (.int (nI 0))) M') (hR : rdW μ L = false → ∀ k F1 x, rdE μ L = (F1, some (k, (3, some x))) → ∀ M', RM G Λ ρ (rdRf μ L k x) M' → Q (some (.int (nI 0))) M') (hQ : rdW μ L = false → (rdE μ L).2 = none → ∀ v M', RM G Λ ρ (kpM (sA (sN (nuR μ L) 26 v) 0 (rdE μ L).1) z) M' → Q (some (.int (nI (rdY μ L).2.1))) M')  : MS G yX9_read cX9_read 2 (some .int) (d + 5) 0 0 [.ref (Λ (10, 0, 0))] M Q QX := by
  have okp : rdW μ L = false → ∀ M1, RM G Λ ρ (nuR μ L) M1 → AW G (wX G yX9_read cX9_read 2 (some .int) 0 0 Q QX) (d + 5) 0 0 31 [some (.ref (Λ (10, 0, 0))), some (.int (nI 0))] [] M1 := by
    intro hw0 M1 h1
    have loop : ∀ (m : Nat) (k n : Nat) (v : Int32) (F1 : Nat → Nat) (M1 : Me), m = n → k + n = (rdY μ L).2.1 → J k F1 → RM G Λ ρ (sA (sN (nuR μ L) 26 v) 0 F1) M1 → mEx (rdY μ L).2.2 (rdY μ L).1.2.2 n k F1 = rdE μ L → AW G (wX G yX9_read cX9_read 2 (some .int) 0 0 Q QX) (d + 5) 0 0 31 [some (.ref (Λ (10, 0, 0))), some (.int (nI k))] [] M1 := by
      intro m
      induction m using Nat.strongRecOn with
      | _ m ih =>
      intro k n v F1 M1 hm hkn hJ1 h1 hEx
      subst hm
      have hR30 := hR9
      refine r_iload_n (q := 32) dX9_read_31 rfl rfl ?_
      refine r_aload_n (q := 33) dX9_read_32 rfl rfl ?_
      refine r_get (q := 36) (kk := 24) h1.m rfl wi_RX9 (by decide) rfl fk_X9_84 rfl dX9_read_33 rfl ?_
      rw [show gN (sA (sN (nuR μ L) 26 v) 0 F1) 24 = nI (rdY μ L).2.1 from rfl]
      refine r_icmp_ge (t := 95) (q := 39) dX9_read_36 rfl rfl (fun c36 => ?_) (fun c36 => ?_)
      · rw [nI_leI (by omega) (by omega)] at c36
        obtain rfl : m = 0 := by omega
        replace hEx : (F1, none) = rdE μ L := hEx
        have e1 : (rdE μ L).1 = F1 := by rw [← hEx]
        have e2 : (rdE μ L).2 = none := by rw [← hEx]
        have hz2 : gN (sA (sN (nuR μ L) 26 v) 0 F1) 5 = nI z := hz
        refine r_aload_n (q := 96) dX9_read_95 rfl rfl ?_
        refine r_aload_n (q := 97) dX9_read_96 rfl rfl ?_
        refine r_get (q := 100) (kk := 24) h1.m rfl wi_RX9 (by decide) rfl fk_X9_84 rfl dX9_read_97 rfl ?_
        rw [show gN (sA (sN (nuR μ L) 26 v) 0 F1) 24 = nI (rdY μ L).2.1 from rfl]
        refine r_cV (q := 103) (As := [.int _]) wc_X9_150 rfl im_X9_keeps se_X9_keeps h1.m rfl rfl (Nat.le_of_ble_eq_true rfl) (Nat.le_of_eq (Nat.zero_add _)) (Nat.le_of_eq (Nat.zero_add _)) dX9_read_100 rfl rfl (s_X9_keeps (z := z) h1 hz2 hz8 fun M_100 h1_100 => ?_)
        refine r_iret dX9_read_103 ?_
        rw [← e1] at h1_100
        exact hQ hw0 e2 v _ h1_100
      · rw [nI_leI (by omega) (by omega)] at c36
        obtain ⟨n, rfl⟩ : ∃ n0, m = n0 + 1 := ⟨m - 1, by omega⟩
        rw [mEx] at hEx
        have hok := hPK hw0 k (by omega)
        have hF1 : gA (sA (sN (nuR μ L) 26 v) 0 F1) 0 = F1 := gA_s
        have hK1 : gA (sA (sN (nuR μ L) 26 v) 0 F1) 8 = (rdY μ L).2.2 := by rw [gA_n (by decide), gA_sNe, nuR_8]
        have hN1 : gA (sA (sN (nuR μ L) 26 v) 0 F1) 9 = (rdY μ L).1.2.2 := by rw [gA_n (by decide), gA_sNe, nuR_9]
        refine r_aload_n (q := 40) dX9_read_39 rfl rfl ?_
        refine r_iload_n (q := 41) dX9_read_40 rfl rfl ?_
        refine r_cV (q := 44) (As := [.int _]) wc_X9_316 rfl im_X9_cannot se_X9_cannot h1.m rfl rfl (Nat.le_of_ble_eq_true rfl) (Nat.le_of_eq (Nat.zero_add _)) (Nat.le_of_eq (Nat.zero_add _)) dX9_read_41 rfl rfl (s_X9_cannot h1 hF1 (hJO k _ (by omega) hJ1) (by omega) (congrFun hK1 k) (congrFun hN1 _) (congrFun hN1 _) (congrFun hN1 _) hok.1 hok.2.1 hok.2.2.1 hok.2.2.2.1 hok.2.2.2.2 fun M_41 h1_41 => ?_)
        refine r_if_ne (t := 50) (q := 47) dX9_read_44 rfl rfl (fun c44 => ?_) (fun c44 => ?_)
        · have c44b : ¬ (mCo F1 ((rdY μ L).2.2 k) ((rdY μ L).1.2.2 (3 * k)) ((rdY μ L).1.2.2 (3 * k + 1)) ((rdY μ L).1.2.2 (3 * k + 2))).1 = 0 := of_decide_eq_true (bI_ne c44)
          rw [if_neg c44b] at hEx
          rcases mCo_c c44b with e3 | ⟨x, e3⟩
          · rw [e3] at h1_41
            replace h1_41 : RM G Λ ρ (sA (sN (nuR μ L) 26 (bI true)) 0 F1) M_41 := by rw [← sN_sN (k := 26) (v := v)]; exact h1_41
            refine r_aload_n (q := 51) dX9_read_50 rfl rfl ?_
            refine r_get (q := 54) (kk := 1) h1_41.m rfl wi_RX9 (by decide) rfl fk_X9_13 rfl dX9_read_51 rfl ?_
            refine r_iconst (v := nI 0) (q := 55) dX9_read_54 (by decide) rfl ?_
            refine r_aload_n (q := 56) dX9_read_55 rfl rfl ?_
            refine r_get (q := 59) (kk := 0) h1_41.m rfl wi_RX9 (by decide) rfl fk_X9_7 rfl dX9_read_56 rfl ?_
            refine r_iconst (v := nI 0) (q := 60) dX9_read_59 (by decide) rfl ?_
            refine r_cS (q := 63) (As := [.ref _, .int _, .ref _, .int _]) wc_X9_100 st_X9_copies rfl (Nat.le_of_ble_eq_true rfl) (Nat.le_of_eq (Nat.zero_add _)) (Nat.le_of_eq (Nat.zero_add _)) dX9_read_60 rfl rfl (x_cp h1_41 (by decide) (by decide) (by decide) fun M_60 h1_60 => ?_)
            rw [sA_sA, gA_n (by decide), gA_sNe, nuR_1] at h1_60
            refine r_aload_n (q := 64) dX9_read_63 rfl rfl ?_
            refine r_iload_n (q := 65) dX9_read_64 rfl rfl ?_
            refine r_p9 (q := 68) (kk := 11) (j := 11) h1_60 (by decide) rfl fk_X9_44 dX9_read_65 rfl fun M_65 h1_65 => ?_
            refine r_aload_n (q := 69) dX9_read_68 rfl rfl ?_
            refine r_get (q := 72) (kk := 26) h1_65.m rfl wi_RX9 (by decide) rfl fk_X9_90 rfl dX9_read_69 rfl ?_
            rw [show gN (sN (sA (sN (nuR μ L) 26 (bI true)) 0 (gA μ 0)) 11 (nI k)) 26 = bI true from rfl]
            refine r_if_eq (t := 83) (q := 75) dX9_read_72 rfl rfl (fun c72 => ?_) (fun c72 => ?_)
            · exact absurd c72 (by decide)
            · refine r_aload_n (q := 76) dX9_read_75 rfl rfl ?_
              refine r_iconst (v := nI 2) (q := 77) dX9_read_76 (by decide) rfl ?_
              refine r_cV (q := 80) (As := [.int _]) wc_X9_96 rfl im_X9_no se_X9_no h1_65.m rfl rfl (Nat.le_of_ble_eq_true rfl) (Nat.le_of_eq (Nat.zero_add _)) (Nat.le_of_eq (Nat.zero_add _)) dX9_read_77 rfl rfl (s_X9_no h1_65 fun M_77 h1_77 => ?_)
              refine r_goto (t := 88) dX9_read_80 rfl ?_
              refine r_iret dX9_read_88 ?_
              exact hE hw0 k F1 (by rw [← hEx, e3]) _ h1_77
          · rw [e3] at h1_41
            replace h1_41 : RM G Λ ρ (sN (sN (sN (sA (sN (nuR μ L) 26 v) 0 F1) 26 (bI false)) 6 x.1) 7 x.2) M_41 := h1_41
            refine r_aload_n (q := 51) dX9_read_50 rfl rfl ?_
            refine r_get (q := 54) (kk := 1) h1_41.m rfl wi_RX9 (by decide) rfl fk_X9_13 rfl dX9_read_51 rfl ?_
            refine r_iconst (v := nI 0) (q := 55) dX9_read_54 (by decide) rfl ?_
            refine r_aload_n (q := 56) dX9_read_55 rfl rfl ?_
            refine r_get (q := 59) (kk := 0) h1_41.m rfl wi_RX9 (by decide) rfl fk_X9_7 rfl dX9_read_56 rfl ?_
            refine r_iconst (v := nI 0) (q := 60) dX9_read_59 (by decide) rfl ?_
            refine r_cS (q := 63) (As := [.ref _, .int _, .ref _, .int _]) wc_X9_100 st_X9_copies rfl (Nat.le_of_ble_eq_true rfl) (Nat.le_of_eq (Nat.zero_add _)) (Nat.le_of_eq (Nat.zero_add _)) dX9_read_60 rfl rfl (x_cp h1_41 (by decide) (by decide) (by decide) fun M_60 h1_60 => ?_)
            rw [show gA (sN (sN (sN (sA (sN (nuR μ L) 26 v) 0 F1) 26 (bI false)) 6 x.1) 7 x.2) 1 = gA μ 0 by rw [gA_sNe, gA_sNe, gA_sNe, gA_n (by decide), gA_sNe, nuR_1], sA_sN, sA_sN, sA_sN, sA_sA, sA_sN, sN_sN] at h1_60
            refine r_aload_n (q := 64) dX9_read_63 rfl rfl ?_
            refine r_iload_n (q := 65) dX9_read_64 rfl rfl ?_
            refine r_p9 (q := 68) (kk := 11) (j := 11) h1_60 (by decide) rfl fk_X9_44 dX9_read_65 rfl fun M_65 h1_65 => ?_
            refine r_aload_n (q := 69) dX9_read_68 rfl rfl ?_
            refine r_get (q := 72) (kk := 26) h1_65.m rfl wi_RX9 (by decide) rfl fk_X9_90 rfl dX9_read_69 rfl ?_
            rw [show gN (sN (sN (sN (sN (sA (nuR μ L) 0 (gA μ 0)) 26 (bI false)) 6 x.1) 7 x.2) 11 (nI k)) 26 = bI false from rfl]
            refine r_if_eq (t := 83) (q := 75) dX9_read_72 rfl rfl (fun c72 => ?_) (fun c72 => ?_)
            · refine r_aload_n (q := 84) dX9_read_83 rfl rfl ?_
              refine r_iconst (v := nI 2) (q := 85) dX9_read_84 (by decide) rfl ?_
              refine r_cV (q := 88) (As := [.int _]) wc_X9_143 rfl im_X9_refused se_X9_refused h1_65.m rfl rfl (Nat.le_of_ble_eq_true rfl) (Nat.le_of_eq (Nat.zero_add _)) (Nat.le_of_eq (Nat.zero_add _)) dX9_read_85 rfl rfl (s_X9_refused h1_65 fun M_85 h1_85 => ?_)
              refine r_iret dX9_read_88 ?_
              exact hR hw0 k F1 x (by rw [← hEx, e3]) _ h1_85
            · exact absurd rfl c72
        · have c44b : (mCo F1 ((rdY μ L).2.2 k) ((rdY μ L).1.2.2 (3 * k)) ((rdY μ L).1.2.2 (3 * k + 1)) ((rdY μ L).1.2.2 (3 * k + 2))).1 = 0 := Decidable.byContradiction fun g => by rw [decide_eq_true g] at c44; exact absurd c44 (by decide)
          rw [if_pos c44b] at hEx
          have hn9 := mCR_0 (μ := (sA (sN (nuR μ L) 26 v) 0 F1)) (F' := mCF F1 ((rdY μ L).2.2 k) ((rdY μ L).1.2.2 (3 * k)) ((rdY μ L).1.2.2 (3 * k + 1)) ((rdY μ L).1.2.2 (3 * k + 2))) c44b (mCo_n c44b)
          rw [hn9] at h1_41
          refine r_goto (t := 89) dX9_read_47 rfl ?_
          refine r_inc1 (q := 92) dX9_read_89 rfl (Nat.le_of_ble_eq_true rfl) rfl rfl ?_
          show AW _ (_, _, _, _, _, _, _, _, _) _ _ _ _ [some _, some _] _ _
          refine r_goto (t := 31) dX9_read_92 rfl ?_
          exact ih n (by omega) (k + 1) n _ _ _ rfl (by omega) (hJS k _ (by omega) hJ1 c44b) (by rw [sA_sN, sA_sA, sA_sN, sN_sN] at h1_41 ; exact h1_41) hEx
    refine loop _ 0 (rdY μ L).2.1 (gN (nuR μ L) 26) (gA μ 0) _ rfl (Nat.zero_add _) hJ ?_ rfl
    refine h1.ext (fun i hi j hj => ?_) (fun k => ?_)
    · by_cases e : i = 0
      · subst e; rw [gA_s, nuR_0]
      · rw [gA_n e, gA_sNe]
    · rw [gN_sA, gN_sN]
      split
      · rename_i e; rw [e]
      · rfl
  refine MS.of (by decide) (by simp [Value.category]) (Nat.le_of_ble_eq_true rfl) ?_
  show AW _ (_, _, _, _, _, _, _, _, _) _ _ _ _ [some _, _] _ _
  refine r_aload_n (q := 1) dX9_read_0 rfl rfl ?_
  refine r_cV (q := 4) (As := []) wc_X9_130 rfl im_X9_begins se_X9_begins h.m rfl rfl (Nat.le_of_ble_eq_true rfl) (Nat.le_of_eq (Nat.zero_add _)) (Nat.le_of_eq (Nat.zero_add _)) dX9_read_1 rfl rfl (x_begins h fun M_1 h_1 => ?_)
  refine r_aload_n (q := 5) dX9_read_4 rfl rfl ?_
  refine r_cV (q := 8) (As := []) wc_X9_313 rfl im_X9_reads se_X9_reads h_1.m rfl rfl (Nat.le_of_ble_eq_true rfl) (Nat.le_of_eq (Nat.zero_add _)) (Nat.le_of_eq (Nat.zero_add _)) dX9_read_5 rfl rfl (s_X9_reads (μ := bgM μ) (L := L) h_1 hfed hI fun M_5 h_5 => ?_)
  replace h_5 : RM G Λ ρ (nuR μ L) M_5 := by
    have e9 : gA (bgM μ) 9 = gA μ 9 := gA_n (by decide)
    have e8 : gA (bgM μ) 8 = gA μ 8 := gA_n (by decide)
    rw [e9, e8] at h_5; exact h_5
  refine r_aload_n (q := 9) dX9_read_8 rfl rfl ?_
  refine r_get (q := 12) (kk := 25) h_5.m rfl wi_RX9 (by decide) rfl fk_X9_87 rfl dX9_read_9 rfl ?_
  rw [nuR_25]
  refine r_if_eq (t := 29) (q := 15) dX9_read_12 rfl rfl (fun c12 => ?_) (fun c12 => ?_)
  · refine r_iconst (v := nI 0) (q := 30) dX9_read_29 (by decide) rfl ?_
    refine r_istore_n (q := 31) dX9_read_30 (Nat.le_of_ble_eq_true rfl) rfl rfl ?_
    show AW _ (_, _, _, _, _, _, _, _, _) _ _ _ _ [some _, some _] _ _
    exact okp (bI_eq0.mp c12) _ h_5
  · refine r_aload_n (q := 16) dX9_read_15 rfl rfl ?_
    refine r_aload_n (q := 17) dX9_read_16 rfl rfl ?_
    refine r_get (q := 20) (kk := 23) h_5.m rfl wi_RX9 (by decide) rfl fk_X9_81 rfl dX9_read_17 rfl ?_
    rw [nuR_23]
    refine r_p9 (q := 23) (kk := 10) (j := 10) h_5 (by decide) rfl fk_X9_41 dX9_read_20 rfl fun M_20 h_20 => ?_
    refine r_aload_n (q := 24) dX9_read_23 rfl rfl ?_
    refine r_iconst (v := nI 1) (q := 25) dX9_read_24 (by decide) rfl ?_
    refine r_cV (q := 28) (As := [.int _]) wc_X9_96 rfl im_X9_no se_X9_no h_20.m rfl rfl (Nat.le_of_ble_eq_true rfl) (Nat.le_of_eq (Nat.zero_add _)) (Nat.le_of_eq (Nat.zero_add _)) dX9_read_25 rfl rfl (s_X9_no h_20 fun M_25 h_25 => ?_)
    refine r_iret dX9_read_28 ?_
    exact hW (bI_ne c12) _ h_25
end W65
