/-! THE MODEL: an hour goes by; changes kept -/
section W55
variable {G : En} {Λ : Ob → Nat} {ρ : Me} {μ : Mg} {M : Me} {d : Nat} {Q : Option Value → Me → Prop} {QX : String → Me → Prop} {S : St} {F : Nat → Nat}
theorem cF_uP {F : Nat → Nat} {p w x j : Nat} (hp : p < 4) (hw : w < 3) (hj : j < 92 ∨ 110 ≤ j) : uP F p w x j = F j := if_neg (by omega)
theorem pF_uPs {F : Nat → Nat} {p w x : Nat} : pF (uP F p w x) p w = x := if_pos rfl
/-- what comes is well formed -/
def HN (F : Nat → Nat) : Prop := F 2 ≤ 140 ∧ (∀ i, i < F 2 → 1 ≤ F (280 + i) / 1000000 ∧ F (280 + i) / 1000000 ≤ 6 ∧ F (280 + i) % 1000000 / 512 % 8 ≠ 0 ∧ F (280 + i) % 1000000 / 512 % 8 ≤ 4) ∧ ∀ p, p < 4 → pF F p 2 < 2 ^ 28
def hrA (F0 F : Nat → Nat) (k : Nat) : Nat → Nat := uN (uN (uN F (280 + k) 0) (280 + F 2) (1000000 * (F0 (280 + k) / 1000000 - 1) + F0 (280 + k) % 1000000)) 2 (F 2 + 1)
def hrB (F0 F : Nat → Nat) (k : Nat) : Nat → Nat := uP (sndF (uN F (280 + k) 0) (F0 (280 + k) % 1000000)) (F0 (280 + k) % 1000000 / 512 % 8 - 1) 2 (pF F (F0 (280 + k) % 1000000 / 512 % 8 - 1) 2 + 1)
def hrS (F0 F : Nat → Nat) (k : Nat) : Nat → Nat := if 1 < F0 (280 + k) / 1000000 then hrA F0 F k else hrB F0 F k
def hrF (F : Nat → Nat) : Nat → Nat := (List.range (F 2)).foldl (hrS F) (uN F 2 0)
/-- how far it has come after k of them -/
def HRI (F0 F : Nat → Nat) (k : Nat) : Prop := F 1 ≤ k ∧ F 3 ≤ k ∧ F 2 ≤ k ∧ (∀ i, k ≤ i → i < 190 → F (280 + i) = F0 (280 + i)) ∧ ∀ p, p < 4 → pF F p 2 ≤ pF F0 p 2 + k
theorem snd_hi {F : Nat → Nat} {s j : Nat} (hj : 280 ≤ j) (hj2 : j < 470) (h1 : F 1 < 170) : sndF F s j = F j := by
  rw [sndF, cF_uN (by omega), cF_uN (by omega), cF_uN (by omega), cF_uN (by omega)]
theorem HRI.a {F0 F : Nat → Nat} {k : Nat} (h : HRI F0 F k) : HRI F0 (hrA F0 F k) (k + 1) := by
  obtain ⟨h1, h3, h2, h4, h5⟩ := h
  refine ⟨?_, ?_, ?_, fun i hi hi2 => ?_, fun p hp => ?_⟩
  · rw [hrA, cF_uN (by omega), cF_uN (by omega), cF_uN (by omega)]; omega
  · rw [hrA, cF_uN (by omega), cF_uN (by omega), cF_uN (by omega)]; omega
  · rw [hrA, uN_s]; omega
  · rw [hrA, cF_uN (by omega), cF_uN (by omega), cF_uN (by omega)]; exact h4 i (by omega) hi2
  · rw [hrA, pF_uN (by omega) hp (by decide), pF_uN (by omega) hp (by decide), pF_uN (by omega) hp (by decide)]
    have := h5 p hp; omega
theorem snd_1 {F : Nat → Nat} {s : Nat} : sndF F s 1 = F 1 + 1 := by rw [sndF, cF_uN (by omega), cF_uN (by omega), uN_s]
theorem snd_3 {F : Nat → Nat} {s : Nat} : sndF F s 3 = F 3 + 1 := by rw [sndF, uN_s]
theorem HRI.b {F0 F : Nat → Nat} {k : Nat} (h : HRI F0 F k) (hk : k < 140) (he : F0 (280 + k) % 1000000 / 512 % 8 ≤ 4 ∧ F0 (280 + k) % 1000000 / 512 % 8 ≠ 0) : HRI F0 (hrB F0 F k) (k + 1) := by
  obtain ⟨h1, h3, h2, h4, h5⟩ := h
  refine ⟨?_, ?_, ?_, fun i hi hi2 => ?_, fun p hp => ?_⟩
  · rw [hrB, cF_uP (by omega) (by decide) (by omega), snd_1, cF_uN (by omega)]; omega
  · rw [hrB, cF_uP (by omega) (by decide) (by omega), snd_3, cF_uN (by omega)]; omega
  · rw [hrB, cF_uP (by omega) (by decide) (by omega), cF_snd (by omega) (by omega) (by omega), cF_uN (by omega)]; omega
  · rw [hrB, cF_uP (by omega) (by decide) (by omega), snd_hi (by omega) (by omega) (by rw [cF_uN (by omega)]; omega), cF_uN (by omega)]; exact h4 i (by omega) hi2
  · rw [hrB, pF_uP (by decide) (by decide)]
    have := h5 p hp
    split
    · rename_i e; rw [← e.1]; omega
    · rw [pF_snd hp (by decide), pF_uN (by omega) hp (by decide)]; omega
theorem s_X9_hears (h : RM G Λ ρ (sA μ 0 F) M) (hn : HN F) (h1 : F 1 = 0) (h3 : F 3 = 0) (hQ : ∀ M', RM G Λ ρ (sA μ 0 (hrF F)) M' → Q none M')  : MS G yX9_hears cX9_hears 5 none (d + 2) 0 0 [.ref (Λ (10, 0, 0))] M Q QX := by
  have loop : ∀ (m : Nat) k (M1 : Me) u1 u2, m = F 2 - k → k ≤ F 2 → RM G Λ ρ (sA μ 0 ((List.range k).foldl (hrS F) (uN F 2 0))) M1 → HRI F ((List.range k).foldl (hrS F) (uN F 2 0)) k → AW G (wX G yX9_hears cX9_hears 5 none 0 0 Q QX) (d + 2) 0 0 16 [some (.ref (Λ (10, 0, 0))), some (.int (nI (F 2))), some (.int (nI k)), u1, u2] [] M1 := by
    intro m
    induction m using Nat.strongRecOn with
    | _ m ih =>
    intro k M1 u1 u2 hm hk h1 hI
    subst hm
    have hc2 := hn.1
    refine r_iload_n (q := 17) dX9_hears_16 rfl rfl ?_
    refine r_iload_n (q := 18) dX9_hears_17 rfl rfl ?_
    refine r_icmp_ge (t := 135) (q := 21) dX9_hears_18 rfl rfl (fun c18 => ?_) (fun c18 => ?_)
    · simp (disch := omega) only [nI_leI, nI_ltI, nI_eq, nI_lt0, nI_ge0, nI_gt0, nI_le0, nI_eq0] at c18
      obtain rfl : k = F 2 := by omega
      refine r_vret dX9_hears_135 ?_
      exact hQ _ h1
    · simp (disch := omega) only [nI_leI, nI_ltI, nI_eq, nI_lt0, nI_ge0, nI_gt0, nI_le0, nI_eq0] at c18
      obtain ⟨hi1, hi3, hi2, hi4, hi5⟩ := hI
      obtain ⟨x1, x6, xe, xe4⟩ := hn.2.1 k (by omega)
      have hx := hi4 k (Nat.le_refl _) (by omega)
      have hx31 : F (280 + k) < 2 ^ 31 := by have := h.lt (i := 0) (j := 280 + k) (by decide) (by show 280 + k < 640; omega); rw [gA_s] at this; exact this
      have hp2 := hi5 ((F (280 + k) % 1000000) / 512 % 8 - 1) (by omega)
      have hp3 := hn.2.2 ((F (280 + k) % 1000000) / 512 % 8 - 1) (by omega)
      have hI2 : HRI F ((List.range k).foldl (hrS F) (uN F 2 0)) k := ⟨hi1, hi3, hi2, hi4, hi5⟩
      refine r_aload_n (q := 22) dX9_hears_21 rfl rfl ?_
      refine r_get (q := 25) (kk := 0) h1.m rfl wi_RX9 (by decide) rfl fk_X9_7 rfl dX9_hears_22 rfl ?_
      refine r_sipush (v := nI 280) (q := 28) dX9_hears_25 (by decide) rfl ?_
      refine r_iload_n (q := 29) dX9_hears_28 rfl rfl ?_
      refine r_iadd (q := 30) dX9_hears_29 rfl ?_
      rw [n_add]
      refine r_ialdM (q := 31) h1 (by decide) (by simp only [mLen]; omega) dX9_hears_30 rfl ?_
      rw [show gA (sA μ 0 ((List.range k).foldl (hrS F) (uN F 2 0))) 0 (280 + k) = F (280 + k) by rw [gA_s]; exact hx]
      refine r_ldc (q := 33) dX9_hears_31 kc_X9_192 rfl ?_
      rw [show (1000000 : Int32) = nI 1000000 from rfl]
      refine r_idiv (q := 34) dX9_hears_33 (by decide) rfl ?_
      rw [n_div (by decide) (by omega) (by decide)]
      refine r_iconst (v := nI 1) (q := 35) dX9_hears_34 (by decide) rfl ?_
      refine r_isub (q := 36) dX9_hears_35 rfl ?_
      rw [n_sub x1]
      refine r_istore_n (q := 37) dX9_hears_36 (Nat.le_of_ble_eq_true rfl) rfl rfl ?_
      show AW _ (_, _, _, _, _, _, _, _, _) _ _ _ _ [some _, some _, some _, some _, _] _ _
      refine r_aload_n (q := 38) dX9_hears_37 rfl rfl ?_
      refine r_get (q := 41) (kk := 0) h1.m rfl wi_RX9 (by decide) rfl fk_X9_7 rfl dX9_hears_38 rfl ?_
      refine r_sipush (v := nI 280) (q := 44) dX9_hears_41 (by decide) rfl ?_
      refine r_iload_n (q := 45) dX9_hears_44 rfl rfl ?_
      refine r_iadd (q := 46) dX9_hears_45 rfl ?_
      rw [n_add]
      refine r_ialdM (q := 47) h1 (by decide) (by simp only [mLen]; omega) dX9_hears_46 rfl ?_
      rw [show gA (sA μ 0 ((List.range k).foldl (hrS F) (uN F 2 0))) 0 (280 + k) = F (280 + k) by rw [gA_s]; exact hx]
      refine r_ldc (q := 49) dX9_hears_47 kc_X9_192 rfl ?_
      rw [show (1000000 : Int32) = nI 1000000 from rfl]
      refine r_irem (q := 50) dX9_hears_49 (by decide) rfl ?_
      rw [n_rem (by decide) (by omega) (by decide)]
      refine r_istore (q := 52) dX9_hears_50 (Nat.le_of_ble_eq_true rfl) rfl rfl ?_
      show AW _ (_, _, _, _, _, _, _, _, _) _ _ _ _ [some _, some _, some _, some _, some _] _ _
      refine r_aload_n (q := 53) dX9_hears_52 rfl rfl ?_
      refine r_get (q := 56) (kk := 0) h1.m rfl wi_RX9 (by decide) rfl fk_X9_7 rfl dX9_hears_53 rfl ?_
      refine r_sipush (v := nI 280) (q := 59) dX9_hears_56 (by decide) rfl ?_
      refine r_iload_n (q := 60) dX9_hears_59 rfl rfl ?_
      refine r_iadd (q := 61) dX9_hears_60 rfl ?_
      rw [n_add]
      refine r_iconst (v := nI 0) (q := 62) dX9_hears_61 (by decide) rfl ?_
      refine r_iastM (q := 63) h1 (by decide) (by simp only [mLen]; omega) (by omega) dX9_hears_62 rfl fun M_62 h1_62 => ?_
      simp only [gA_s, sA_u2] at h1_62
      refine r_iload_n (q := 64) dX9_hears_63 rfl rfl ?_
      refine r_if_le (t := 102) (q := 67) dX9_hears_64 rfl rfl (fun c64 => ?_) (fun c64 => ?_)
      · simp (disch := omega) only [nI_leI, nI_ltI, nI_eq, nI_lt0, nI_ge0, nI_gt0, nI_le0, nI_eq0] at c64
        have e : (List.range (k + 1)).foldl (hrS F) (uN F 2 0) = hrB F ((List.range k).foldl (hrS F) (uN F 2 0)) k := by rw [fold_s, hrS, if_neg (by omega)]
        refine r_aload_n (q := 103) dX9_hears_102 rfl rfl ?_
        refine r_iload (q := 105) dX9_hears_103 rfl rfl ?_
        refine r_cV (q := 108) (As := [.int _]) wc_X9_188 rfl im_X9_sounds se_X9_sounds h1_62.m rfl rfl (Nat.le_of_ble_eq_true rfl) (Nat.le_of_eq (Nat.zero_add _)) (Nat.le_of_eq (Nat.zero_add _)) dX9_hears_105 rfl rfl (s_X9_sounds h1_62 (by omega) (by rw [cF_uN (by omega)]; omega) (by rw [cF_uN (by omega)]; omega) fun M_105 h1_105 => ?_)
        try simp only [gA_s, sA_u2, gA_sN, gN_sA] at h1_105
        refine r_aload_n (q := 109) dX9_hears_108 rfl rfl ?_
        refine r_get (q := 112) (kk := 0) h1_105.m rfl wi_RX9 (by decide) rfl fk_X9_7 rfl dX9_hears_109 rfl ?_
        refine r_bipush (v := nI 92) (q := 114) dX9_hears_112 (by decide) rfl ?_
        refine r_iconst (v := nI 3) (q := 115) dX9_hears_114 (by decide) rfl ?_
        refine r_iload (q := 117) dX9_hears_115 rfl rfl ?_
        refine r_cS (q := 120) (As := [.int _]) wc_X9_208 st_X9_platformIn rfl (Nat.le_of_ble_eq_true rfl) (Nat.le_of_eq (Nat.zero_add _)) (Nat.le_of_eq (Nat.zero_add _)) dX9_hears_117 rfl rfl (s_X9_platformIn (by omega) ?_)
        obtain ⟨e1, he1⟩ : ∃ e1, (F (280 + k) % 1000000) / 512 % 8 = e1 + 1 := ⟨(F (280 + k) % 1000000) / 512 % 8 - 1, by omega⟩
        rw [he1, Nat.add_sub_cancel] at hp2 hp3
        rw [he1, eI_s]
        refine r_imul (q := 121) dX9_hears_120 rfl ?_
        rw [n_mul]
        refine r_iadd (q := 122) dX9_hears_121 rfl ?_
        rw [n_add]
        refine r_iconst (v := nI 2) (q := 123) dX9_hears_122 (by decide) rfl ?_
        refine r_iadd (q := 124) dX9_hears_123 rfl ?_
        rw [n_add]
        refine r_dup2 (q := 125) dX9_hears_124 rfl rfl rfl ?_
        refine r_ialdM (q := 126) h1_105 (by decide) (by simp only [mLen]; omega) dX9_hears_125 rfl ?_
        rw [show gA (sA μ 0 (sndF (uN ((List.range k).foldl (hrS F) (uN F 2 0)) (280 + k) 0) (F (280 + k) % 1000000))) 0 (92 + 3 * e1 + 2) = pF ((List.range k).foldl (hrS F) (uN F 2 0)) e1 2 by rw [gA_s]; exact (pF_snd (by omega) (by decide)).trans (pF_uN (by omega) (by omega) (by decide))]
        refine r_iconst (v := nI 1) (q := 127) dX9_hears_126 (by decide) rfl ?_
        refine r_iadd (q := 128) dX9_hears_127 rfl ?_
        rw [n_add]
        refine r_iastM (q := 129) h1_105 (by decide) (by simp only [mLen]; omega) (by omega) dX9_hears_128 rfl fun M_128 h1_128 => ?_
        simp only [gA_s, sA_u2] at h1_128
        replace h1_128 : RM G Λ ρ (sA μ 0 (hrB F ((List.range k).foldl (hrS F) (uN F 2 0)) k)) M_128 := by rw [hrB, he1, Nat.add_sub_cancel]; exact h1_128
        refine r_inc1 (q := 132) dX9_hears_129 rfl (Nat.le_of_ble_eq_true rfl) rfl rfl ?_
        show AW _ (_, _, _, _, _, _, _, _, _) _ _ _ _ [some _, some _, some _, some _, some _] _ _
        refine r_goto (t := 16) dX9_hears_132 rfl ?_
        exact ih (F 2 - (k + 1)) (by omega) (k + 1) _ _ _ rfl (by omega) (by rw [e]; exact h1_128) (by rw [e]; exact hI2.b (by omega) ⟨xe4, xe⟩)
      · simp (disch := omega) only [nI_leI, nI_ltI, nI_eq, nI_lt0, nI_ge0, nI_gt0, nI_le0, nI_eq0] at c64
        have e : (List.range (k + 1)).foldl (hrS F) (uN F 2 0) = hrA F ((List.range k).foldl (hrS F) (uN F 2 0)) k := by rw [fold_s, hrS, if_pos (by omega)]
        refine r_aload_n (q := 68) dX9_hears_67 rfl rfl ?_
        refine r_get (q := 71) (kk := 0) h1_62.m rfl wi_RX9 (by decide) rfl fk_X9_7 rfl dX9_hears_68 rfl ?_
        refine r_sipush (v := nI 280) (q := 74) dX9_hears_71 (by decide) rfl ?_
        refine r_aload_n (q := 75) dX9_hears_74 rfl rfl ?_
        refine r_get (q := 78) (kk := 0) h1_62.m rfl wi_RX9 (by decide) rfl fk_X9_7 rfl dX9_hears_75 rfl ?_
        refine r_iconst (v := nI 2) (q := 79) dX9_hears_78 (by decide) rfl ?_
        refine r_ialdM (q := 80) h1_62 (by decide) (by simp only [mLen]; omega) dX9_hears_79 rfl ?_
        rw [show gA (sA μ 0 (uN ((List.range k).foldl (hrS F) (uN F 2 0)) (280 + k) 0)) 0 (2) = ((List.range k).foldl (hrS F) (uN F 2 0)) 2 by rw [gA_s, cF_uN (by omega)]]
        refine r_iadd (q := 81) dX9_hears_80 rfl ?_
        rw [n_add]
        refine r_ldc (q := 83) dX9_hears_81 kc_X9_192 rfl ?_
        rw [show (1000000 : Int32) = nI 1000000 from rfl]
        refine r_iload_n (q := 84) dX9_hears_83 rfl rfl ?_
        refine r_imul (q := 85) dX9_hears_84 rfl ?_
        rw [n_mul]
        refine r_iload (q := 87) dX9_hears_85 rfl rfl ?_
        refine r_iadd (q := 88) dX9_hears_87 rfl ?_
        rw [n_add]
        refine r_iastM (q := 89) h1_62 (by decide) (by simp only [mLen]; omega) (by omega) dX9_hears_88 rfl fun M_88 h1_88 => ?_
        simp only [gA_s, sA_u2] at h1_88
        refine r_aload_n (q := 90) dX9_hears_89 rfl rfl ?_
        refine r_get (q := 93) (kk := 0) h1_88.m rfl wi_RX9 (by decide) rfl fk_X9_7 rfl dX9_hears_90 rfl ?_
        refine r_iconst (v := nI 2) (q := 94) dX9_hears_93 (by decide) rfl ?_
        refine r_dup2 (q := 95) dX9_hears_94 rfl rfl rfl ?_
        refine r_ialdM (q := 96) h1_88 (by decide) (by simp only [mLen]; omega) dX9_hears_95 rfl ?_
        rw [show gA (sA μ 0 (uN (uN ((List.range k).foldl (hrS F) (uN F 2 0)) (280 + k) 0) (280 + ((List.range k).foldl (hrS F) (uN F 2 0)) 2) (1000000 * (F (280 + k) / 1000000 - 1) + (F (280 + k) % 1000000)))) 0 (2) = ((List.range k).foldl (hrS F) (uN F 2 0)) 2 by rw [gA_s, cF_uN (by omega), cF_uN (by omega)]]
        refine r_iconst (v := nI 1) (q := 97) dX9_hears_96 (by decide) rfl ?_
        refine r_iadd (q := 98) dX9_hears_97 rfl ?_
        rw [n_add]
        refine r_iastM (q := 99) h1_88 (by decide) (by simp only [mLen]; omega) (by omega) dX9_hears_98 rfl fun M_98 h1_98 => ?_
        simp only [gA_s, sA_u2] at h1_98
        replace h1_98 : RM G Λ ρ (sA μ 0 (hrA F ((List.range k).foldl (hrS F) (uN F 2 0)) k)) M_98 := h1_98
        refine r_goto (t := 129) dX9_hears_99 rfl ?_
        refine r_inc1 (q := 132) dX9_hears_129 rfl (Nat.le_of_ble_eq_true rfl) rfl rfl ?_
        show AW _ (_, _, _, _, _, _, _, _, _) _ _ _ _ [some _, some _, some _, some _, some _] _ _
        refine r_goto (t := 16) dX9_hears_132 rfl ?_
        exact ih (F 2 - (k + 1)) (by omega) (k + 1) _ _ _ rfl (by omega) (by rw [e]; exact h1_98) (by rw [e]; exact hI2.a)
  refine MS.of (by decide) (by simp [Value.category]) (Nat.le_of_ble_eq_true rfl) ?_
  show AW _ (_, _, _, _, _, _, _, _, _) _ _ _ _ [some _, _, _, _, _] _ _
  refine r_aload_n (q := 1) dX9_hears_0 rfl rfl ?_
  refine r_get (q := 4) (kk := 0) h.m rfl wi_RX9 (by decide) rfl fk_X9_7 rfl dX9_hears_1 rfl ?_
  refine r_iconst (v := nI 2) (q := 5) dX9_hears_4 (by decide) rfl ?_
  refine r_ialdM (q := 6) h (by decide) (by simp only [mLen]; omega) dX9_hears_5 rfl ?_
  rw [gA_s]
  refine r_istore_n (q := 7) dX9_hears_6 (Nat.le_of_ble_eq_true rfl) rfl rfl ?_
  show AW _ (_, _, _, _, _, _, _, _, _) _ _ _ _ [some _, some _, _, _, _] _ _
  refine r_aload_n (q := 8) dX9_hears_7 rfl rfl ?_
  refine r_get (q := 11) (kk := 0) h.m rfl wi_RX9 (by decide) rfl fk_X9_7 rfl dX9_hears_8 rfl ?_
  refine r_iconst (v := nI 2) (q := 12) dX9_hears_11 (by decide) rfl ?_
  refine r_iconst (v := nI 0) (q := 13) dX9_hears_12 (by decide) rfl ?_
  refine r_iastM (q := 14) h (by decide) (by simp only [mLen]; omega) (x := 0) (by decide) dX9_hears_13 rfl fun M_13 h_13 => ?_
  simp only [gA_s, sA_u2] at h_13
  refine r_iconst (v := nI 0) (q := 15) dX9_hears_14 (by decide) rfl ?_
  refine r_istore_n (q := 16) dX9_hears_15 (Nat.le_of_ble_eq_true rfl) rfl rfl ?_
  show AW _ (_, _, _, _, _, _, _, _, _) _ _ _ _ [some _, some _, some _, _, _] _ _
  exact loop _ 0 _ none none rfl (Nat.zero_le _) h_13 ⟨by show uN F 2 0 1 ≤ 0; rw [cF_uN (by decide), h1]; omega, by show uN F 2 0 3 ≤ 0; rw [cF_uN (by decide), h3]; omega, by show uN F 2 0 2 ≤ 0; rw [uN_s]; omega, fun i _ _ => cF_uN (by omega), fun p hp => by show pF (uN F 2 0) p 2 ≤ _; rw [pF_uN (by omega) hp (by decide)]; omega⟩
def gwA (F : Nat → Nat) (w e : Nat) : Nat → Nat := uN (uN F 7 (F 7 + w)) 8 (F 8 + e)
def gwL (F : Nat → Nat) (l : Nat) : Nat → Nat := uL (uL (gwA F 1 0) l 6 (lF F l 6 + 1)) l 4 (lF F l 4 + 3)
def gwF (F : Nat → Nat) (p : Int32) : Nat → Nat := if p = -1 then gwA F 0 0 else if p = -2 then gwA F 0 1 else gwL F p.toNatClampNeg
def rsT (F : Nat → Nat) (l : Nat) : Nat → Nat := if 0 < lF F l 5 then uL F l 5 (lF F l 5 - 1) else uL F l 3 (if 20 < lF F l 3 + 2 then 20 else lF F l 3 + 2)
def rsS (F : Nat → Nat) (l : Nat) : Nat → Nat := uL (rsT F l) l 9 0
def rsF (F : Nat → Nat) (k : Nat) : Nat → Nat := (List.range k).foldl rsS F
def zrF (F : Nat → Nat) (a b : Nat) : Nat → Nat := fun j => if a ≤ j ∧ j < b then 0 else F j
def gzF (F : Nat → Nat) : Nat → Nat := zrF (zrF F 110 280) 470 640
def gnF (F : Nat → Nat) (p : Int32) : Nat → Nat := uN (uN (uN (gzF (rsF (gwF F p) 7)) 1 0) 3 0) 0 (F 0 + 1)
def gbF (F : Nat → Nat) (p : Int32) : Nat → Nat := hrF (gnF F p)
theorem zrF_0 {F : Nat → Nat} {a : Nat} : zrF F a a = F := by funext j; unfold zrF; rw [if_neg (by omega)]
theorem zrF_s {F : Nat → Nat} {a k : Nat} (h : a ≤ k) : uN (zrF F a k) k 0 = zrF F a (k + 1) := by
  funext j; unfold uN zrF
  by_cases e : j = k
  · rw [if_pos e, if_pos (by omega)]
  · rw [if_neg e]
    by_cases e2 : a ≤ j ∧ j < k
    · rw [if_pos e2, if_pos (by omega)]
    · rw [if_neg e2, if_neg (by omega)]
theorem gwA_l {F : Nat → Nat} {w e l i : Nat} (hl : l < 7) (hi : i < 10) : lF (gwA F w e) l i = lF F l i := by rw [gwA, lF_uN (by omega) hl hi, lF_uN (by omega) hl hi]
theorem gwA_c {F : Nat → Nat} {w e j : Nat} (h7 : j ≠ 7) (h8 : j ≠ 8) : gwA F w e j = F j := by rw [gwA, cF_uN h8, cF_uN h7]
/-- a line that the way may go to, or none -/
def okP (p : Int32) : Prop := p = -1 ∨ p = -2 ∨ ∃ l, l < 7 ∧ p = nI l
theorem nI_m12 : ∀ l : Nat, l < 7 → nI l ≠ -1 ∧ nI l ≠ -2 := by decide
theorem gw_1 {F : Nat → Nat} : gwF F (-1) = gwA F 0 0 := if_pos rfl
theorem gw_2 {F : Nat → Nat} : gwF F (-2) = gwA F 0 1 := (if_neg (by decide)).trans (if_pos rfl)
theorem gw_l {F : Nat → Nat} {l : Nat} (hl : l < 7) : gwF F (nI l) = gwL F l := by rw [gwF, if_neg (nI_m12 l hl).1, if_neg (nI_m12 l hl).2, nI_c7 (by omega)]
theorem gw_c {F : Nat → Nat} {p : Int32} (hp : okP p) {j : Nat} (hj : j < 16 ∨ 92 ≤ j) (h7 : j ≠ 7) (h8 : j ≠ 8) : gwF F p j = F j := by
  rcases hp with rfl | rfl | ⟨l, hl, rfl⟩
  · rw [gw_1]; exact gwA_c h7 h8
  · rw [gw_2]; exact gwA_c h7 h8
  · rw [gw_l hl, gwL, cF_uL2 (by decide) hl hj, cF_uL2 (by decide) hl hj]; exact gwA_c h7 h8
theorem gw_l3 {F : Nat → Nat} {p : Int32} (hp : okP p) {l w : Nat} (hl : l < 7) (hw : w < 10) (h4 : w ≠ 4) (h6 : w ≠ 6) : lF (gwF F p) l w = lF F l w := by
  rcases hp with rfl | rfl | ⟨l', hl', rfl⟩
  · rw [gw_1]; exact gwA_l hl hw
  · rw [gw_2]; exact gwA_l hl hw
  · rw [gw_l hl', gwL, lF_uL (by decide) hw, if_neg (by omega), lF_uL (by decide) hw, if_neg (by omega)]; exact gwA_l hl hw
theorem rsS_c {F : Nat → Nat} {l j : Nat} (hl : l < 7) (hj : j < 16 ∨ 92 ≤ j) : rsS F l j = F j := by
  rw [rsS, cF_uL2 (by decide) hl hj, rsT]
  split
  · exact cF_uL2 (by decide) hl hj
  · exact cF_uL2 (by decide) hl hj
theorem rsS_l {F : Nat → Nat} {l l' w : Nat} (hw : w < 10) (h : l' ≠ l) : lF (rsS F l) l' w = lF F l' w := by
  rw [rsS, lF_uL (by decide) hw, if_neg (by omega), rsT]
  split
  · rw [lF_uL (by decide) hw, if_neg (by omega)]
  · rw [lF_uL (by decide) hw, if_neg (by omega)]
theorem rsF_s {F : Nat → Nat} {k : Nat} : rsF F (k + 1) = rsS (rsF F k) k := fold_s
theorem rsF_c {F : Nat → Nat} {j : Nat} (hj : j < 16 ∨ 92 ≤ j) : ∀ k, k ≤ 7 → rsF F k j = F j
  | 0, _ => rfl
  | k + 1, hk => by rw [rsF_s, rsS_c (by omega) hj]; exact rsF_c hj k (by omega)
theorem rsF_l {F : Nat → Nat} {l w : Nat} (hw : w < 10) : ∀ k, k ≤ l → lF (rsF F k) l w = lF F l w
  | 0, _ => rfl
  | k + 1, hk => by rw [rsF_s, rsS_l hw (by omega)]; exact rsF_l hw k (by omega)
theorem gz_c {F : Nat → Nat} {j : Nat} (hj : j < 110 ∨ (280 ≤ j ∧ j < 470)) : gzF F j = F j := by
  rw [gzF, zrF, if_neg (by omega), zrF, if_neg (by omega)]
theorem gn_c {F : Nat → Nat} {p : Int32} (hp : okP p) {j : Nat} (hj : (92 ≤ j ∧ j < 110) ∨ (280 ≤ j ∧ j < 470) ∨ (j < 16 ∧ j ≠ 0 ∧ j ≠ 1 ∧ j ≠ 3 ∧ j ≠ 7 ∧ j ≠ 8)) : gnF F p j = F j := by
  rw [gnF, cF_uN (by omega), cF_uN (by omega), cF_uN (by omega), gz_c (by omega), rsF_c (by omega) 7 (by omega), gw_c hp (by omega) (by omega) (by omega)]
theorem gn_H {F : Nat → Nat} {p : Int32} (hp : okP p) (h : HN F) : HN (gnF F p) ∧ gnF F p 1 = 0 ∧ gnF F p 3 = 0 := by
  have e2 : gnF F p 2 = F 2 := gn_c hp (by omega)
  refine ⟨⟨by rw [e2]; exact h.1, fun i hi => ?_, fun q hq => ?_⟩, ?_, ?_⟩
  · rw [e2] at hi
    have := h.1
    rw [gn_c hp (by omega)]; exact h.2.1 i hi
  · show gnF F p (92 + 3 * q + 2) < _
    rw [gn_c hp (by omega)]; exact h.2.2 q hq
  · rw [gnF, cF_uN (by omega), cF_uN (by omega), uN_s]
  · rw [gnF, cF_uN (by omega), uN_s]
theorem s_X9_goesBy (h : RM G Λ ρ (sA μ 0 F) M) (hn : HN F) (hc1 : F 1 < 170) (htl : ∀ i, i < F 1 → tol F i < 7) (h0 : F 0 < 2 ^ 28) (h7 : F 7 < 2 ^ 28) (h8 : F 8 < 2 ^ 28) (h3 : ∀ l, l < 7 → lF F l 3 < 2 ^ 28) (h46 : ∀ l, l < 7 → lF F l 4 < 2 ^ 28 ∧ lF F l 6 < 2 ^ 28) (hok : okP (mWv F (mBest F))) (hQ : ∀ M', RM G Λ ρ (sA μ 0 (gbF F (mWv F (mBest F)))) M' → Q (some (.int (mWv F (mBest F)))) M')  : MS G yX9_goesBy cX9_goesBy 4 (some .int) (d + 3) 0 0 [.ref (Λ (10, 0, 0))] M Q QX := by
  have stage : ∀ (p : Int32) (u1 : Option Value), okP p → (∀ M', RM G Λ ρ (sA μ 0 (gbF F p)) M' → Q (some (.int p)) M') → ∀ (u3 : Option Value) (M1 : Me), RM G Λ ρ (sA μ 0 (gwF F p)) M1 → AW G (wX G yX9_goesBy cX9_goesBy 4 (some .int) 0 0 Q QX) (d + 3) 0 0 85 [some (.ref (Λ (10, 0, 0))), u1, some (.int p), u3] [] M1 := by
    intro p u1 hp hQ1
    have loop3 : ∀ (m : Nat) k (M1 : Me), m = 640 - k → 470 ≤ k → k ≤ 640 → RM G Λ ρ (sA μ 0 (zrF (zrF (rsF (gwF F p) 7) 110 280) 470 k)) M1 → AW G (wX G yX9_goesBy cX9_goesBy 4 (some .int) 0 0 Q QX) (d + 3) 0 0 192 [some (.ref (Λ (10, 0, 0))), u1, some (.int p), some (.int (nI k))] [] M1 := by
      intro m
      induction m using Nat.strongRecOn with
      | _ m ih =>
      intro k M1 hm hk hk2 h1
      subst hm
      refine r_iload_n (q := 193) dX9_goesBy_192 rfl rfl ?_
      refine r_sipush (v := nI 640) (q := 196) dX9_goesBy_193 (by decide) rfl ?_
      refine r_icmp_ge (t := 212) (q := 199) dX9_goesBy_196 rfl rfl (fun c196 => ?_) (fun c196 => ?_)
      · simp (disch := omega) only [nI_leI, nI_ltI, nI_eq, nI_lt0, nI_ge0, nI_gt0, nI_le0, nI_eq0] at c196
        obtain rfl : k = 640 := by omega
        refine r_aload_n (q := 213) dX9_goesBy_212 rfl rfl ?_
        refine r_get (q := 216) (kk := 0) h1.m rfl wi_RX9 (by decide) rfl fk_X9_7 rfl dX9_goesBy_213 rfl ?_
        refine r_iconst (v := nI 1) (q := 217) dX9_goesBy_216 (by decide) rfl ?_
        refine r_iconst (v := nI 0) (q := 218) dX9_goesBy_217 (by decide) rfl ?_
        refine r_iastM (q := 219) h1 (by decide) (by simp only [mLen]; omega) (by omega) dX9_goesBy_218 rfl fun M_218 h1_218 => ?_
        simp only [gA_s, sA_u2] at h1_218
        refine r_aload_n (q := 220) dX9_goesBy_219 rfl rfl ?_
        refine r_get (q := 223) (kk := 0) h1_218.m rfl wi_RX9 (by decide) rfl fk_X9_7 rfl dX9_goesBy_220 rfl ?_
        refine r_iconst (v := nI 3) (q := 224) dX9_goesBy_223 (by decide) rfl ?_
        refine r_iconst (v := nI 0) (q := 225) dX9_goesBy_224 (by decide) rfl ?_
        refine r_iastM (q := 226) h1_218 (by decide) (by simp only [mLen]; omega) (by omega) dX9_goesBy_225 rfl fun M_225 h1_225 => ?_
        simp only [gA_s, sA_u2] at h1_225
        refine r_aload_n (q := 227) dX9_goesBy_226 rfl rfl ?_
        refine r_get (q := 230) (kk := 0) h1_225.m rfl wi_RX9 (by decide) rfl fk_X9_7 rfl dX9_goesBy_227 rfl ?_
        refine r_iconst (v := nI 0) (q := 231) dX9_goesBy_230 (by decide) rfl ?_
        refine r_dup2 (q := 232) dX9_goesBy_231 rfl rfl rfl ?_
        refine r_ialdM (q := 233) h1_225 (by decide) (by simp only [mLen]; omega) dX9_goesBy_232 rfl ?_
        rw [show gA (sA μ 0 (uN (uN (zrF (zrF (rsF (gwF F p) 7) 110 280) 470 640) 1 0) 3 0)) 0 0 = F 0 by rw [gA_s, cF_uN (by omega), cF_uN (by omega)]; exact (gz_c (by omega)).trans ((rsF_c (by omega) 7 (by omega)).trans (gw_c hp (by omega) (by omega) (by omega)))]
        refine r_iconst (v := nI 1) (q := 234) dX9_goesBy_233 (by decide) rfl ?_
        refine r_iadd (q := 235) dX9_goesBy_234 rfl ?_
        rw [n_add]
        refine r_iastM (q := 236) h1_225 (by decide) (by simp only [mLen]; omega) (by omega) dX9_goesBy_235 rfl fun M_235 h1_235 => ?_
        simp only [gA_s, sA_u2] at h1_235
        replace h1_235 : RM G Λ ρ (sA μ 0 (gnF F p)) M_235 := h1_235
        refine r_aload_n (q := 237) dX9_goesBy_236 rfl rfl ?_
        refine r_cV (q := 240) (As := []) wc_X9_244 rfl im_X9_hears se_X9_hears h1_235.m rfl rfl (Nat.le_of_ble_eq_true rfl) (Nat.le_of_eq (Nat.zero_add _)) (Nat.le_of_eq (Nat.zero_add _)) dX9_goesBy_237 rfl rfl (s_X9_hears h1_235 (gn_H hp hn).1 (gn_H hp hn).2.1 (gn_H hp hn).2.2 fun M_237 h1_237 => ?_)
        try simp only [gA_s, sA_u2, gA_sN, gN_sA] at h1_237
        refine r_iload_n (q := 241) dX9_goesBy_240 rfl rfl ?_
        refine r_iret dX9_goesBy_241 ?_
        exact hQ1 _ h1_237
      · simp (disch := omega) only [nI_leI, nI_ltI, nI_eq, nI_lt0, nI_ge0, nI_gt0, nI_le0, nI_eq0] at c196
        refine r_aload_n (q := 200) dX9_goesBy_199 rfl rfl ?_
        refine r_get (q := 203) (kk := 0) h1.m rfl wi_RX9 (by decide) rfl fk_X9_7 rfl dX9_goesBy_200 rfl ?_
        refine r_iload_n (q := 204) dX9_goesBy_203 rfl rfl ?_
        refine r_iconst (v := nI 0) (q := 205) dX9_goesBy_204 (by decide) rfl ?_
        refine r_iastM (q := 206) h1 (by decide) (by simp only [mLen]; omega) (x := 0) (by decide) dX9_goesBy_205 rfl fun M_205 h1_205 => ?_
        simp only [gA_s, sA_u2] at h1_205
        rw [zrF_s hk] at h1_205
        refine r_inc1 (q := 209) dX9_goesBy_206 rfl (Nat.le_of_ble_eq_true rfl) rfl rfl ?_
        show AW _ (_, _, _, _, _, _, _, _, _) _ _ _ _ [some _, _, some _, some _] _ _
        refine r_goto (t := 192) dX9_goesBy_209 rfl ?_
        exact ih (640 - (k + 1)) (by omega) (k + 1) _ rfl (by omega) (by omega) h1_205
    have loop2 : ∀ (m : Nat) k (M1 : Me), m = 280 - k → 110 ≤ k → k ≤ 280 → RM G Λ ρ (sA μ 0 (zrF (rsF (gwF F p) 7) 110 k)) M1 → AW G (wX G yX9_goesBy cX9_goesBy 4 (some .int) 0 0 Q QX) (d + 3) 0 0 168 [some (.ref (Λ (10, 0, 0))), u1, some (.int p), some (.int (nI k))] [] M1 := by
      intro m
      induction m using Nat.strongRecOn with
      | _ m ih =>
      intro k M1 hm hk hk2 h1
      subst hm
      refine r_iload_n (q := 169) dX9_goesBy_168 rfl rfl ?_
      refine r_sipush (v := nI 280) (q := 172) dX9_goesBy_169 (by decide) rfl ?_
      refine r_icmp_ge (t := 188) (q := 175) dX9_goesBy_172 rfl rfl (fun c172 => ?_) (fun c172 => ?_)
      · simp (disch := omega) only [nI_leI, nI_ltI, nI_eq, nI_lt0, nI_ge0, nI_gt0, nI_le0, nI_eq0] at c172
        obtain rfl : k = 280 := by omega
        refine r_sipush (v := nI 470) (q := 191) dX9_goesBy_188 (by decide) rfl ?_
        refine r_istore_n (q := 192) dX9_goesBy_191 (Nat.le_of_ble_eq_true rfl) rfl rfl ?_
        show AW _ (_, _, _, _, _, _, _, _, _) _ _ _ _ [some _, _, some _, some _] _ _
        exact loop3 _ 470 _ rfl (by omega) (by omega) (by rw [zrF_0]; exact h1)
      · simp (disch := omega) only [nI_leI, nI_ltI, nI_eq, nI_lt0, nI_ge0, nI_gt0, nI_le0, nI_eq0] at c172
        refine r_aload_n (q := 176) dX9_goesBy_175 rfl rfl ?_
        refine r_get (q := 179) (kk := 0) h1.m rfl wi_RX9 (by decide) rfl fk_X9_7 rfl dX9_goesBy_176 rfl ?_
        refine r_iload_n (q := 180) dX9_goesBy_179 rfl rfl ?_
        refine r_iconst (v := nI 0) (q := 181) dX9_goesBy_180 (by decide) rfl ?_
        refine r_iastM (q := 182) h1 (by decide) (by simp only [mLen]; omega) (x := 0) (by decide) dX9_goesBy_181 rfl fun M_181 h1_181 => ?_
        simp only [gA_s, sA_u2] at h1_181
        rw [zrF_s hk] at h1_181
        refine r_inc1 (q := 185) dX9_goesBy_182 rfl (Nat.le_of_ble_eq_true rfl) rfl rfl ?_
        show AW _ (_, _, _, _, _, _, _, _, _) _ _ _ _ [some _, _, some _, some _] _ _
        refine r_goto (t := 168) dX9_goesBy_185 rfl ?_
        exact ih (280 - (k + 1)) (by omega) (k + 1) _ rfl (by omega) (by omega) h1_181
    have loop1 : ∀ (m : Nat) k (M1 : Me), m = 7 - k → k ≤ 7 → RM G Λ ρ (sA μ 0 (rsF (gwF F p) k)) M1 → AW G (wX G yX9_goesBy cX9_goesBy 4 (some .int) 0 0 Q QX) (d + 3) 0 0 87 [some (.ref (Λ (10, 0, 0))), u1, some (.int p), some (.int (nI k))] [] M1 := by
      intro m
      induction m using Nat.strongRecOn with
      | _ m ih =>
      intro k M1 hm hk h1
      subst hm
      refine r_iload_n (q := 88) dX9_goesBy_87 rfl rfl ?_
      refine r_bipush (v := nI 7) (q := 90) dX9_goesBy_88 (by decide) rfl ?_
      refine r_icmp_ge (t := 165) (q := 93) dX9_goesBy_90 rfl rfl (fun c90 => ?_) (fun c90 => ?_)
      · simp (disch := omega) only [nI_leI, nI_ltI, nI_eq, nI_lt0, nI_ge0, nI_gt0, nI_le0, nI_eq0] at c90
        obtain rfl : k = 7 := by omega
        refine r_bipush (v := nI 110) (q := 167) dX9_goesBy_165 (by decide) rfl ?_
        refine r_istore_n (q := 168) dX9_goesBy_167 (Nat.le_of_ble_eq_true rfl) rfl rfl ?_
        show AW _ (_, _, _, _, _, _, _, _, _) _ _ _ _ [some _, _, some _, some _] _ _
        exact loop2 _ 110 _ rfl (by omega) (by omega) (by rw [zrF_0]; exact h1)
      · simp (disch := omega) only [nI_leI, nI_ltI, nI_eq, nI_lt0, nI_ge0, nI_gt0, nI_le0, nI_eq0] at c90
        refine r_aload_n (q := 94) dX9_goesBy_93 rfl rfl ?_
        refine r_iload_n (q := 95) dX9_goesBy_94 rfl rfl ?_
        refine r_iconst (v := nI 5) (q := 96) dX9_goesBy_95 (by decide) rfl ?_
        refine r_cV (q := 99) (As := [.int _, .int _]) wc_X9_108 rfl im_X9_lv se_X9_lv h1.m rfl rfl (Nat.le_of_ble_eq_true rfl) (Nat.le_of_eq (Nat.zero_add _)) (Nat.le_of_eq (Nat.zero_add _)) dX9_goesBy_96 rfl rfl (x_lv h1 (by omega) (by decide) ?_)
        intro b96
        simp only [gA_s] at b96 ⊢
        refine r_if_le (t := 119) (q := 102) dX9_goesBy_99 rfl rfl (fun c99 => ?_) (fun c99 => ?_)
        · simp (disch := omega) only [nI_leI, nI_ltI, nI_eq, nI_lt0, nI_ge0, nI_gt0, nI_le0, nI_eq0] at c99
          refine r_aload_n (q := 120) dX9_goesBy_119 rfl rfl ?_
          refine r_iload_n (q := 121) dX9_goesBy_120 rfl rfl ?_
          refine r_iconst (v := nI 3) (q := 122) dX9_goesBy_121 (by decide) rfl ?_
          refine r_aload_n (q := 123) dX9_goesBy_122 rfl rfl ?_
          refine r_iload_n (q := 124) dX9_goesBy_123 rfl rfl ?_
          refine r_iconst (v := nI 3) (q := 125) dX9_goesBy_124 (by decide) rfl ?_
          refine r_cV (q := 128) (As := [.int _, .int _]) wc_X9_108 rfl im_X9_lv se_X9_lv h1.m rfl rfl (Nat.le_of_ble_eq_true rfl) (Nat.le_of_eq (Nat.zero_add _)) (Nat.le_of_eq (Nat.zero_add _)) dX9_goesBy_125 rfl rfl (x_lv h1 (by omega) (by decide) ?_)
          intro b125
          simp only [gA_s] at b125 ⊢
          have k3 : lF (rsF (gwF F p) k) k 3 < 2 ^ 28 := by rw [rsF_l (by decide) k (Nat.le_refl _), gw_l3 hp (by omega) (by decide) (by decide) (by decide)]; exact h3 k (by omega)
          refine r_iconst (v := nI 2) (q := 129) dX9_goesBy_128 (by decide) rfl ?_
          refine r_iadd (q := 130) dX9_goesBy_129 rfl ?_
          rw [n_add]
          refine r_bipush (v := nI 20) (q := 132) dX9_goesBy_130 (by decide) rfl ?_
          refine r_icmp_le (t := 140) (q := 135) dX9_goesBy_132 rfl rfl (fun c132 => ?_) (fun c132 => ?_)
          · simp (disch := omega) only [nI_leI, nI_ltI, nI_eq, nI_lt0, nI_ge0, nI_gt0, nI_le0, nI_eq0] at c132
            have e : rsF (gwF F p) (k + 1) = uL (uL (rsF (gwF F p) k) k 3 (lF (rsF (gwF F p) k) k 3 + 2)) k 9 0 := by rw [rsF_s, rsS, rsT, if_neg (by omega), if_neg (by omega)]
            refine r_aload_n (q := 141) dX9_goesBy_140 rfl rfl ?_
            refine r_iload_n (q := 142) dX9_goesBy_141 rfl rfl ?_
            refine r_iconst (v := nI 3) (q := 143) dX9_goesBy_142 (by decide) rfl ?_
            refine r_cV (q := 146) (As := [.int _, .int _]) wc_X9_108 rfl im_X9_lv se_X9_lv h1.m rfl rfl (Nat.le_of_ble_eq_true rfl) (Nat.le_of_eq (Nat.zero_add _)) (Nat.le_of_eq (Nat.zero_add _)) dX9_goesBy_143 rfl rfl (x_lv h1 (by omega) (by decide) ?_)
            intro b143
            simp only [gA_s] at b143 ⊢
            refine r_iconst (v := nI 2) (q := 147) dX9_goesBy_146 (by decide) rfl ?_
            refine r_iadd (q := 148) dX9_goesBy_147 rfl ?_
            rw [n_add]
            refine r_cV (q := 151) (As := [.int _, .int _, .int _]) wc_X9_104 rfl im_X9_ll se_X9_ll h1.m rfl rfl (Nat.le_of_ble_eq_true rfl) (Nat.le_of_eq (Nat.zero_add _)) (Nat.le_of_eq (Nat.zero_add _)) dX9_goesBy_148 rfl rfl (x_ll h1 rfl (by omega) (by decide) (by omega) fun M_148 h1_148 => ?_)
            try simp only [gA_s, sA_u2, gA_sN, gN_sA] at h1_148
            refine r_aload_n (q := 152) dX9_goesBy_151 rfl rfl ?_
            refine r_iload_n (q := 153) dX9_goesBy_152 rfl rfl ?_
            refine r_bipush (v := nI 9) (q := 155) dX9_goesBy_153 (by decide) rfl ?_
            refine r_iconst (v := nI 0) (q := 156) dX9_goesBy_155 (by decide) rfl ?_
            refine r_cV (q := 159) (As := [.int _, .int _, .int _]) wc_X9_104 rfl im_X9_ll se_X9_ll h1_148.m rfl rfl (Nat.le_of_ble_eq_true rfl) (Nat.le_of_eq (Nat.zero_add _)) (Nat.le_of_eq (Nat.zero_add _)) dX9_goesBy_156 rfl rfl (x_ll h1_148 (x := 0) rfl (by omega) (by decide) (by omega) fun M_156 h1_156 => ?_)
            try simp only [gA_s, sA_u2, gA_sN, gN_sA] at h1_156
            refine r_inc1 (q := 162) dX9_goesBy_159 rfl (Nat.le_of_ble_eq_true rfl) rfl rfl ?_
            show AW _ (_, _, _, _, _, _, _, _, _) _ _ _ _ [some _, _, some _, some _] _ _
            refine r_goto (t := 87) dX9_goesBy_162 rfl ?_
            exact ih (7 - (k + 1)) (by omega) (k + 1) _ rfl (by omega) (by rw [e]; exact h1_156)
          · simp (disch := omega) only [nI_leI, nI_ltI, nI_eq, nI_lt0, nI_ge0, nI_gt0, nI_le0, nI_eq0] at c132
            have e : rsF (gwF F p) (k + 1) = uL (uL (rsF (gwF F p) k) k 3 20) k 9 0 := by rw [rsF_s, rsS, rsT, if_neg (by omega), if_pos (by omega)]
            refine r_bipush (v := nI 20) (q := 137) dX9_goesBy_135 (by decide) rfl ?_
            refine r_goto (t := 148) dX9_goesBy_137 rfl ?_
            refine r_cV (q := 151) (As := [.int _, .int _, .int _]) wc_X9_104 rfl im_X9_ll se_X9_ll h1.m rfl rfl (Nat.le_of_ble_eq_true rfl) (Nat.le_of_eq (Nat.zero_add _)) (Nat.le_of_eq (Nat.zero_add _)) dX9_goesBy_148 rfl rfl (x_ll h1 rfl (by omega) (by decide) (by omega) fun M_148 h1_148 => ?_)
            try simp only [gA_s, sA_u2, gA_sN, gN_sA] at h1_148
            refine r_aload_n (q := 152) dX9_goesBy_151 rfl rfl ?_
            refine r_iload_n (q := 153) dX9_goesBy_152 rfl rfl ?_
            refine r_bipush (v := nI 9) (q := 155) dX9_goesBy_153 (by decide) rfl ?_
            refine r_iconst (v := nI 0) (q := 156) dX9_goesBy_155 (by decide) rfl ?_
            refine r_cV (q := 159) (As := [.int _, .int _, .int _]) wc_X9_104 rfl im_X9_ll se_X9_ll h1_148.m rfl rfl (Nat.le_of_ble_eq_true rfl) (Nat.le_of_eq (Nat.zero_add _)) (Nat.le_of_eq (Nat.zero_add _)) dX9_goesBy_156 rfl rfl (x_ll h1_148 (x := 0) rfl (by omega) (by decide) (by omega) fun M_156 h1_156 => ?_)
            try simp only [gA_s, sA_u2, gA_sN, gN_sA] at h1_156
            refine r_inc1 (q := 162) dX9_goesBy_159 rfl (Nat.le_of_ble_eq_true rfl) rfl rfl ?_
            show AW _ (_, _, _, _, _, _, _, _, _) _ _ _ _ [some _, _, some _, some _] _ _
            refine r_goto (t := 87) dX9_goesBy_162 rfl ?_
            exact ih (7 - (k + 1)) (by omega) (k + 1) _ rfl (by omega) (by rw [e]; exact h1_156)
        · simp (disch := omega) only [nI_leI, nI_ltI, nI_eq, nI_lt0, nI_ge0, nI_gt0, nI_le0, nI_eq0] at c99
          refine r_aload_n (q := 103) dX9_goesBy_102 rfl rfl ?_
          refine r_iload_n (q := 104) dX9_goesBy_103 rfl rfl ?_
          refine r_iconst (v := nI 5) (q := 105) dX9_goesBy_104 (by decide) rfl ?_
          refine r_aload_n (q := 106) dX9_goesBy_105 rfl rfl ?_
          refine r_iload_n (q := 107) dX9_goesBy_106 rfl rfl ?_
          refine r_iconst (v := nI 5) (q := 108) dX9_goesBy_107 (by decide) rfl ?_
          refine r_cV (q := 111) (As := [.int _, .int _]) wc_X9_108 rfl im_X9_lv se_X9_lv h1.m rfl rfl (Nat.le_of_ble_eq_true rfl) (Nat.le_of_eq (Nat.zero_add _)) (Nat.le_of_eq (Nat.zero_add _)) dX9_goesBy_108 rfl rfl (x_lv h1 (by omega) (by decide) ?_)
          intro b108
          simp only [gA_s] at b108 ⊢
          refine r_iconst (v := nI 1) (q := 112) dX9_goesBy_111 (by decide) rfl ?_
          refine r_isub (q := 113) dX9_goesBy_112 rfl ?_
          rw [n_sub (by omega)]
          have e : rsF (gwF F p) (k + 1) = uL (uL (rsF (gwF F p) k) k 5 (lF (rsF (gwF F p) k) k 5 - 1)) k 9 0 := by rw [rsF_s, rsS, rsT, if_pos (by omega)]
          refine r_cV (q := 116) (As := [.int _, .int _, .int _]) wc_X9_104 rfl im_X9_ll se_X9_ll h1.m rfl rfl (Nat.le_of_ble_eq_true rfl) (Nat.le_of_eq (Nat.zero_add _)) (Nat.le_of_eq (Nat.zero_add _)) dX9_goesBy_113 rfl rfl (x_ll h1 rfl (by omega) (by decide) (by omega) fun M_113 h1_113 => ?_)
          try simp only [gA_s, sA_u2, gA_sN, gN_sA] at h1_113
          refine r_goto (t := 151) dX9_goesBy_116 rfl ?_
          refine r_aload_n (q := 152) dX9_goesBy_151 rfl rfl ?_
          refine r_iload_n (q := 153) dX9_goesBy_152 rfl rfl ?_
          refine r_bipush (v := nI 9) (q := 155) dX9_goesBy_153 (by decide) rfl ?_
          refine r_iconst (v := nI 0) (q := 156) dX9_goesBy_155 (by decide) rfl ?_
          refine r_cV (q := 159) (As := [.int _, .int _, .int _]) wc_X9_104 rfl im_X9_ll se_X9_ll h1_113.m rfl rfl (Nat.le_of_ble_eq_true rfl) (Nat.le_of_eq (Nat.zero_add _)) (Nat.le_of_eq (Nat.zero_add _)) dX9_goesBy_156 rfl rfl (x_ll h1_113 (x := 0) rfl (by omega) (by decide) (by omega) fun M_156 h1_156 => ?_)
          try simp only [gA_s, sA_u2, gA_sN, gN_sA] at h1_156
          refine r_inc1 (q := 162) dX9_goesBy_159 rfl (Nat.le_of_ble_eq_true rfl) rfl rfl ?_
          show AW _ (_, _, _, _, _, _, _, _, _) _ _ _ _ [some _, _, some _, some _] _ _
          refine r_goto (t := 87) dX9_goesBy_162 rfl ?_
          exact ih (7 - (k + 1)) (by omega) (k + 1) _ rfl (by omega) (by rw [e]; exact h1_156)
    intro u3 M1 h1
    refine r_iconst (v := nI 0) (q := 86) dX9_goesBy_85 (by decide) rfl ?_
    refine r_istore_n (q := 87) dX9_goesBy_86 (Nat.le_of_ble_eq_true rfl) rfl rfl ?_
    show AW _ (_, _, _, _, _, _, _, _, _) _ _ _ _ [some _, _, some _, some _] _ _
    exact loop1 _ 0 _ rfl (Nat.zero_le _) h1
  refine MS.of (by decide) (by simp [Value.category]) (Nat.le_of_ble_eq_true rfl) ?_
  show AW _ (_, _, _, _, _, _, _, _, _) _ _ _ _ [some _, _, _, _] _ _
  refine r_aload_n (q := 1) dX9_goesBy_0 rfl rfl ?_
  refine r_cV (q := 4) (As := []) wc_X9_238 rfl im_X9_wayAt se_X9_wayAt h.m rfl rfl (Nat.le_of_ble_eq_true rfl) (Nat.le_of_eq (Nat.zero_add _)) (Nat.le_of_eq (Nat.zero_add _)) dX9_goesBy_1 rfl rfl (s_X9_wayAt h hc1 htl ?_)
  refine r_istore_n (q := 5) dX9_goesBy_4 (Nat.le_of_ble_eq_true rfl) rfl rfl ?_
  show AW _ (_, _, _, _, _, _, _, _, _) _ _ _ _ [some _, some _, _, _] _ _
  refine r_aload_n (q := 6) dX9_goesBy_5 rfl rfl ?_
  refine r_iload_n (q := 7) dX9_goesBy_6 rfl rfl ?_
  refine r_cV (q := 10) (As := [.int _]) wc_X9_241 rfl im_X9_wayOf se_X9_wayOf h.m rfl rfl (Nat.le_of_ble_eq_true rfl) (Nat.le_of_eq (Nat.zero_add _)) (Nat.le_of_eq (Nat.zero_add _)) dX9_goesBy_7 rfl rfl (s_X9_wayOf h (Nat.le_trans mBest_le (by omega)) ?_)
  refine r_istore_n (q := 11) dX9_goesBy_10 (Nat.le_of_ble_eq_true rfl) rfl rfl ?_
  show AW _ (_, _, _, _, _, _, _, _, _) _ _ _ _ [some _, some _, some _, _] _ _
  have hv := hok
  rcases hok with e1 | e1 | ⟨l, hl, e1⟩
  · rw [e1] at hQ ⊢
    refine r_aload_n (q := 12) dX9_goesBy_11 rfl rfl ?_
    refine r_get (q := 15) (kk := 0) h.m rfl wi_RX9 (by decide) rfl fk_X9_7 rfl dX9_goesBy_12 rfl ?_
    refine r_bipush (v := nI 7) (q := 17) dX9_goesBy_15 (by decide) rfl ?_
    refine r_dup2 (q := 18) dX9_goesBy_17 rfl rfl rfl ?_
    refine r_ialdM (q := 19) h (by decide) (by simp only [mLen]; omega) dX9_goesBy_18 rfl ?_
    rw [gA_s]
    refine r_iload_n (q := 20) dX9_goesBy_19 rfl rfl ?_
    refine r_if_lt (t := 27) (q := 23) dX9_goesBy_20 rfl rfl (fun c20 => ?_) (fun c20 => ?_)
    · refine r_iconst (v := nI 0) (q := 28) dX9_goesBy_27 (by decide) rfl ?_
      refine r_iadd (q := 29) dX9_goesBy_28 rfl ?_
      rw [n_add]
      refine r_iastM (q := 30) h (by decide) (by simp only [mLen]; omega) (by omega) dX9_goesBy_29 rfl fun M_29 h_29 => ?_
      simp only [gA_s, sA_u2] at h_29
      refine r_aload_n (q := 31) dX9_goesBy_30 rfl rfl ?_
      refine r_get (q := 34) (kk := 0) h_29.m rfl wi_RX9 (by decide) rfl fk_X9_7 rfl dX9_goesBy_31 rfl ?_
      refine r_bipush (v := nI 8) (q := 36) dX9_goesBy_34 (by decide) rfl ?_
      refine r_dup2 (q := 37) dX9_goesBy_36 rfl rfl rfl ?_
      refine r_ialdM (q := 38) h_29 (by decide) (by simp only [mLen]; omega) dX9_goesBy_37 rfl ?_
      rw [show gA (sA μ 0 (uN F 7 (F 7 + 0))) 0 8 = F 8 by rw [gA_s, cF_uN (by omega)]]
      refine r_iload_n (q := 39) dX9_goesBy_38 rfl rfl ?_
      refine r_bipush (v := (-2)) (q := 41) dX9_goesBy_39 (by decide) rfl ?_
      refine r_icmp_ne (t := 48) (q := 44) dX9_goesBy_41 rfl rfl (fun c41 => ?_) (fun c41 => ?_)
      · refine r_iconst (v := nI 0) (q := 49) dX9_goesBy_48 (by decide) rfl ?_
        refine r_iadd (q := 50) dX9_goesBy_49 rfl ?_
        rw [n_add]
        refine r_iastM (q := 51) h_29 (by decide) (by simp only [mLen]; omega) (by omega) dX9_goesBy_50 rfl fun M_50 h_50 => ?_
        simp only [gA_s, sA_u2] at h_50
        replace h_50 : RM G Λ ρ (sA μ 0 (gwA F 0 0)) M_50 := h_50
        refine r_iload_n (q := 52) dX9_goesBy_51 rfl rfl ?_
        refine r_if_lt (t := 85) (q := 55) dX9_goesBy_52 rfl rfl (fun c52 => ?_) (fun c52 => ?_)
        · refine stage _ _ (Or.inl rfl) ?_ _ _ (by rw [gw_1]; exact h_50)
          exact hQ
        · exact absurd (show (-1 : Int32) < (0 : Int32) by decide) c52
      · exact absurd c41 (show (-1 : Int32) ≠ (-2 : Int32) by decide)
    · exact absurd (show (-1 : Int32) < (0 : Int32) by decide) c20
  · rw [e1] at hQ ⊢
    refine r_aload_n (q := 12) dX9_goesBy_11 rfl rfl ?_
    refine r_get (q := 15) (kk := 0) h.m rfl wi_RX9 (by decide) rfl fk_X9_7 rfl dX9_goesBy_12 rfl ?_
    refine r_bipush (v := nI 7) (q := 17) dX9_goesBy_15 (by decide) rfl ?_
    refine r_dup2 (q := 18) dX9_goesBy_17 rfl rfl rfl ?_
    refine r_ialdM (q := 19) h (by decide) (by simp only [mLen]; omega) dX9_goesBy_18 rfl ?_
    rw [gA_s]
    refine r_iload_n (q := 20) dX9_goesBy_19 rfl rfl ?_
    refine r_if_lt (t := 27) (q := 23) dX9_goesBy_20 rfl rfl (fun c20 => ?_) (fun c20 => ?_)
    · refine r_iconst (v := nI 0) (q := 28) dX9_goesBy_27 (by decide) rfl ?_
      refine r_iadd (q := 29) dX9_goesBy_28 rfl ?_
      rw [n_add]
      refine r_iastM (q := 30) h (by decide) (by simp only [mLen]; omega) (by omega) dX9_goesBy_29 rfl fun M_29 h_29 => ?_
      simp only [gA_s, sA_u2] at h_29
      refine r_aload_n (q := 31) dX9_goesBy_30 rfl rfl ?_
      refine r_get (q := 34) (kk := 0) h_29.m rfl wi_RX9 (by decide) rfl fk_X9_7 rfl dX9_goesBy_31 rfl ?_
      refine r_bipush (v := nI 8) (q := 36) dX9_goesBy_34 (by decide) rfl ?_
      refine r_dup2 (q := 37) dX9_goesBy_36 rfl rfl rfl ?_
      refine r_ialdM (q := 38) h_29 (by decide) (by simp only [mLen]; omega) dX9_goesBy_37 rfl ?_
      rw [show gA (sA μ 0 (uN F 7 (F 7 + 0))) 0 8 = F 8 by rw [gA_s, cF_uN (by omega)]]
      refine r_iload_n (q := 39) dX9_goesBy_38 rfl rfl ?_
      refine r_bipush (v := (-2)) (q := 41) dX9_goesBy_39 (by decide) rfl ?_
      refine r_icmp_ne (t := 48) (q := 44) dX9_goesBy_41 rfl rfl (fun c41 => ?_) (fun c41 => ?_)
      · exact absurd c41 (fun g => g rfl)
      · refine r_iconst (v := nI 1) (q := 45) dX9_goesBy_44 (by decide) rfl ?_
        refine r_goto (t := 49) dX9_goesBy_45 rfl ?_
        refine r_iadd (q := 50) dX9_goesBy_49 rfl ?_
        rw [n_add]
        refine r_iastM (q := 51) h_29 (by decide) (by simp only [mLen]; omega) (by omega) dX9_goesBy_50 rfl fun M_50 h_50 => ?_
        simp only [gA_s, sA_u2] at h_50
        replace h_50 : RM G Λ ρ (sA μ 0 (gwA F 0 1)) M_50 := h_50
        refine r_iload_n (q := 52) dX9_goesBy_51 rfl rfl ?_
        refine r_if_lt (t := 85) (q := 55) dX9_goesBy_52 rfl rfl (fun c52 => ?_) (fun c52 => ?_)
        · refine stage _ _ (Or.inr (Or.inl rfl)) ?_ _ _ (by rw [gw_2]; exact h_50)
          exact hQ
        · exact absurd (show (-2 : Int32) < (0 : Int32) by decide) c52
    · exact absurd (show (-2 : Int32) < (0 : Int32) by decide) c20
  · rw [e1] at hQ ⊢
    have b6 := h46 l hl
    refine r_aload_n (q := 12) dX9_goesBy_11 rfl rfl ?_
    refine r_get (q := 15) (kk := 0) h.m rfl wi_RX9 (by decide) rfl fk_X9_7 rfl dX9_goesBy_12 rfl ?_
    refine r_bipush (v := nI 7) (q := 17) dX9_goesBy_15 (by decide) rfl ?_
    refine r_dup2 (q := 18) dX9_goesBy_17 rfl rfl rfl ?_
    refine r_ialdM (q := 19) h (by decide) (by simp only [mLen]; omega) dX9_goesBy_18 rfl ?_
    rw [gA_s]
    refine r_iload_n (q := 20) dX9_goesBy_19 rfl rfl ?_
    refine r_if_lt (t := 27) (q := 23) dX9_goesBy_20 rfl rfl (fun c20 => ?_) (fun c20 => ?_)
    · exact absurd c20 (by rw [nI_lt0 (by omega)]; exact id)
    · refine r_iconst (v := nI 1) (q := 24) dX9_goesBy_23 (by decide) rfl ?_
      refine r_goto (t := 28) dX9_goesBy_24 rfl ?_
      refine r_iadd (q := 29) dX9_goesBy_28 rfl ?_
      rw [n_add]
      refine r_iastM (q := 30) h (by decide) (by simp only [mLen]; omega) (by omega) dX9_goesBy_29 rfl fun M_29 h_29 => ?_
      simp only [gA_s, sA_u2] at h_29
      refine r_aload_n (q := 31) dX9_goesBy_30 rfl rfl ?_
      refine r_get (q := 34) (kk := 0) h_29.m rfl wi_RX9 (by decide) rfl fk_X9_7 rfl dX9_goesBy_31 rfl ?_
      refine r_bipush (v := nI 8) (q := 36) dX9_goesBy_34 (by decide) rfl ?_
      refine r_dup2 (q := 37) dX9_goesBy_36 rfl rfl rfl ?_
      refine r_ialdM (q := 38) h_29 (by decide) (by simp only [mLen]; omega) dX9_goesBy_37 rfl ?_
      rw [show gA (sA μ 0 (uN F 7 (F 7 + 1))) 0 8 = F 8 by rw [gA_s, cF_uN (by omega)]]
      refine r_iload_n (q := 39) dX9_goesBy_38 rfl rfl ?_
      refine r_bipush (v := (-2)) (q := 41) dX9_goesBy_39 (by decide) rfl ?_
      refine r_icmp_ne (t := 48) (q := 44) dX9_goesBy_41 rfl rfl (fun c41 => ?_) (fun c41 => ?_)
      · refine r_iconst (v := nI 0) (q := 49) dX9_goesBy_48 (by decide) rfl ?_
        refine r_iadd (q := 50) dX9_goesBy_49 rfl ?_
        rw [n_add]
        refine r_iastM (q := 51) h_29 (by decide) (by simp only [mLen]; omega) (by omega) dX9_goesBy_50 rfl fun M_50 h_50 => ?_
        simp only [gA_s, sA_u2] at h_50
        replace h_50 : RM G Λ ρ (sA μ 0 (gwA F 1 0)) M_50 := h_50
        refine r_iload_n (q := 52) dX9_goesBy_51 rfl rfl ?_
        refine r_if_lt (t := 85) (q := 55) dX9_goesBy_52 rfl rfl (fun c52 => ?_) (fun c52 => ?_)
        · exact absurd c52 (by rw [nI_lt0 (by omega)]; exact id)
        · refine r_aload_n (q := 56) dX9_goesBy_55 rfl rfl ?_
          refine r_iload_n (q := 57) dX9_goesBy_56 rfl rfl ?_
          refine r_bipush (v := nI 6) (q := 59) dX9_goesBy_57 (by decide) rfl ?_
          refine r_aload_n (q := 60) dX9_goesBy_59 rfl rfl ?_
          refine r_iload_n (q := 61) dX9_goesBy_60 rfl rfl ?_
          refine r_bipush (v := nI 6) (q := 63) dX9_goesBy_61 (by decide) rfl ?_
          refine r_cV (q := 66) (As := [.int _, .int _]) wc_X9_108 rfl im_X9_lv se_X9_lv h_50.m rfl rfl (Nat.le_of_ble_eq_true rfl) (Nat.le_of_eq (Nat.zero_add _)) (Nat.le_of_eq (Nat.zero_add _)) dX9_goesBy_63 rfl rfl (x_lv h_50 (by omega) (by decide) ?_)
          intro b63
          simp only [gA_s] at b63 ⊢
          rw [gwA_l hl (by decide)]
          refine r_iconst (v := nI 1) (q := 67) dX9_goesBy_66 (by decide) rfl ?_
          refine r_iadd (q := 68) dX9_goesBy_67 rfl ?_
          refine r_cV (q := 71) (As := [.int _, .int _, .int _]) wc_X9_104 rfl im_X9_ll se_X9_ll h_50.m rfl rfl (Nat.le_of_ble_eq_true rfl) (Nat.le_of_eq (Nat.zero_add _)) (Nat.le_of_eq (Nat.zero_add _)) dX9_goesBy_68 rfl rfl (x_ll h_50 (n_add _ _) (by omega) (by decide) (by omega) fun M_68 h_68 => ?_)
          try simp only [gA_s, sA_u2, gA_sN, gN_sA] at h_68
          refine r_aload_n (q := 72) dX9_goesBy_71 rfl rfl ?_
          refine r_iload_n (q := 73) dX9_goesBy_72 rfl rfl ?_
          refine r_iconst (v := nI 4) (q := 74) dX9_goesBy_73 (by decide) rfl ?_
          refine r_aload_n (q := 75) dX9_goesBy_74 rfl rfl ?_
          refine r_iload_n (q := 76) dX9_goesBy_75 rfl rfl ?_
          refine r_iconst (v := nI 4) (q := 77) dX9_goesBy_76 (by decide) rfl ?_
          refine r_cV (q := 80) (As := [.int _, .int _]) wc_X9_108 rfl im_X9_lv se_X9_lv h_68.m rfl rfl (Nat.le_of_ble_eq_true rfl) (Nat.le_of_eq (Nat.zero_add _)) (Nat.le_of_eq (Nat.zero_add _)) dX9_goesBy_77 rfl rfl (x_lv h_68 (by omega) (by decide) ?_)
          intro b77
          simp only [gA_s] at b77 ⊢
          rw [lF_uL (by decide) (by decide), if_neg (by omega), gwA_l hl (by decide)]
          refine r_iconst (v := nI 3) (q := 81) dX9_goesBy_80 (by decide) rfl ?_
          refine r_iadd (q := 82) dX9_goesBy_81 rfl ?_
          refine r_cV (q := 85) (As := [.int _, .int _, .int _]) wc_X9_104 rfl im_X9_ll se_X9_ll h_68.m rfl rfl (Nat.le_of_ble_eq_true rfl) (Nat.le_of_eq (Nat.zero_add _)) (Nat.le_of_eq (Nat.zero_add _)) dX9_goesBy_82 rfl rfl (x_ll h_68 (n_add _ _) (by omega) (by decide) (by omega) fun M_82 h_82 => ?_)
          try simp only [gA_s, sA_u2, gA_sN, gN_sA] at h_82
          refine stage _ _ (Or.inr (Or.inr ⟨l, hl, rfl⟩)) ?_ _ _ (by rw [gw_l hl]; exact h_82)
          exact hQ
      · exact absurd c41 (nI_m12 l hl).2
def clC (k : Nat) : Nat → Nat := fun j => if 16 ≤ j ∧ j < 16 + 10 * k ∧ ((j - 16) % 10 = 3 ∨ (j - 16) % 10 = 4) then 10 else 0
theorem clC_s {k : Nat} (hk : k < 7) : uL (uL (clC k) k 3 10) k 4 10 = clC (k + 1) := by
  funext j
  show (if j = 16 + 10 * k + 4 then 10 else if j = 16 + 10 * k + 3 then 10 else clC k j) = _
  unfold clC
  by_cases h4 : j = 16 + 10 * k + 4
  · rw [if_pos h4, if_pos (by omega)]
  · rw [if_neg h4]
    by_cases h3 : j = 16 + 10 * k + 3
    · rw [if_pos h3, if_pos (by omega)]
    · rw [if_neg h3]
      by_cases hc : 16 ≤ j ∧ j < 16 + 10 * k ∧ ((j - 16) % 10 = 3 ∨ (j - 16) % 10 = 4)
      · rw [if_pos hc, if_pos (by omega)]
      · rw [if_neg hc, if_neg (by omega)]
def shB (F : Nat → Nat) (k : Nat) : Nat → Nat := fun j => if j < 640 * k then F (j + 640) else F j
theorem shB_0 {F : Nat → Nat} : shB F 0 = F := by funext j; unfold shB; rw [if_neg (by omega)]
theorem shB_s {F : Nat → Nat} {k : Nat} : cpF (shB F k) (shB F k) (640 * (k + 1)) (640 * k) 640 = shB F (k + 1) := by
  funext j; unfold cpF shB
  by_cases e : 640 * k ≤ j ∧ j < 640 * k + 640
  · rw [if_pos e, if_neg (by omega), if_pos (by omega)]; congr 1; omega
  · rw [if_neg e]
    by_cases e2 : j < 640 * k
    · rw [if_pos e2, if_pos (by omega)]
    · rw [if_neg e2, if_neg (by omega)]
def kpF (B T : Nat → Nat) (z : Nat) : Nat → Nat := if z = 8 then cpF B (shB T 7) 0 4480 640 else cpF B T 0 (640 * z) 640
def kpN (z : Nat) : Nat := if z = 8 then 8 else z + 1
def kpM (μ : Mg) (z : Nat) : Mg := sN (sA μ 3 (kpF (gA μ 1) (gA μ 3) z)) 5 (nI (kpN z))
theorem s_X9_clears (h : RM G Λ ρ (sA μ 0 F) M) (hQ : ∀ M', RM G Λ ρ (sA μ 0 (clC 7)) M' → Q none M')  : MS G yX9_clears cX9_clears 2 none (d + 1) 0 0 [.ref (Λ (10, 0, 0))] M Q QX := by
  have loop2 : ∀ (m : Nat) k (M1 : Me), m = 7 - k → k ≤ 7 → RM G Λ ρ (sA μ 0 (clC k)) M1 → AW G (wX G yX9_clears cX9_clears 2 none 0 0 Q QX) (d + 1) 0 0 24 [some (.ref (Λ (10, 0, 0))), some (.int (nI k))] [] M1 := by
    intro m
    induction m using Nat.strongRecOn with
    | _ m ih =>
    intro k M1 hm hk h1
    subst hm
    refine r_iload_n (q := 25) dX9_clears_24 rfl rfl ?_
    refine r_bipush (v := nI 7) (q := 27) dX9_clears_25 (by decide) rfl ?_
    refine r_icmp_ge (t := 52) (q := 30) dX9_clears_27 rfl rfl (fun c27 => ?_) (fun c27 => ?_)
    · simp (disch := omega) only [nI_leI, nI_ltI, nI_eq, nI_lt0, nI_ge0, nI_gt0, nI_le0, nI_eq0] at c27
      obtain rfl : k = 7 := by omega
      refine r_vret dX9_clears_52 ?_
      exact hQ _ h1
    · simp (disch := omega) only [nI_leI, nI_ltI, nI_eq, nI_lt0, nI_ge0, nI_gt0, nI_le0, nI_eq0] at c27
      refine r_aload_n (q := 31) dX9_clears_30 rfl rfl ?_
      refine r_iload_n (q := 32) dX9_clears_31 rfl rfl ?_
      refine r_iconst (v := nI 3) (q := 33) dX9_clears_32 (by decide) rfl ?_
      refine r_bipush (v := nI 10) (q := 35) dX9_clears_33 (by decide) rfl ?_
      refine r_cV (q := 38) (As := [.int _, .int _, .int _]) wc_X9_104 rfl im_X9_ll se_X9_ll h1.m rfl rfl (Nat.le_of_ble_eq_true rfl) (Nat.le_of_eq (Nat.zero_add _)) (Nat.le_of_eq (Nat.zero_add _)) dX9_clears_35 rfl rfl (x_ll h1 (x := 10) rfl (by omega) (by decide) (by omega) fun M_35 h1_35 => ?_)
      try simp only [gA_s, sA_u2, gA_sN, gN_sA] at h1_35
      refine r_aload_n (q := 39) dX9_clears_38 rfl rfl ?_
      refine r_iload_n (q := 40) dX9_clears_39 rfl rfl ?_
      refine r_iconst (v := nI 4) (q := 41) dX9_clears_40 (by decide) rfl ?_
      refine r_bipush (v := nI 10) (q := 43) dX9_clears_41 (by decide) rfl ?_
      refine r_cV (q := 46) (As := [.int _, .int _, .int _]) wc_X9_104 rfl im_X9_ll se_X9_ll h1_35.m rfl rfl (Nat.le_of_ble_eq_true rfl) (Nat.le_of_eq (Nat.zero_add _)) (Nat.le_of_eq (Nat.zero_add _)) dX9_clears_43 rfl rfl (x_ll h1_35 (x := 10) rfl (by omega) (by decide) (by omega) fun M_43 h1_43 => ?_)
      try simp only [gA_s, sA_u2, gA_sN, gN_sA] at h1_43
      refine r_inc1 (q := 49) dX9_clears_46 rfl (Nat.le_of_ble_eq_true rfl) rfl rfl ?_
      show AW _ (_, _, _, _, _, _, _, _, _) _ _ _ _ [some _, some _] _ _
      refine r_goto (t := 24) dX9_clears_49 rfl ?_
      exact ih (7 - (k + 1)) (by omega) (k + 1) _ rfl (by omega) (by rw [← clC_s (by omega)]; exact h1_43)
  have loop : ∀ (m : Nat) k (M1 : Me), m = 640 - k → k ≤ 640 → RM G Λ ρ (sA μ 0 (zrF F 0 k)) M1 → AW G (wX G yX9_clears cX9_clears 2 none 0 0 Q QX) (d + 1) 0 0 2 [some (.ref (Λ (10, 0, 0))), some (.int (nI k))] [] M1 := by
    intro m
    induction m using Nat.strongRecOn with
    | _ m ih =>
    intro k M1 hm hk h1
    subst hm
    refine r_iload_n (q := 3) dX9_clears_2 rfl rfl ?_
    refine r_sipush (v := nI 640) (q := 6) dX9_clears_3 (by decide) rfl ?_
    refine r_icmp_ge (t := 22) (q := 9) dX9_clears_6 rfl rfl (fun c6 => ?_) (fun c6 => ?_)
    · simp (disch := omega) only [nI_leI, nI_ltI, nI_eq, nI_lt0, nI_ge0, nI_gt0, nI_le0, nI_eq0] at c6
      obtain rfl : k = 640 := by omega
      refine r_iconst (v := nI 0) (q := 23) dX9_clears_22 (by decide) rfl ?_
      refine r_istore_n (q := 24) dX9_clears_23 (Nat.le_of_ble_eq_true rfl) rfl rfl ?_
      show AW _ (_, _, _, _, _, _, _, _, _) _ _ _ _ [some _, some _] _ _
      exact loop2 _ 0 _ rfl (by omega) (by refine h1.extA fun j hj => ?_; rw [zrF, if_pos ⟨Nat.zero_le _, hj⟩, clC, if_neg (by omega)])
    · simp (disch := omega) only [nI_leI, nI_ltI, nI_eq, nI_lt0, nI_ge0, nI_gt0, nI_le0, nI_eq0] at c6
      refine r_aload_n (q := 10) dX9_clears_9 rfl rfl ?_
      refine r_get (q := 13) (kk := 0) h1.m rfl wi_RX9 (by decide) rfl fk_X9_7 rfl dX9_clears_10 rfl ?_
      refine r_iload_n (q := 14) dX9_clears_13 rfl rfl ?_
      refine r_iconst (v := nI 0) (q := 15) dX9_clears_14 (by decide) rfl ?_
      refine r_iastM (q := 16) h1 (by decide) (by simp only [mLen]; omega) (x := 0) (by decide) dX9_clears_15 rfl fun M_15 h1_15 => ?_
      simp only [gA_s, sA_u2] at h1_15
      rw [zrF_s (Nat.zero_le _)] at h1_15
      refine r_inc1 (q := 19) dX9_clears_16 rfl (Nat.le_of_ble_eq_true rfl) rfl rfl ?_
      show AW _ (_, _, _, _, _, _, _, _, _) _ _ _ _ [some _, some _] _ _
      refine r_goto (t := 2) dX9_clears_19 rfl ?_
      exact ih (640 - (k + 1)) (by omega) (k + 1) _ rfl (by omega) h1_15
  refine MS.of (by decide) (by simp [Value.category]) (Nat.le_of_ble_eq_true rfl) ?_
  show AW _ (_, _, _, _, _, _, _, _, _) _ _ _ _ [some _, _] _ _
  refine r_iconst (v := nI 0) (q := 1) dX9_clears_0 (by decide) rfl ?_
  refine r_istore_n (q := 2) dX9_clears_1 (Nat.le_of_ble_eq_true rfl) rfl rfl ?_
  show AW _ (_, _, _, _, _, _, _, _, _) _ _ _ _ [some _, some _] _ _
  exact loop _ 0 _ rfl (Nat.zero_le _) (by rw [zrF_0]; exact h)
theorem sA_sN {i k : Nat} {F : Nat → Nat} {v : Int32} : sA (sN μ k v) i F = sN (sA μ i F) k v := rfl
theorem sN_sN {k : Nat} {v w : Int32} : sN (sN μ k v) k w = sN μ k w := by
  refine Prod.ext rfl (funext fun k' => ?_)
  show (if k' = k then w else if k' = k then v else μ.2 k') = if k' = k then w else μ.2 k'
  split <;> rfl
theorem gA_sNe {i k : Nat} {v : Int32} : gA (sN μ k v) i = gA μ i := rfl
theorem s_X9_keeps (h : RM G Λ ρ μ M) {z : Nat} {v : Int32} (hz : gN μ 5 = nI z) (hz8 : z ≤ 8) (hQ : ∀ M', RM G Λ ρ (kpM μ z) M' → Q (some (.int v)) M')  : MS G yX9_keeps cX9_keeps 3 (some .int) (d + 1) 0 0 [.ref (Λ (10, 0, 0)), .int v] M Q QX := by
  have tail : ∀ (μ1 : Mg) (z1 : Nat) (u : Option Value) (M1 : Me), z1 ≤ 7 → gN μ1 5 = nI z1 → RM G Λ ρ μ1 M1 → (∀ M', RM G Λ ρ (sN (sA μ1 3 (cpF (gA μ1 1) (gA μ1 3) 0 (640 * z1) 640)) 5 (nI (z1 + 1))) M' → Q (some (.int v)) M') → AW G (wX G yX9_keeps cX9_keeps 3 (some .int) 0 0 Q QX) (d + 1) 0 0 56 [some (.ref (Λ (10, 0, 0))), some (.int v), u] [] M1 := by
    intro μ1 z1 u M1 hz7 hz1 h1 hQ1
    refine r_aload_n (q := 57) dX9_keeps_56 rfl rfl ?_
    refine r_get (q := 60) (kk := 1) h1.m rfl wi_RX9 (by decide) rfl fk_X9_13 rfl dX9_keeps_57 rfl ?_
    refine r_iconst (v := nI 0) (q := 61) dX9_keeps_60 (by decide) rfl ?_
    refine r_aload_n (q := 62) dX9_keeps_61 rfl rfl ?_
    refine r_get (q := 65) (kk := 3) h1.m rfl wi_RX9 (by decide) rfl fk_X9_19 rfl dX9_keeps_62 rfl ?_
    refine r_sipush (v := nI 640) (q := 68) dX9_keeps_65 (by decide) rfl ?_
    refine r_aload_n (q := 69) dX9_keeps_68 rfl rfl ?_
    refine r_get (q := 72) (kk := 5) h1.m rfl wi_RX9 (by decide) rfl fk_X9_26 rfl dX9_keeps_69 rfl ?_
    rw [hz1]
    refine r_imul (q := 73) dX9_keeps_72 rfl ?_
    rw [n_mul]
    refine r_cS (q := 76) (As := [.ref _, .int _, .ref _, .int _]) wc_X9_100 st_X9_copies rfl (Nat.le_of_ble_eq_true rfl) (Nat.le_of_eq (Nat.zero_add _)) (Nat.le_of_eq (Nat.zero_add _)) dX9_keeps_73 rfl rfl (s_X9_copies h1 (by decide) (by decide) (by decide) (by simp only [mLen]; omega) (Or.inl (by decide)) fun M_73 h1_73 => ?_)
    refine r_aload_n (q := 77) dX9_keeps_76 rfl rfl ?_
    refine r_dup (q := 78) dX9_keeps_77 rfl rfl ?_
    refine r_get (q := 81) (kk := 5) h1_73.m rfl wi_RX9 (by decide) rfl fk_X9_26 rfl dX9_keeps_78 rfl ?_
    rw [gN_sA, hz1]
    refine r_iconst (v := nI 1) (q := 82) dX9_keeps_81 (by decide) rfl ?_
    refine r_iadd (q := 83) dX9_keeps_82 rfl ?_
    rw [n_add]
    refine r_p9 (q := 86) (kk := 5) (j := 5) h1_73 (by decide) rfl fk_X9_26 dX9_keeps_83 rfl fun M_83 h1_83 => ?_
    refine r_iload_n (q := 87) dX9_keeps_86 rfl rfl ?_
    refine r_iret dX9_keeps_87 ?_
    exact hQ1 _ h1_83
  have l8 : z = 8 → ∀ M1, RM G Λ ρ (sA μ 3 (shB (gA μ 3) 0)) M1 → AW G (wX G yX9_keeps cX9_keeps 3 (some .int) 0 0 Q QX) (d + 1) 0 0 11 [some (.ref (Λ (10, 0, 0))), some (.int v), some (.int (nI (0 + 1)))] [] M1 := by
    intro e
    subst e
    have loop : ∀ (m : Nat) k (M1 : Me), m = 7 - k → k ≤ 7 → RM G Λ ρ (sA μ 3 (shB (gA μ 3) k)) M1 → AW G (wX G yX9_keeps cX9_keeps 3 (some .int) 0 0 Q QX) (d + 1) 0 0 11 [some (.ref (Λ (10, 0, 0))), some (.int v), some (.int (nI (k + 1)))] [] M1 := by
      intro m
      induction m using Nat.strongRecOn with
      | _ m ih =>
      intro k M1 hm hk h1
      subst hm
      refine r_iload_n (q := 12) dX9_keeps_11 rfl rfl ?_
      refine r_bipush (v := nI 8) (q := 14) dX9_keeps_12 (by decide) rfl ?_
      refine r_icmp_ge (t := 46) (q := 17) dX9_keeps_14 rfl rfl (fun c14 => ?_) (fun c14 => ?_)
      · simp (disch := omega) only [nI_leI, nI_ltI, nI_eq, nI_lt0, nI_ge0, nI_gt0, nI_le0, nI_eq0] at c14
        obtain rfl : k = 7 := by omega
        refine r_aload_n (q := 47) dX9_keeps_46 rfl rfl ?_
        refine r_dup (q := 48) dX9_keeps_47 rfl rfl ?_
        refine r_get (q := 51) (kk := 5) h1.m rfl wi_RX9 (by decide) rfl fk_X9_26 rfl dX9_keeps_48 rfl ?_
        rw [gN_sA, hz]
        refine r_iconst (v := nI 1) (q := 52) dX9_keeps_51 (by decide) rfl ?_
        refine r_isub (q := 53) dX9_keeps_52 rfl ?_
        rw [n_sub (by decide)]
        refine r_p9 (q := 56) (kk := 5) (j := 5) h1 (by decide) rfl fk_X9_26 dX9_keeps_53 rfl fun M_53 h1_53 => ?_
        refine tail _ 7 _ _ (Nat.le_refl _) rfl h1_53 fun M2 h2 => hQ M2 ?_
        rw [gA_sNe, gA_n (by decide), gA_sNe, gA_s, sA_sN, sA_sA, sN_sN] at h2
        exact h2
      · simp (disch := omega) only [nI_leI, nI_ltI, nI_eq, nI_lt0, nI_ge0, nI_gt0, nI_le0, nI_eq0] at c14
        refine r_aload_n (q := 18) dX9_keeps_17 rfl rfl ?_
        refine r_get (q := 21) (kk := 3) h1.m rfl wi_RX9 (by decide) rfl fk_X9_19 rfl dX9_keeps_18 rfl ?_
        refine r_sipush (v := nI 640) (q := 24) dX9_keeps_21 (by decide) rfl ?_
        refine r_iload_n (q := 25) dX9_keeps_24 rfl rfl ?_
        refine r_imul (q := 26) dX9_keeps_25 rfl ?_
        rw [n_mul]
        refine r_aload_n (q := 27) dX9_keeps_26 rfl rfl ?_
        refine r_get (q := 30) (kk := 3) h1.m rfl wi_RX9 (by decide) rfl fk_X9_19 rfl dX9_keeps_27 rfl ?_
        refine r_sipush (v := nI 640) (q := 33) dX9_keeps_30 (by decide) rfl ?_
        refine r_iload_n (q := 34) dX9_keeps_33 rfl rfl ?_
        refine r_iconst (v := nI 1) (q := 35) dX9_keeps_34 (by decide) rfl ?_
        refine r_isub (q := 36) dX9_keeps_35 rfl ?_
        rw [n_sub (by omega), Nat.add_sub_cancel]
        refine r_imul (q := 37) dX9_keeps_36 rfl ?_
        rw [n_mul]
        refine r_cS (q := 40) (As := [.ref _, .int _, .ref _, .int _]) wc_X9_100 st_X9_copies rfl (Nat.le_of_ble_eq_true rfl) (Nat.le_of_eq (Nat.zero_add _)) (Nat.le_of_eq (Nat.zero_add _)) dX9_keeps_37 rfl rfl (s_X9_copies h1 (by decide) (by decide) (by simp only [mLen]; omega) (by simp only [mLen]; omega) (Or.inr (by omega)) fun M_37 h1_37 => ?_)
        simp only [gA_s, sA_sA] at h1_37
        rw [shB_s] at h1_37
        refine r_inc1 (q := 43) dX9_keeps_40 rfl (Nat.le_of_ble_eq_true rfl) rfl rfl ?_
        show AW _ (_, _, _, _, _, _, _, _, _) _ _ _ _ [some _, some _, some _] _ _
        refine r_goto (t := 11) dX9_keeps_43 rfl ?_
        exact ih (7 - (k + 1)) (by omega) (k + 1) _ rfl (by omega) h1_37
    exact fun M1 h1 => loop _ 0 M1 rfl (Nat.zero_le _) h1
  refine MS.of (by decide) (by simp [Value.category]) (Nat.le_of_ble_eq_true rfl) ?_
  show AW _ (_, _, _, _, _, _, _, _, _) _ _ _ _ [some _, some _, _] _ _
  refine r_aload_n (q := 1) dX9_keeps_0 rfl rfl ?_
  refine r_get (q := 4) (kk := 5) h.m rfl wi_RX9 (by decide) rfl fk_X9_26 rfl dX9_keeps_1 rfl ?_
  rw [hz]
  refine r_bipush (v := nI 8) (q := 6) dX9_keeps_4 (by decide) rfl ?_
  refine r_icmp_ne (t := 56) (q := 9) dX9_keeps_6 rfl rfl (fun c6 => ?_) (fun c6 => ?_)
  · simp (disch := omega) only [nI_leI, nI_ltI, nI_eq, nI_lt0, nI_ge0, nI_gt0, nI_le0, nI_eq0] at c6
    refine tail _ z _ _ (by omega) hz h fun M2 h2 => hQ M2 ?_
    rw [kpM, kpF, kpN, if_neg (by omega), if_neg (by omega)]
    exact h2
  · simp (disch := omega) only [nI_leI, nI_ltI, nI_eq, nI_lt0, nI_ge0, nI_gt0, nI_le0, nI_eq0] at c6
    refine r_iconst (v := nI 1) (q := 10) dX9_keeps_9 (by decide) rfl ?_
    refine r_istore_n (q := 11) dX9_keeps_10 (Nat.le_of_ble_eq_true rfl) rfl rfl ?_
    show AW _ (_, _, _, _, _, _, _, _, _) _ _ _ _ [some _, some _, some _] _ _
    exact l8 (by omega) _ (by rw [shB_0, sA_self]; exact h)
end W55
