/-! THE MODEL: what is typed in -/
section W61
variable {G : En} {Λ : Ob → Nat} {ρ : Me} {μ : Mg} {M : Me} {d : Nat} {Q : Option Value → Me → Prop} {QX : String → Me → Prop} {S : St} {F : Nat → Nat} {z : Nat} {L : List Nat} {T : Nat → Nat}
theorem apC_ge {w : Nat} : ∀ r m mm, apC w r m = some mm → m ≤ mm
  | 0, m, mm, h => by cases h; exact Nat.le_refl _
  | r + 1, m, mm, h => by
    rw [apC] at h
    split at h
    · cases h
    · have := apC_ge r _ mm h; omega
theorem apC_s {w r m mm : Nat} (h : apC w (r + 1) m = some mm) : cdOk (byR w r) = true ∧ apC w r (m + if byR w r = 0 then 0 else 1) = some mm := by
  rw [apC] at h
  cases e : cdOk (byR w r) with
  | false => rw [if_pos e] at h; cases h
  | true => rw [if_neg (by rw [e]; decide)] at h; exact ⟨rfl, h⟩
def mqAp (x : Int32) (L : List Nat) : An := match apC (wdN x) 4 0 with
  | none => (1, 0)
  | some m => if 60 < L.length + m then (2, 0) else (0, nI (aAll (wdN x) 4 L).length)
theorem in_cd {c : Nat} (hc : c < 256) (h0 : ¬ c = 0) : inI (nI c) (nI 32) (nI 126) = cdOk c := by
  have e1 : (nI c < nI 32) ↔ c < 32 := nI_ltI (by omega) (by decide)
  have e2 : (nI 126 < nI c) ↔ 126 < c := nI_ltI (by decide) (by omega)
  simp only [inI, cdOk, e1, e2, decide_eq_false h0, Bool.false_or]
  by_cases g1 : c < 32 <;> by_cases g2 : 126 < c <;> simp [g1, g2] <;> omega
theorem s_X9_append (h : RM G Λ ρ μ M) {x : Int32} (hfed : gN μ 21 = nI L.length) (hL60 : L.length ≤ 60) (hT : LTo L (gA μ 7)) (hX : ∀ {c : Nat}, c = 1 ∨ c = 2 → mqAp x L = (c, 0) → ∀ M', RM G Λ ρ (sN μ 4 (nI c)) M' → Q (some (.int (nI 0))) M') (hQ : mqAp x L = (0, nI (aAll (wdN x) 4 L).length) → ∀ M' T', LTo (aAll (wdN x) 4 L) T' → RM G Λ ρ (sN (sA (sN μ 4 (nI 0)) 7 T') 21 (nI (aAll (wdN x) 4 L).length)) M' → Q (some (.int (nI (aAll (wdN x) 4 L).length))) M')  : MS G yX9_append cX9_append 5 (some .int) (d + 1) 0 0 [.ref (Λ (10, 0, 0)), .int x] M Q QX := by
  have second : ∀ mm, apC (wdN x) 4 0 = some mm → L.length + mm ≤ 60 → (∀ M' T', LTo (aAll (wdN x) 4 L) T' → RM G Λ ρ (sN (sA (sN μ 4 (nI 0)) 7 T') 21 (nI (aAll (wdN x) 4 L).length)) M' → Q (some (.int (nI (aAll (wdN x) 4 L).length))) M') → ∀ u u2 mv M1, RM G Λ ρ (sN μ 4 (nI 0)) M1 → AW G (wX G yX9_append cX9_append 5 (some .int) 0 0 Q QX) (d + 1) 0 0 75 [some (.ref (Λ (10, 0, 0))), some (.int x), some (.int mv), u, u2] [] M1 := by
    intro mm hg0 h60 hQ1 u u2 mv M1 h1
    have hL0 : RM G Λ ρ (sN (sA (sN μ 4 (nI 0)) 7 (gA μ 7)) 21 (nI L.length)) M1 := by
      refine h1.ext (fun i hi j hj => ?_) (fun k => ?_)
      · rw [gA_sNe]
        by_cases e : i = 7
        · subst e; rw [gA_s, gA_sNe]
        · rw [gA_n e]
      · rw [gN_sN]
        split
        · rename_i e; rw [e]; exact hfed.symm
        · rfl
    have loop2 : ∀ (m : Nat) r m0 u (L1 : List Nat) (T1 : Nat → Nat) (M1 : Me) (mv : Int32), m = r → r ≤ 4 → apC (wdN x) r m0 = some mm → L1.length + mm ≤ 60 + m0 → LTo L1 T1 → RM G Λ ρ (sN (sA (sN μ 4 (nI 0)) 7 T1) 21 (nI L1.length)) M1 → aAll (wdN x) r L1 = aAll (wdN x) 4 L → AW G (wX G yX9_append cX9_append 5 (some .int) 0 0 Q QX) (d + 1) 0 0 78 [some (.ref (Λ (10, 0, 0))), some (.int x), some (.int mv), some (.int (nI (8 * r) - nI 8)), u] [] M1 := by
      intro m
      induction m using Nat.strongRecOn with
      | _ m ih =>
      intro r m0 u L1 T1 M1 mv hm hr hg hsp hT1 h1 hfin
      subst hm
      refine r_iload_n (q := 79) dX9_append_78 rfl rfl ?_
      refine r_if_lt (t := 126) (q := 82) dX9_append_79 rfl rfl (fun c79 => ?_) (fun c79 => ?_)
      · obtain rfl := (e8_neg hr).mp c79
        replace hfin : L1 = aAll (wdN x) 4 L := hfin
        refine r_aload_n (q := 127) dX9_append_126 rfl rfl ?_
        refine r_get (q := 130) (kk := 21) h1.m rfl wi_RX9 (by decide) rfl fk_X9_75 rfl dX9_append_127 rfl ?_
        rw [gN_sNs]
        refine r_iret dX9_append_130 ?_
        rw [hfin] at hT1 h1 ⊢
        exact hQ1 _ _ hT1 h1
      · obtain ⟨r, rfl⟩ : ∃ r0, m = r0 + 1 := ⟨m - 1, by have := mt (e8_neg hr).mpr c79; omega⟩
        rw [e8]
        have hb : byR (wdN x) r < 256 := Nat.mod_lt _ (by decide)
        obtain ⟨hc1, hc2⟩ := apC_s hg
        have hge := apC_ge _ _ _ hc2
        refine r_iload_n (q := 83) dX9_append_82 rfl rfl ?_
        refine r_iload_n (q := 84) dX9_append_83 rfl rfl ?_
        refine r_iushr (q := 85) dX9_append_84 rfl ?_
        refine r_sipush (v := nI 255) (q := 88) dX9_append_85 (by decide) rfl ?_
        refine r_iand (q := 89) dX9_append_88 rfl ?_
        rw [n_byte x (by omega), show wdN x / 2 ^ (8 * r) % 256 = byR (wdN x) r from rfl]
        refine r_istore (q := 91) dX9_append_89 (Nat.le_of_ble_eq_true rfl) rfl rfl ?_
        show AW _ (_, _, _, _, _, _, _, _, _) _ _ _ _ [some _, some _, some _, some _, some _] _ _
        refine r_iload (q := 93) dX9_append_91 rfl rfl ?_
        refine r_if_ne (t := 99) (q := 96) dX9_append_93 rfl rfl (fun c93 => ?_) (fun c93 => ?_)
        · simp (disch := omega) only [nI_leI, nI_ltI, nI_eq, nI_lt0, nI_ge0, nI_gt0, nI_le0, nI_eq0] at c93
          rw [if_neg c93] at hc2 hge
          have hf2 : aAll (wdN x) r (L1 ++ [byR (wdN x) r]) = aAll (wdN x) 4 L := by rw [← hfin, aAll]; simp only [show wdN x / 2 ^ (8 * r) % 256 = byR (wdN x) r from rfl, if_neg c93, rAdd, if_pos (show L1.length < 60 by omega)]
          refine r_aload_n (q := 100) dX9_append_99 rfl rfl ?_
          refine r_get (q := 103) (kk := 18) h1.m rfl wi_RX9 (by decide) rfl fk_X9_66 rfl dX9_append_100 rfl ?_
          refine r_aload_n (q := 104) dX9_append_103 rfl rfl ?_
          refine r_get (q := 107) (kk := 21) h1.m rfl wi_RX9 (by decide) rfl fk_X9_75 rfl dX9_append_104 rfl ?_
          rw [gN_sNs]
          refine r_iload (q := 109) dX9_append_107 rfl rfl ?_
          refine r_iastM (q := 110) h1 (by decide) (by simp only [mLen]; omega) (by omega) dX9_append_109 rfl fun M_109 h1_109 => ?_
          rw [gA_sNe, gA_s, sA_sN, sA_sA] at h1_109
          refine r_aload_n (q := 111) dX9_append_110 rfl rfl ?_
          refine r_dup (q := 112) dX9_append_111 rfl rfl ?_
          refine r_get (q := 115) (kk := 21) h1_109.m rfl wi_RX9 (by decide) rfl fk_X9_75 rfl dX9_append_112 rfl ?_
          rw [gN_sNs]
          refine r_iconst (v := nI 1) (q := 116) dX9_append_115 (by decide) rfl ?_
          refine r_iadd (q := 117) dX9_append_116 rfl ?_
          rw [n_add]
          refine r_p9 (q := 120) (kk := 21) (j := 21) h1_109 (by decide) rfl fk_X9_75 dX9_append_117 rfl fun M_117 h1_117 => ?_
          rw [sN_sN] at h1_117
          refine r_iinc (q := 123) dX9_append_120 rfl (show nI (8 * r) + Int32.ofInt (-8) = nI (8 * r) - nI 8 by rw [show Int32.ofInt (-8) = -nI 8 by decide, ← Int32.sub_eq_add_neg]) (Nat.le_of_ble_eq_true rfl) rfl rfl ?_
          show AW _ (_, _, _, _, _, _, _, _, _) _ _ _ _ [some _, some _, some _, some _, some _] _ _
          refine r_goto (t := 78) dX9_append_123 rfl ?_
          exact ih r (by omega) r _ _ _ _ _ _ rfl (by omega) hc2 (by rw [List.length_append, List.length_singleton]; omega) hT1.app (by rw [List.length_append]; exact h1_117) hf2
        · simp (disch := omega) only [nI_leI, nI_ltI, nI_eq, nI_lt0, nI_ge0, nI_gt0, nI_le0, nI_eq0] at c93
          rw [if_pos c93] at hc2 hge
          have hf2 : aAll (wdN x) r L1 = aAll (wdN x) 4 L := by rw [← hfin, aAll]; simp only [show wdN x / 2 ^ (8 * r) % 256 = byR (wdN x) r from rfl, if_pos c93]
          refine r_goto (t := 120) dX9_append_96 rfl ?_
          refine r_iinc (q := 123) dX9_append_120 rfl (show nI (8 * r) + Int32.ofInt (-8) = nI (8 * r) - nI 8 by rw [show Int32.ofInt (-8) = -nI 8 by decide, ← Int32.sub_eq_add_neg]) (Nat.le_of_ble_eq_true rfl) rfl rfl ?_
          show AW _ (_, _, _, _, _, _, _, _, _) _ _ _ _ [some _, some _, some _, some _, some _] _ _
          refine r_goto (t := 78) dX9_append_123 rfl ?_
          exact ih r (by omega) r _ _ _ _ _ _ rfl (by omega) hc2 (by omega) hT1 h1 hf2
    refine r_bipush (v := nI 24) (q := 77) dX9_append_75 (by decide) rfl ?_
    refine r_istore_n (q := 78) dX9_append_77 (Nat.le_of_ble_eq_true rfl) rfl rfl ?_
    show AW _ (_, _, _, _, _, _, _, _, _) _ _ _ _ [some _, some _, some _, some _, _] _ _
    exact loop2 _ 4 0 u2 L _ _ mv rfl (by decide) hg0 (by omega) hT hL0 rfl
  have first : ∀ M1, RM G Λ ρ (sN μ 4 (nI 0)) M1 → AW G (wX G yX9_append cX9_append 5 (some .int) 0 0 Q QX) (d + 1) 0 0 10 [some (.ref (Λ (10, 0, 0))), some (.int x), some (.int (nI 0)), some (.int (nI 24)), none] [] M1 := by
    intro M1 h1
    have loop : ∀ (m : Nat) r m0 u, m = r → r ≤ 4 → m0 + r ≤ 4 → apC (wdN x) 4 0 = apC (wdN x) r m0 → AW G (wX G yX9_append cX9_append 5 (some .int) 0 0 Q QX) (d + 1) 0 0 10 [some (.ref (Λ (10, 0, 0))), some (.int x), some (.int (nI m0)), some (.int (nI (8 * r) - nI 8)), u] [] M1 := by
      intro m
      induction m using Nat.strongRecOn with
      | _ m ih =>
      intro r m0 u hm hr hm0 hg
      subst hm
      refine r_iload_n (q := 11) dX9_append_10 rfl rfl ?_
      refine r_if_lt (t := 58) (q := 14) dX9_append_11 rfl rfl (fun c11 => ?_) (fun c11 => ?_)
      · obtain rfl := (e8_neg hr).mp c11
        replace hg : apC (wdN x) 4 0 = some m0 := hg
        refine r_aload_n (q := 59) dX9_append_58 rfl rfl ?_
        refine r_get (q := 62) (kk := 21) h1.m rfl wi_RX9 (by decide) rfl fk_X9_75 rfl dX9_append_59 rfl ?_
        rw [gN_sNn (by decide), hfed]
        refine r_iload_n (q := 63) dX9_append_62 rfl rfl ?_
        refine r_iadd (q := 64) dX9_append_63 rfl ?_
        rw [n_add]
        refine r_bipush (v := nI 60) (q := 66) dX9_append_64 (by decide) rfl ?_
        refine r_icmp_le (t := 75) (q := 69) dX9_append_66 rfl rfl (fun c66 => ?_) (fun c66 => ?_)
        · simp (disch := omega) only [nI_leI, nI_ltI, nI_eq, nI_lt0, nI_ge0, nI_gt0, nI_le0, nI_eq0] at c66
          have e : mqAp x L = (0, nI (aAll (wdN x) 4 L).length) := by rw [mqAp, hg]; exact if_neg (by omega)
          refine second m0 hg (by omega) (hQ e) _ _ _ _ h1
        · simp (disch := omega) only [nI_leI, nI_ltI, nI_eq, nI_lt0, nI_ge0, nI_gt0, nI_le0, nI_eq0] at c66
          have e : mqAp x L = (2, 0) := by rw [mqAp, hg]; exact if_pos (by omega)
          refine r_aload_n (q := 70) dX9_append_69 rfl rfl ?_
          refine r_iconst (v := nI 2) (q := 71) dX9_append_70 (by decide) rfl ?_
          refine r_cV (q := 74) (As := [.int _]) wc_X9_96 rfl im_X9_no se_X9_no h1.m rfl rfl (Nat.le_of_ble_eq_true rfl) (Nat.le_of_eq (Nat.zero_add _)) (Nat.le_of_eq (Nat.zero_add _)) dX9_append_71 rfl rfl (s_X9_no h1 fun M_71 h1_71 => ?_)
          try simp only [sN_sN] at h1_71
          refine r_iret dX9_append_74 ?_
          exact hX (Or.inr rfl) e _ h1_71
      · obtain ⟨r, rfl⟩ : ∃ r0, m = r0 + 1 := ⟨m - 1, by have := mt (e8_neg hr).mpr c11; omega⟩
        rw [e8]
        have hb : byR (wdN x) r < 256 := Nat.mod_lt _ (by decide)
        refine r_iload_n (q := 15) dX9_append_14 rfl rfl ?_
        refine r_iload_n (q := 16) dX9_append_15 rfl rfl ?_
        refine r_iushr (q := 17) dX9_append_16 rfl ?_
        refine r_sipush (v := nI 255) (q := 20) dX9_append_17 (by decide) rfl ?_
        refine r_iand (q := 21) dX9_append_20 rfl ?_
        rw [n_byte x (by omega), show wdN x / 2 ^ (8 * r) % 256 = byR (wdN x) r from rfl]
        refine r_istore (q := 23) dX9_append_21 (Nat.le_of_ble_eq_true rfl) rfl rfl ?_
        show AW _ (_, _, _, _, _, _, _, _, _) _ _ _ _ [some _, some _, some _, some _, some _] _ _
        refine r_iload (q := 25) dX9_append_23 rfl rfl ?_
        refine r_if_ne (t := 31) (q := 28) dX9_append_25 rfl rfl (fun c25 => ?_) (fun c25 => ?_)
        · simp (disch := omega) only [nI_leI, nI_ltI, nI_eq, nI_lt0, nI_ge0, nI_gt0, nI_le0, nI_eq0] at c25
          refine r_iload (q := 33) dX9_append_31 rfl rfl ?_
          refine r_bipush (v := nI 32) (q := 35) dX9_append_33 (by decide) rfl ?_
          refine r_bipush (v := nI 126) (q := 37) dX9_append_35 (by decide) rfl ?_
          refine r_cS (q := 40) (As := [.int _, .int _, .int _]) wc_X9_116 st_X9_in rfl (Nat.le_of_ble_eq_true rfl) (Nat.le_of_eq (Nat.zero_add _)) (Nat.le_of_eq (Nat.zero_add _)) dX9_append_37 rfl rfl (s_X9_in ?_)
          rw [in_cd hb c25]
          refine r_if_ne (t := 49) (q := 43) dX9_append_40 rfl rfl (fun c40 => ?_) (fun c40 => ?_)
          · have hnx : apC (wdN x) 4 0 = apC (wdN x) r (m0 + 1) := by rw [hg, apC, if_neg (by rw [bI_ne c40]; decide), if_neg c25]
            refine r_inc1 (q := 52) dX9_append_49 rfl (Nat.le_of_ble_eq_true rfl) rfl rfl ?_
            show AW _ (_, _, _, _, _, _, _, _, _) _ _ _ _ [some _, some _, some _, some _, some _] _ _
            refine r_iinc (q := 55) dX9_append_52 rfl (show nI (8 * r) + Int32.ofInt (-8) = nI (8 * r) - nI 8 by rw [show Int32.ofInt (-8) = -nI 8 by decide, ← Int32.sub_eq_add_neg]) (Nat.le_of_ble_eq_true rfl) rfl rfl ?_
            show AW _ (_, _, _, _, _, _, _, _, _) _ _ _ _ [some _, some _, some _, some _, some _] _ _
            refine r_goto (t := 10) dX9_append_55 rfl ?_
            exact ih r (by omega) r _ _ rfl (by omega) (by omega) hnx
          · have e : mqAp x L = (1, 0) := by rw [mqAp, hg, apC, if_pos (bI_eq0.mp c40)]
            refine r_aload_n (q := 44) dX9_append_43 rfl rfl ?_
            refine r_iconst (v := nI 1) (q := 45) dX9_append_44 (by decide) rfl ?_
            refine r_cV (q := 48) (As := [.int _]) wc_X9_96 rfl im_X9_no se_X9_no h1.m rfl rfl (Nat.le_of_ble_eq_true rfl) (Nat.le_of_eq (Nat.zero_add _)) (Nat.le_of_eq (Nat.zero_add _)) dX9_append_45 rfl rfl (s_X9_no h1 fun M_45 h1_45 => ?_)
            try simp only [sN_sN] at h1_45
            refine r_iret dX9_append_48 ?_
            exact hX (Or.inl rfl) e _ h1_45
        · simp (disch := omega) only [nI_leI, nI_ltI, nI_eq, nI_lt0, nI_ge0, nI_gt0, nI_le0, nI_eq0] at c25
          have hnx : apC (wdN x) 4 0 = apC (wdN x) r m0 := by rw [hg, apC, if_neg (by rw [c25]; decide), if_pos c25]; rfl
          refine r_goto (t := 52) dX9_append_28 rfl ?_
          refine r_iinc (q := 55) dX9_append_52 rfl (show nI (8 * r) + Int32.ofInt (-8) = nI (8 * r) - nI 8 by rw [show Int32.ofInt (-8) = -nI 8 by decide, ← Int32.sub_eq_add_neg]) (Nat.le_of_ble_eq_true rfl) rfl rfl ?_
          show AW _ (_, _, _, _, _, _, _, _, _) _ _ _ _ [some _, some _, some _, some _, some _] _ _
          refine r_goto (t := 10) dX9_append_55 rfl ?_
          exact ih r (by omega) r _ _ rfl (by omega) (by omega) hnx
    exact loop _ 4 0 none rfl (by decide) (by decide) rfl
  refine MS.of (by decide) (by simp [Value.category]) (Nat.le_of_ble_eq_true rfl) ?_
  show AW _ (_, _, _, _, _, _, _, _, _) _ _ _ _ [some _, some _, _, _, _] _ _
  refine r_aload_n (q := 1) dX9_append_0 rfl rfl ?_
  refine r_iconst (v := nI 0) (q := 2) dX9_append_1 (by decide) rfl ?_
  refine r_p9 (q := 5) (kk := 4) (j := 4) h (by decide) rfl fk_X9_22 dX9_append_2 rfl fun M_2 h_2 => ?_
  refine r_iconst (v := nI 0) (q := 6) dX9_append_5 (by decide) rfl ?_
  refine r_istore_n (q := 7) dX9_append_6 (Nat.le_of_ble_eq_true rfl) rfl rfl ?_
  show AW _ (_, _, _, _, _, _, _, _, _) _ _ _ _ [some _, some _, some _, _, _] _ _
  refine r_bipush (v := nI 24) (q := 9) dX9_append_7 (by decide) rfl ?_
  refine r_istore_n (q := 10) dX9_append_9 (Nat.le_of_ble_eq_true rfl) rfl rfl ?_
  show AW _ (_, _, _, _, _, _, _, _, _) _ _ _ _ [some _, some _, some _, some _, _] _ _
  exact first _ h_2
end W61
