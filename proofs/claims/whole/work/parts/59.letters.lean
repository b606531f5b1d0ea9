/-! THE MODEL: letters on the strip, readings -/
section W59
variable {G : En} {Λ : Ob → Nat} {ρ : Me} {μ : Mg} {M : Me} {d : Nat} {Q : Option Value → Me → Prop} {QX : String → Me → Prop} {S : St} {F : Nat → Nat} {z : Nat} {Lt : List Nat}
def ltrW (w : Nat) : List Nat := (List.range (w / 64)).map fun i => w % 64 / 2 ^ i % 2
def mLt (F : Nat → Nat) (n : Nat) : List Nat := (List.range n).flatMap fun k => ltrW (F (470 + k))
theorem mLt_s {F : Nat → Nat} {n : Nat} : mLt F (n + 1) = mLt F n ++ ltrW (F (470 + n)) := by
  rw [mLt, List.range_succ, List.flatMap_append]; simp [mLt]
theorem ltrW_len {w : Nat} : (ltrW w).length = w / 64 := by rw [ltrW, List.length_map, List.length_range]
theorem ltrW_at {w i : Nat} (h : i < w / 64) : (ltrW w).take (i + 1) = (ltrW w).take i ++ [w % 64 / 2 ^ i % 2] := by
  rw [take_s (by rw [ltrW_len]; exact h)]
  congr 2
  rw [ltrW, getD_lt (by rw [List.length_map, List.length_range]; exact h), List.getElem_map, List.getElem_range]
theorem mLt_mono {F : Nat → Nat} {a b : Nat} (h : a ≤ b) : (mLt F a).length ≤ (mLt F b).length := by
  induction h with
  | refl => exact Nat.le_refl _
  | step h ih => rw [mLt_s, List.length_append]; omega
/-- an array's first cells are the list -/
def LTo (L : List Nat) (T : Nat → Nat) : Prop := ∀ j, j < L.length → T j = L.getD j 0
theorem LTo.app {L : List Nat} {T : Nat → Nat} {x : Nat} (h : LTo L T) : LTo (L ++ [x]) (uN T L.length x) := by
  intro j hj
  rw [List.length_append, List.length_singleton] at hj
  unfold uN
  by_cases e : j = L.length
  · rw [if_pos e, e, List.getD_eq_getElem?_getD, List.getElem?_append_right (Nat.le_refl _)]; simp
  · rw [if_neg e, h j (by omega), List.getD_eq_getElem?_getD, List.getD_eq_getElem?_getD, List.getElem?_append_left (by omega)]
theorem LTo.nil {T : Nat → Nat} : LTo [] T := fun j hj => absurd hj (Nat.not_lt_zero _)
theorem LTo_lt {L : List Nat} {T : Nat → Nat} (h : LTo L T) (hx : ∀ x ∈ L, x < 2) {j : Nat} (hj : j < L.length) : T j < 2 := by
  rw [h j hj, getD_lt hj]; exact hx _ (List.getElem_mem hj)
theorem mLt_lt2 {F : Nat → Nat} {n : Nat} : ∀ x ∈ mLt F n, x < 2 := by
  intro x hx
  obtain ⟨s, -, hs⟩ := List.mem_flatMap.mp hx
  obtain ⟨j, -, rfl⟩ := List.mem_map.mp hs
  exact Nat.mod_lt _ (by decide)
theorem s_X9_laysLetters (h : RM G Λ ρ μ M) (hF : gA μ 0 = F) (hc3 : F 3 ≤ 147) (hw : ∀ k, k < F 3 → F (470 + k) < 448) (hlen : (mLt F (F 3)).length ≤ 882) (hQ : ∀ M' T, LTo (mLt F (F 3)) T → RM G Λ ρ (sN (sA μ 4 T) 15 (nI (mLt F (F 3)).length)) M' → Q none M')  : MS G yX9_laysLetters cX9_laysLetters 4 none d 0 0 [.ref (Λ (10, 0, 0))] M Q QX := by
  have loop : ∀ (mm : Nat) k M1 T u2 u3, mm = F 3 - k → k ≤ F 3 → LTo (mLt F k) T → RM G Λ ρ (sN (sA μ 4 T) 15 (nI (mLt F k).length)) M1 → AW G (wX G yX9_laysLetters cX9_laysLetters 4 none 0 0 Q QX) d 0 0 7 [some (.ref (Λ (10, 0, 0))), some (.int (nI k)), u2, u3] [] M1 := by
    intro mm
    induction mm using Nat.strongRecOn with
    | _ mm iho =>
    intro k M1 T u2 u3 hmm hk hT h1
    subst hmm
    refine r_iload_n (q := 8) dX9_laysLetters_7 rfl rfl ?_
    refine r_aload_n (q := 9) dX9_laysLetters_8 rfl rfl ?_
    refine r_get (q := 12) (kk := 0) h1.m rfl wi_RX9 (by decide) rfl fk_X9_7 rfl dX9_laysLetters_9 rfl ?_
    refine r_iconst (v := nI 3) (q := 13) dX9_laysLetters_12 (by decide) rfl ?_
    refine r_ialdM (q := 14) h1 (by decide) (by simp only [mLen]; omega) dX9_laysLetters_13 rfl ?_
    rw [gA_sNe, gA_n (by decide), hF]
    refine r_icmp_ge (t := 77) (q := 17) dX9_laysLetters_14 rfl rfl (fun c14 => ?_) (fun c14 => ?_)
    · simp (disch := omega) only [nI_leI, nI_ltI, nI_eq, nI_lt0, nI_ge0, nI_gt0, nI_le0, nI_eq0] at c14
      obtain rfl : k = F 3 := by omega
      refine r_vret dX9_laysLetters_77 ?_
      exact hQ _ _ hT h1
    · simp (disch := omega) only [nI_leI, nI_ltI, nI_eq, nI_lt0, nI_ge0, nI_gt0, nI_le0, nI_eq0] at c14
      have hln := mLt_mono (F := F) (show k + 1 ≤ F 3 by omega)
      replace hln : (mLt F (k + 1)).length ≤ 882 := Nat.le_trans hln hlen
      have hw9 := hw k (by omega)
      have inner : ∀ (m : Nat) i (M1 : Me) (T : Nat → Nat), m = F (470 + k) / 64 - i → i ≤ F (470 + k) / 64 → LTo (mLt F k ++ (ltrW (F (470 + k))).take i) T → RM G Λ ρ (sN (sA μ 4 T) 15 (nI (mLt F k ++ (ltrW (F (470 + k))).take i).length)) M1 → AW G (wX G yX9_laysLetters cX9_laysLetters 4 none 0 0 Q QX) (d) 0 0 30 [some (.ref (Λ (10, 0, 0))), some (.int (nI k)), some (.int (nI (F (470 + k)))), some (.int (nI i))] [] M1 := by
        intro m
        induction m using Nat.strongRecOn with
        | _ m ih =>
        intro i M1 T hm hi hT h1
        subst hm
        refine r_iload_n (q := 31) dX9_laysLetters_30 rfl rfl ?_
        refine r_iload_n (q := 32) dX9_laysLetters_31 rfl rfl ?_
        refine r_bipush (v := nI 64) (q := 34) dX9_laysLetters_32 (by decide) rfl ?_
        refine r_idiv (q := 35) dX9_laysLetters_34 (by decide) rfl ?_
        rw [n_div (by decide) (by omega) (by decide)]
        refine r_icmp_ge (t := 71) (q := 38) dX9_laysLetters_35 rfl rfl (fun c35 => ?_) (fun c35 => ?_)
        · simp (disch := omega) only [nI_leI, nI_ltI, nI_eq, nI_lt0, nI_ge0, nI_gt0, nI_le0, nI_eq0] at c35
          obtain rfl : i = F (470 + k) / 64 := by omega
          rw [List.take_of_length_le (by rw [ltrW_len]; omega), ← mLt_s] at h1 hT
          refine r_inc1 (q := 74) dX9_laysLetters_71 rfl (Nat.le_of_ble_eq_true rfl) rfl rfl ?_
          show AW _ (_, _, _, _, _, _, _, _, _) _ _ _ _ [some _, some _, some _, some _] _ _
          refine r_goto (t := 7) dX9_laysLetters_74 rfl ?_
          exact iho (F 3 - (k + 1)) (by omega) (k + 1) _ _ _ _ rfl (by omega) hT h1
        · simp (disch := omega) only [nI_leI, nI_ltI, nI_eq, nI_lt0, nI_ge0, nI_gt0, nI_le0, nI_eq0] at c35
          have hl2 : (mLt F k ++ (ltrW (F (470 + k))).take i).length ≤ 881 := by
            rw [List.length_append, List.length_take, ltrW_len]
            rw [mLt_s, List.length_append, ltrW_len] at hln
            omega
          refine r_aload_n (q := 39) dX9_laysLetters_38 rfl rfl ?_
          refine r_get (q := 42) (kk := 13) h1.m rfl wi_RX9 (by decide) rfl fk_X9_51 rfl dX9_laysLetters_39 rfl ?_
          refine r_aload_n (q := 43) dX9_laysLetters_42 rfl rfl ?_
          refine r_get (q := 46) (kk := 15) h1.m rfl wi_RX9 (by decide) rfl fk_X9_57 rfl dX9_laysLetters_43 rfl ?_
          rw [gN_sNs]
          refine r_iload_n (q := 47) dX9_laysLetters_46 rfl rfl ?_
          refine r_bipush (v := nI 64) (q := 49) dX9_laysLetters_47 (by decide) rfl ?_
          refine r_irem (q := 50) dX9_laysLetters_49 (by decide) rfl ?_
          rw [n_rem (by decide) (by omega) (by decide)]
          refine r_iload_n (q := 51) dX9_laysLetters_50 rfl rfl ?_
          refine r_ishr (q := 52) dX9_laysLetters_51 rfl ?_
          rw [n_shr (by omega) (by omega)]
          have q51 : F (470 + k) % 64 / 2 ^ i ≤ F (470 + k) % 64 := Nat.div_le_self _ _
          refine r_iconst (v := nI 1) (q := 53) dX9_laysLetters_52 (by decide) rfl ?_
          refine r_iand (q := 54) dX9_laysLetters_53 rfl ?_
          rw [n_and (w := F (470 + k) % 64 / 2 ^ i) (by omega) 1 1 (by decide)]
          refine r_iastM (q := 55) h1 (by decide) (by simp only [mLen]; omega) (by omega) dX9_laysLetters_54 rfl fun M_54 h1_54 => ?_
          have hT2 := hT.app (x := F (470 + k) % 64 / 2 ^ i % 2 ^ 1)
          rw [List.append_assoc, ← ltrW_at (by omega)] at hT2
          rw [gA_sNe, gA_s, sA_sN, sA_sA] at h1_54
          refine r_aload_n (q := 56) dX9_laysLetters_55 rfl rfl ?_
          refine r_dup (q := 57) dX9_laysLetters_56 rfl rfl ?_
          refine r_get (q := 60) (kk := 15) h1_54.m rfl wi_RX9 (by decide) rfl fk_X9_57 rfl dX9_laysLetters_57 rfl ?_
          rw [gN_sNs]
          refine r_iconst (v := nI 1) (q := 61) dX9_laysLetters_60 (by decide) rfl ?_
          refine r_iadd (q := 62) dX9_laysLetters_61 rfl ?_
          rw [n_add]
          refine r_p9 (q := 65) (kk := 15) (j := 15) h1_54 (by decide) rfl fk_X9_57 dX9_laysLetters_62 rfl fun M_62 h1_62 => ?_
          rw [sN_sN, show (mLt F k ++ (ltrW (F (470 + k))).take i).length + 1 = (mLt F k ++ (ltrW (F (470 + k))).take (i + 1)).length by rw [ltrW_at (by omega), ← List.append_assoc, List.length_append (bs := [_])]; rfl] at h1_62
          refine r_inc1 (q := 68) dX9_laysLetters_65 rfl (Nat.le_of_ble_eq_true rfl) rfl rfl ?_
          show AW _ (_, _, _, _, _, _, _, _, _) _ _ _ _ [some _, some _, some _, some _] _ _
          refine r_goto (t := 30) dX9_laysLetters_68 rfl ?_
          exact ih (F (470 + k) / 64 - (i + 1)) (by omega) (i + 1) _ _ rfl (by omega) hT2 h1_62
      refine r_aload_n (q := 18) dX9_laysLetters_17 rfl rfl ?_
      refine r_get (q := 21) (kk := 0) h1.m rfl wi_RX9 (by decide) rfl fk_X9_7 rfl dX9_laysLetters_18 rfl ?_
      refine r_sipush (v := nI 470) (q := 24) dX9_laysLetters_21 (by decide) rfl ?_
      refine r_iload_n (q := 25) dX9_laysLetters_24 rfl rfl ?_
      refine r_iadd (q := 26) dX9_laysLetters_25 rfl ?_
      rw [n_add]
      refine r_ialdM (q := 27) h1 (by decide) (by simp only [mLen]; omega) dX9_laysLetters_26 rfl ?_
      rw [gA_sNe, gA_n (by decide), hF]
      refine r_istore_n (q := 28) dX9_laysLetters_27 (Nat.le_of_ble_eq_true rfl) rfl rfl ?_
      show AW _ (_, _, _, _, _, _, _, _, _) _ _ _ _ [some _, some _, some _, _] _ _
      refine r_iconst (v := nI 0) (q := 29) dX9_laysLetters_28 (by decide) rfl ?_
      refine r_istore_n (q := 30) dX9_laysLetters_29 (Nat.le_of_ble_eq_true rfl) rfl rfl ?_
      show AW _ (_, _, _, _, _, _, _, _, _) _ _ _ _ [some _, some _, some _, some _] _ _
      exact inner _ 0 _ _ rfl (Nat.zero_le _) (by rw [List.take_zero, List.append_nil]; exact hT) (by rw [List.take_zero, List.append_nil]; exact h1)
  refine MS.of (by decide) (by simp [Value.category]) (Nat.le_of_ble_eq_true rfl) ?_
  show AW _ (_, _, _, _, _, _, _, _, _) _ _ _ _ [some _, _, _, _] _ _
  refine r_aload_n (q := 1) dX9_laysLetters_0 rfl rfl ?_
  refine r_iconst (v := nI 0) (q := 2) dX9_laysLetters_1 (by decide) rfl ?_
  refine r_p9 (q := 5) (kk := 15) (j := 15) h (by decide) rfl fk_X9_57 dX9_laysLetters_2 rfl fun M_2 h_2 => ?_
  refine r_iconst (v := nI 0) (q := 6) dX9_laysLetters_5 (by decide) rfl ?_
  refine r_istore_n (q := 7) dX9_laysLetters_6 (Nat.le_of_ble_eq_true rfl) rfl rfl ?_
  show AW _ (_, _, _, _, _, _, _, _, _) _ _ _ _ [some _, some _, _, _] _ _
  exact loop _ 0 _ (gA μ 4) none none rfl (Nat.zero_le _) LTo.nil (by rw [sA_self]; exact h_2)
def mSdP (F : Nat → Nat) (Lt : List Nat) (l a i : Nat) : Bool := decide (Lt.getD (a + i) 0 = lF F l 1 / 2 ^ i % 2)
def mSd (F : Nat → Nat) (Lt : List Nat) (l a : Nat) : Bool := decide (¬ lF F l 0 = 0) && decide (a + lF F l 0 ≤ Lt.length) && (List.range (lF F l 0)).all (mSdP F Lt l a)
theorem mSd_0 {F : Nat → Nat} {l a : Nat} (h : lF F l 0 = 0) : mSd F Lt l a = false := by rw [mSd, h]; rfl
theorem mSd_1 {F : Nat → Nat} {l a : Nat} (h : ¬ a + lF F l 0 ≤ Lt.length) : mSd F Lt l a = false := by rw [mSd, decide_eq_false h, Bool.and_false]; rfl
theorem mSd_2 {F : Nat → Nat} {l a i : Nat} (hi : i < lF F l 0) (h : mSdP F Lt l a i = false) : mSd F Lt l a = false := by
  cases e : mSd F Lt l a with
  | false => rfl
  | true =>
    rw [mSd, Bool.and_eq_true] at e
    have := List.all_eq_true.mp e.2 i (List.mem_range.mpr hi)
    rw [h] at this; cases this
theorem mSd_3 {F : Nat → Nat} {l a : Nat} (h0 : ¬ lF F l 0 = 0) (h1 : a + lF F l 0 ≤ Lt.length) (h : ∀ i, i < lF F l 0 → mSdP F Lt l a i = true) : mSd F Lt l a = true := by
  rw [mSd, decide_eq_true h0, decide_eq_true h1]
  exact List.all_eq_true.mpr fun i hi => h i (List.mem_range.mp hi)
theorem mSd_p {F : Nat → Nat} {l a : Nat} (h : mSd F Lt l a = true) : 1 ≤ lF F l 0 ∧ a + lF F l 0 ≤ Lt.length := by
  rw [mSd, Bool.and_eq_true, Bool.and_eq_true, decide_eq_true_eq, decide_eq_true_eq] at h
  exact ⟨Nat.one_le_iff_ne_zero.mpr h.1.1, h.1.2⟩
theorem s_X9_stands (h : RM G Λ ρ μ M) (hF : gA μ 0 = F) (hT : LTo Lt (gA μ 4)) (hn : gN μ 15 = nI Lt.length) (hlen : Lt.length ≤ 882) (hx2 : ∀ x ∈ Lt, x < 2) {l a : Nat} (hl : l < 7) (hwn : WN F l) (ha : a ≤ 1000) (hQ : Q (some (.int (bI (mSd F Lt l a)))) M)  : MS G yX9_stands cX9_stands 5 (some .boolean) (d + 1) 0 0 [.ref (Λ (10, 0, 0)), .int (nI l), .int (nI a)] M Q QX := by
  have hwn1 := hwn.1
  have hwn2 := hwn.2
  have loopS : ¬ lF F l 0 = 0 → a + lF F l 0 ≤ Lt.length → AW G (wX G yX9_stands cX9_stands 5 (some .boolean) 0 0 Q QX) (d + 1) 0 0 26 [some (.ref (Λ (10, 0, 0))), some (.int (nI l)), some (.int (nI a)), some (.int (nI (lF F l 0))), some (.int (nI 0))] [] M := by
    intro c8 h18
    have loop : ∀ (m : Nat) i, m = lF F l 0 - i → i ≤ lF F l 0 → (∀ i', i' < i → mSdP F Lt l a i' = true) → AW G (wX G yX9_stands cX9_stands 5 (some .boolean) 0 0 Q QX) (d + 1) 0 0 26 [some (.ref (Λ (10, 0, 0))), some (.int (nI l)), some (.int (nI a)), some (.int (nI (lF F l 0))), some (.int (nI i))] [] M := by
      intro m
      induction m using Nat.strongRecOn with
      | _ m ih =>
      intro i hm hi hp
      subst hm
      refine r_iload (q := 28) dX9_stands_26 rfl rfl ?_
      refine r_iload_n (q := 29) dX9_stands_28 rfl rfl ?_
      refine r_icmp_ge (t := 63) (q := 32) dX9_stands_29 rfl rfl (fun c29 => ?_) (fun c29 => ?_)
      · simp (disch := omega) only [nI_leI, nI_ltI, nI_eq, nI_lt0, nI_ge0, nI_gt0, nI_le0, nI_eq0] at c29
        refine r_iconst (v := nI 1) (q := 64) dX9_stands_63 (by decide) rfl ?_
        refine r_zret dX9_stands_64 (by first | rfl | exact narrow_bI _) ?_
        rw [mSd_3 c8 h18 (fun i' hi' => hp i' (by omega))] at hQ
        exact hQ
      · simp (disch := omega) only [nI_leI, nI_ltI, nI_eq, nI_lt0, nI_ge0, nI_gt0, nI_le0, nI_eq0] at c29
        refine r_aload_n (q := 33) dX9_stands_32 rfl rfl ?_
        refine r_get (q := 36) (kk := 13) h.m rfl wi_RX9 (by decide) rfl fk_X9_51 rfl dX9_stands_33 rfl ?_
        refine r_iload_n (q := 37) dX9_stands_36 rfl rfl ?_
        refine r_iload (q := 39) dX9_stands_37 rfl rfl ?_
        refine r_iadd (q := 40) dX9_stands_39 rfl ?_
        rw [n_add]
        refine r_ialdM (q := 41) h (by decide) (by simp only [mLen]; omega) dX9_stands_40 rfl ?_
        have hy := LTo_lt hT hx2 (j := a + i) (by omega)
        rw [hT (a + i) (by omega)]
        refine r_aload_n (q := 42) dX9_stands_41 rfl rfl ?_
        refine r_iload_n (q := 43) dX9_stands_42 rfl rfl ?_
        refine r_iconst (v := nI 1) (q := 44) dX9_stands_43 (by decide) rfl ?_
        refine r_cV (q := 47) (As := [.int _, .int _]) wc_X9_108 rfl im_X9_lv se_X9_lv h.m rfl rfl (Nat.le_of_ble_eq_true rfl) (Nat.le_of_eq (Nat.zero_add _)) (Nat.le_of_eq (Nat.zero_add _)) dX9_stands_44 rfl rfl (x_lv h (by omega) (by decide) ?_)
        intro b44
        rw [hF] at b44 ⊢
        have hq : lF F l 1 / 2 ^ i ≤ lF F l 1 := Nat.div_le_self _ _
        refine r_iload (q := 49) dX9_stands_47 rfl rfl ?_
        refine r_ishr (q := 50) dX9_stands_49 rfl ?_
        rw [n_shr (by omega) (by omega)]
        refine r_iconst (v := nI 1) (q := 51) dX9_stands_50 (by decide) rfl ?_
        refine r_iand (q := 52) dX9_stands_51 rfl ?_
        rw [n_and (w := lF F l 1 / 2 ^ i) (by omega) 1 1 (by decide)]
        rw [hT (a + i) (by omega)] at hy
        refine r_icmp_eq (t := 57) (q := 55) dX9_stands_52 rfl rfl (fun c52 => ?_) (fun c52 => ?_)
        · rw [nI_eq (by omega) (by omega)] at c52
          refine r_inc1 (q := 60) dX9_stands_57 rfl (Nat.le_of_ble_eq_true rfl) rfl rfl ?_
          show AW _ (_, _, _, _, _, _, _, _, _) _ _ _ _ [some _, some _, some _, some _, some _] _ _
          refine r_goto (t := 26) dX9_stands_60 rfl ?_
          exact ih (lF F l 0 - (i + 1)) (by omega) (i + 1) rfl (by omega) fun i' hi' => if e : i' = i then e ▸ decide_eq_true c52 else hp i' (by omega)
        · rw [nI_eq (by omega) (by omega)] at c52
          rw [mSd_2 (i := i) (by omega) (decide_eq_false c52)] at hQ
          refine r_iconst (v := nI 0) (q := 56) dX9_stands_55 (by decide) rfl ?_
          refine r_zret dX9_stands_56 (by first | rfl | exact narrow_bI _) ?_
          exact hQ
    exact loop _ 0 rfl (Nat.zero_le _) fun i' hi' => absurd hi' (by omega)
  refine MS.of (by decide) (by simp [Value.category]) (Nat.le_of_ble_eq_true rfl) ?_
  show AW _ (_, _, _, _, _, _, _, _, _) _ _ _ _ [some _, some _, some _, _, _] _ _
  refine r_aload_n (q := 1) dX9_stands_0 rfl rfl ?_
  refine r_iload_n (q := 2) dX9_stands_1 rfl rfl ?_
  refine r_iconst (v := nI 0) (q := 3) dX9_stands_2 (by decide) rfl ?_
  refine r_cV (q := 6) (As := [.int _, .int _]) wc_X9_108 rfl im_X9_lv se_X9_lv h.m rfl rfl (Nat.le_of_ble_eq_true rfl) (Nat.le_of_eq (Nat.zero_add _)) (Nat.le_of_eq (Nat.zero_add _)) dX9_stands_3 rfl rfl (x_lv h (by omega) (by decide) ?_)
  intro b3
  rw [hF] at b3 ⊢
  refine r_istore_n (q := 7) dX9_stands_6 (Nat.le_of_ble_eq_true rfl) rfl rfl ?_
  show AW _ (_, _, _, _, _, _, _, _, _) _ _ _ _ [some _, some _, some _, some _, _] _ _
  refine r_iload_n (q := 8) dX9_stands_7 rfl rfl ?_
  refine r_if_eq (t := 21) (q := 11) dX9_stands_8 rfl rfl (fun c8 => ?_) (fun c8 => ?_)
  · simp (disch := omega) only [nI_leI, nI_ltI, nI_eq, nI_lt0, nI_ge0, nI_gt0, nI_le0, nI_eq0] at c8
    rw [mSd_0 c8] at hQ
    refine r_iconst (v := nI 0) (q := 22) dX9_stands_21 (by decide) rfl ?_
    refine r_zret dX9_stands_22 (by first | rfl | exact narrow_bI _) ?_
    exact hQ
  · simp (disch := omega) only [nI_leI, nI_ltI, nI_eq, nI_lt0, nI_ge0, nI_gt0, nI_le0, nI_eq0] at c8
    refine r_iload_n (q := 12) dX9_stands_11 rfl rfl ?_
    refine r_iload_n (q := 13) dX9_stands_12 rfl rfl ?_
    refine r_iadd (q := 14) dX9_stands_13 rfl ?_
    rw [n_add]
    refine r_aload_n (q := 15) dX9_stands_14 rfl rfl ?_
    refine r_get (q := 18) (kk := 15) h.m rfl wi_RX9 (by decide) rfl fk_X9_57 rfl dX9_stands_15 rfl ?_
    rw [hn]
    refine r_icmp_le (t := 23) (q := 21) dX9_stands_18 rfl rfl (fun c18 => ?_) (fun c18 => ?_)
    · simp (disch := omega) only [nI_leI, nI_ltI, nI_eq, nI_lt0, nI_ge0, nI_gt0, nI_le0, nI_eq0] at c18
      refine r_iconst (v := nI 0) (q := 24) dX9_stands_23 (by decide) rfl ?_
      refine r_istore (q := 26) dX9_stands_24 (Nat.le_of_ble_eq_true rfl) rfl rfl ?_
      show AW _ (_, _, _, _, _, _, _, _, _) _ _ _ _ [some _, some _, some _, some _, some _] _ _
      exact loopS c8 c18
    · simp (disch := omega) only [nI_leI, nI_ltI, nI_eq, nI_lt0, nI_ge0, nI_gt0, nI_le0, nI_eq0] at c18
      rw [mSd_1 (by omega)] at hQ
      refine r_iconst (v := nI 0) (q := 22) dX9_stands_21 (by decide) rfl ?_
      refine r_zret dX9_stands_22 (by first | rfl | exact narrow_bI _) ?_
      exact hQ
def mRp (F : Nat → Nat) (Lt : List Nat) (R : Nat → Nat) (a l : Nat) : Bool := mSd F Lt l a && decide (0 < R (a + lF F l 0))
def mRA (F : Nat → Nat) (Lt : List Nat) (R : Nat → Nat) (a : Nat) : Option Nat := (List.range 7).find? (mRp F Lt R a)
def mRsum (F : Nat → Nat) (Lt : List Nat) (R : Nat → Nat) (a k : Nat) : Nat := ((List.range k).map fun l => if mSd F Lt l a = true then R (a + lF F l 0) else 0).sum
theorem mRsum_s {F : Nat → Nat} {R : Nat → Nat} {a k : Nat} : mRsum F Lt R a (k + 1) = mRsum F Lt R a k + if mSd F Lt k a = true then R (a + lF F k 0) else 0 := by
  rw [mRsum, range_sum_succ]; rfl
theorem mRsum_le {F : Nat → Nat} {R : Nat → Nat} {a : Nat} (h : ∀ i, a < i → i ≤ Lt.length → R i ≤ 9999) : ∀ k, mRsum F Lt R a k ≤ 9999 * k
  | 0 => Nat.zero_le _
  | k + 1 => by
    have := mRsum_le (F := F) h k
    rw [mRsum_s]
    split
    · rename_i e
      have e2 := mSd_p e
      have := h (a + lF F k 0) (by omega) e2.2
      omega
    · omega
def mRdS (F : Nat → Nat) (Lt : List Nat) (R : Nat → Nat) (j : Nat) : Nat → Nat := uN R (Lt.length - 1 - j) (if 9999 < mRsum F Lt R (Lt.length - 1 - j) 7 then 9999 else mRsum F Lt R (Lt.length - 1 - j) 7)
def mRs (F : Nat → Nat) (Lt : List Nat) (T : Nat → Nat) (j : Nat) : Nat → Nat := (List.range j).foldl (mRdS F Lt) (uN T Lt.length 1)
theorem mRs_s {F : Nat → Nat} {T : Nat → Nat} {j : Nat} : mRs F Lt T (j + 1) = mRdS F Lt (mRs F Lt T j) j := fold_s
theorem mRs_le {F : Nat → Nat} {T : Nat → Nat} : ∀ j, j ≤ Lt.length → ∀ i, Lt.length - j ≤ i → i ≤ Lt.length → mRs F Lt T j i ≤ 9999
  | 0, _, i, h1, h2 => by
    have : i = Lt.length := by omega
    rw [this]
    show uN T Lt.length 1 Lt.length ≤ _
    rw [uN_s]; decide
  | j + 1, hj, i, h1, h2 => by
    rw [mRs_s, mRdS]
    unfold uN
    split
    · split <;> omega
    · exact mRs_le j (by omega) i (by omega) h2
theorem s_X9_readAt (h : RM G Λ ρ μ M) (hF : gA μ 0 = F) (hT : LTo Lt (gA μ 4)) (hn : gN μ 15 = nI Lt.length) (hlen : Lt.length ≤ 882) (hx2 : ∀ x ∈ Lt, x < 2) {a : Nat} (ha : a ≤ 900) (hbw : BW F) (hQ : Q (some (.int (oI (mRA F Lt (gA μ 5) a)))) M)  : MS G yX9_readAt cX9_readAt 3 (some .int) (d + 2) 0 0 [.ref (Λ (10, 0, 0)), .int (nI a)] M Q QX := by
  have loop : ∀ (m : Nat) l, m = 7 - l → l ≤ 7 → (∀ j, j < l → mRp F Lt (gA μ 5) a j = false) → AW G (wX G yX9_readAt cX9_readAt 3 (some .int) 0 0 Q QX) (d + 2) 0 0 2 [some (.ref (Λ (10, 0, 0))), some (.int (nI a)), some (.int (nI l))] [] M := by
    intro m
    induction m using Nat.strongRecOn with
    | _ m ih =>
    intro l hm hl hp
    subst hm
    refine r_iload_n (q := 3) dX9_readAt_2 rfl rfl ?_
    refine r_bipush (v := nI 7) (q := 5) dX9_readAt_3 (by decide) rfl ?_
    refine r_icmp_ge (t := 41) (q := 8) dX9_readAt_5 rfl rfl (fun c5 => ?_) (fun c5 => ?_)
    · simp (disch := omega) only [nI_leI, nI_ltI, nI_eq, nI_lt0, nI_ge0, nI_gt0, nI_le0, nI_eq0] at c5
      refine r_iconst (v := (-1)) (q := 42) dX9_readAt_41 (by decide) rfl ?_
      refine r_iret dX9_readAt_42 ?_
      obtain rfl : l = 7 := by omega
      rw [show mRA F Lt (gA μ 5) a = none from mfind0 hp] at hQ
      exact hQ
    · simp (disch := omega) only [nI_leI, nI_ltI, nI_eq, nI_lt0, nI_ge0, nI_gt0, nI_le0, nI_eq0] at c5
      refine r_aload_n (q := 9) dX9_readAt_8 rfl rfl ?_
      refine r_iload_n (q := 10) dX9_readAt_9 rfl rfl ?_
      refine r_iload_n (q := 11) dX9_readAt_10 rfl rfl ?_
      refine r_cV (q := 14) (As := [.int _, .int _]) wc_X9_266 rfl im_X9_stands se_X9_stands h.m rfl rfl (Nat.le_of_ble_eq_true rfl) (Nat.le_of_eq (Nat.zero_add _)) (Nat.le_of_eq (Nat.zero_add _)) dX9_readAt_11 rfl rfl (s_X9_stands h hF hT hn hlen hx2 (by omega) (hbw l (by omega)) (by omega) ?_)
      refine r_if_eq (t := 35) (q := 17) dX9_readAt_14 rfl rfl (fun c14 => ?_) (fun c14 => ?_)
      · refine r_inc1 (q := 38) dX9_readAt_35 rfl (Nat.le_of_ble_eq_true rfl) rfl rfl ?_
        show AW _ (_, _, _, _, _, _, _, _, _) _ _ _ _ [some _, some _, some _] _ _
        refine r_goto (t := 2) dX9_readAt_38 rfl ?_
        refine ih (7 - (l + 1)) (by omega) (l + 1) rfl (by omega) fun j hj => if e : j = l then ?_ else hp j (by omega)
        rw [e, mRp]
        first
          | (rw [bI_eq0.mp c14]; rfl)
          | (rw [decide_eq_false (by omega), Bool.and_false])
      · have hsp := mSd_p (bI_ne c14)
        refine r_aload_n (q := 18) dX9_readAt_17 rfl rfl ?_
        refine r_get (q := 21) (kk := 14) h.m rfl wi_RX9 (by decide) rfl fk_X9_54 rfl dX9_readAt_18 rfl ?_
        refine r_iload_n (q := 22) dX9_readAt_21 rfl rfl ?_
        refine r_aload_n (q := 23) dX9_readAt_22 rfl rfl ?_
        refine r_iload_n (q := 24) dX9_readAt_23 rfl rfl ?_
        refine r_iconst (v := nI 0) (q := 25) dX9_readAt_24 (by decide) rfl ?_
        refine r_cV (q := 28) (As := [.int _, .int _]) wc_X9_108 rfl im_X9_lv se_X9_lv h.m rfl rfl (Nat.le_of_ble_eq_true rfl) (Nat.le_of_eq (Nat.zero_add _)) (Nat.le_of_eq (Nat.zero_add _)) dX9_readAt_25 rfl rfl (x_lv h (by omega) (by decide) ?_)
        intro b25
        rw [hF] at b25 ⊢
        refine r_iadd (q := 29) dX9_readAt_28 rfl ?_
        rw [n_add]
        refine r_ialdM (q := 30) h (by decide) (by simp only [mLen]; omega) dX9_readAt_29 rfl ?_
        have b29 : gA μ 5 (a + lF F l 0) < 2 ^ 31 := h.lt (by decide) (by show a + lF F l 0 < 1101; omega)
        refine r_if_le (t := 35) (q := 33) dX9_readAt_30 rfl rfl (fun c30 => ?_) (fun c30 => ?_)
        · simp (disch := omega) only [nI_leI, nI_ltI, nI_eq, nI_lt0, nI_ge0, nI_gt0, nI_le0, nI_eq0] at c30
          refine r_inc1 (q := 38) dX9_readAt_35 rfl (Nat.le_of_ble_eq_true rfl) rfl rfl ?_
          show AW _ (_, _, _, _, _, _, _, _, _) _ _ _ _ [some _, some _, some _] _ _
          refine r_goto (t := 2) dX9_readAt_38 rfl ?_
          refine ih (7 - (l + 1)) (by omega) (l + 1) rfl (by omega) fun j hj => if e : j = l then ?_ else hp j (by omega)
          rw [e, mRp]
          first
            | (rw [bI_eq0.mp c14]; rfl)
            | (rw [decide_eq_false (by omega), Bool.and_false])
        · simp (disch := omega) only [nI_leI, nI_ltI, nI_eq, nI_lt0, nI_ge0, nI_gt0, nI_le0, nI_eq0] at c30
          refine r_iload_n (q := 34) dX9_readAt_33 rfl rfl ?_
          refine r_iret dX9_readAt_34 ?_
          rw [show mRA F Lt (gA μ 5) a = some l from mfind (by omega) hp (by rw [mRp, bI_ne c14, decide_eq_true (by omega)]; rfl)] at hQ
          exact hQ
  refine MS.of (by decide) (by simp [Value.category]) (Nat.le_of_ble_eq_true rfl) ?_
  show AW _ (_, _, _, _, _, _, _, _, _) _ _ _ _ [some _, some _, _] _ _
  refine r_iconst (v := nI 0) (q := 1) dX9_readAt_0 (by decide) rfl ?_
  refine r_istore_n (q := 2) dX9_readAt_1 (Nat.le_of_ble_eq_true rfl) rfl rfl ?_
  show AW _ (_, _, _, _, _, _, _, _, _) _ _ _ _ [some _, some _, some _] _ _
  exact loop _ 0 rfl (Nat.zero_le _) fun j hj => absurd hj (by omega)
theorem s_X9_laysReadings (h : RM G Λ ρ μ M) (hF : gA μ 0 = F) (hbw : BW F) (hc3 : F 3 ≤ 147) (hw : ∀ k, k < F 3 → F (470 + k) < 448) (hL : mLt F (F 3) = Lt) (hlen : Lt.length ≤ 882) (hQ : ∀ M' T R, LTo Lt T → mRs F Lt (gA μ 5) Lt.length = R → RM G Λ ρ (sA (sN (sA μ 4 T) 15 (nI Lt.length)) 5 R) M' → Q (some (.int (nI (R 0)))) M')  : MS G yX9_laysReadings cX9_laysReadings 4 (some .int) (d + 2) 0 0 [.ref (Λ (10, 0, 0))] M Q QX := by
  have hx2 : ∀ x ∈ Lt, x < 2 := by rw [← hL]; exact mLt_lt2
  have lp : ∀ T, LTo Lt T → ∀ (mm : Nat) e M1 u2 u3, mm = e → e ≤ Lt.length → RM G Λ ρ (sA (sN (sA μ 4 T) 15 (nI Lt.length)) 5 (mRs F Lt (gA μ 5) (Lt.length - e))) M1 → AW G (wX G yX9_laysReadings cX9_laysReadings 4 (some .int) 0 0 Q QX) (d + 2) 0 0 21 [some (.ref (Λ (10, 0, 0))), some (.int (eI e)), u2, u3] [] M1 := by
    intro T hT mm
    induction mm using Nat.strongRecOn with
    | _ mm iho =>
    intro e M1 u2 u3 hmm he h1
    subst hmm
    cases mm with
    | zero =>
      refine r_iload_n (q := 22) dX9_laysReadings_21 rfl rfl ?_
      refine r_if_lt (t := 96) (q := 25) dX9_laysReadings_22 rfl rfl (fun c22 => ?_) (fun c22 => ?_)
      · refine r_aload_n (q := 97) dX9_laysReadings_96 rfl rfl ?_
        refine r_get (q := 100) (kk := 14) h1.m rfl wi_RX9 (by decide) rfl fk_X9_54 rfl dX9_laysReadings_97 rfl ?_
        refine r_iconst (v := nI 0) (q := 101) dX9_laysReadings_100 (by decide) rfl ?_
        refine r_ialdM (q := 102) h1 (by decide) (by simp only [mLen]; omega) dX9_laysReadings_101 rfl ?_
        rw [gA_s]
        refine r_iret dX9_laysReadings_102 ?_
        exact hQ _ _ _ hT rfl (by rw [← Nat.sub_zero Lt.length]; exact h1)
      · exact absurd (show eI 0 < 0 by decide) c22
    | succ e1 =>
      refine r_iload_n (q := 22) dX9_laysReadings_21 rfl rfl ?_
      refine r_if_lt (t := 96) (q := 25) dX9_laysReadings_22 rfl rfl (fun c22 => ?_) (fun c22 => ?_)
      · exact absurd ((eI_neg2 (by omega)).mp c22) (by omega)
      · rw [eI_s]
        generalize hR : mRs F Lt (gA μ 5) (Lt.length - (e1 + 1)) = R at h1
        have hRle : ∀ i, e1 < i → i ≤ Lt.length → R i ≤ 9999 := fun i h2 h3 => by rw [← hR]; exact mRs_le _ (by omega) i (by omega) h3
        have hF1 : gA (sA (sN (sA μ 4 T) 15 (nI Lt.length)) 5 R) 0 = F := by rw [gA_n (by decide), gA_sNe, gA_n (by decide), hF]
        have hT1 : LTo Lt (gA (sA (sN (sA μ 4 T) 15 (nI Lt.length)) 5 R) 4) := by rw [gA_n (by decide), gA_sNe, gA_s]; exact hT
        have hn1 : gN (sA (sN (sA μ 4 T) 15 (nI Lt.length)) 5 R) 15 = nI Lt.length := rfl
        have inner : ∀ (m : Nat) k, m = 7 - k → k ≤ 7 → AW G (wX G yX9_laysReadings cX9_laysReadings 4 (some .int) 0 0 Q QX) (d + 2) 0 0 29 [some (.ref (Λ (10, 0, 0))), some (.int (nI e1)), some (.int (nI (mRsum F Lt R e1 k))), some (.int (nI k))] [] M1 := by
          intro m
          induction m using Nat.strongRecOn with
          | _ m ih =>
          intro k hm hk
          subst hm
          have hs9 := mRsum_le (F := F) (R := R) (a := e1) (Lt := Lt) (fun i h1 h2 => hRle i h1 h2) k
          refine r_iload_n (q := 30) dX9_laysReadings_29 rfl rfl ?_
          refine r_bipush (v := nI 7) (q := 32) dX9_laysReadings_30 (by decide) rfl ?_
          refine r_icmp_ge (t := 70) (q := 35) dX9_laysReadings_32 rfl rfl (fun c32 => ?_) (fun c32 => ?_)
          · simp (disch := omega) only [nI_leI, nI_ltI, nI_eq, nI_lt0, nI_ge0, nI_gt0, nI_le0, nI_eq0] at c32
            obtain rfl : k = 7 := by omega
            have hs7 := mRsum_le (F := F) (R := R) (a := e1) (Lt := Lt) (fun i h1 h2 => hRle i h1 h2) 7
            refine r_aload_n (q := 71) dX9_laysReadings_70 rfl rfl ?_
            refine r_get (q := 74) (kk := 14) h1.m rfl wi_RX9 (by decide) rfl fk_X9_54 rfl dX9_laysReadings_71 rfl ?_
            refine r_iload_n (q := 75) dX9_laysReadings_74 rfl rfl ?_
            refine r_iload_n (q := 76) dX9_laysReadings_75 rfl rfl ?_
            refine r_sipush (v := nI 9999) (q := 79) dX9_laysReadings_76 (by decide) rfl ?_
            refine r_icmp_le (t := 88) (q := 82) dX9_laysReadings_79 rfl rfl (fun c79 => ?_) (fun c79 => ?_)
            · simp (disch := omega) only [nI_leI, nI_ltI, nI_eq, nI_lt0, nI_ge0, nI_gt0, nI_le0, nI_eq0] at c79
              have e8 : (if 9999 < mRsum F Lt R e1 7 then 9999 else mRsum F Lt R e1 7) = mRsum F Lt R e1 7 := if_neg (by omega)
              refine r_iload_n (q := 89) dX9_laysReadings_88 rfl rfl ?_
              refine r_iastM (q := 90) h1 (by decide) (by simp only [mLen]; omega) (by omega) dX9_laysReadings_89 rfl fun M_89 h1_89 => ?_
              rw [sA_sA, gA_s] at h1_89
              refine r_iinc (q := 93) dX9_laysReadings_90 rfl rfl (Nat.le_of_ble_eq_true rfl) rfl rfl ?_
              show AW _ (_, _, _, _, _, _, _, _, _) _ _ _ _ [some _, some _, some _, some _] _ _
              refine r_goto (t := 21) dX9_laysReadings_93 rfl ?_
              rw [eI_dec]
              exact iho e1 (by omega) e1 _ _ _ rfl (by omega) (by rw [show Lt.length - e1 = (Lt.length - (e1 + 1)) + 1 by omega, mRs_s, mRdS, show Lt.length - 1 - (Lt.length - (e1 + 1)) = e1 by omega, hR, e8]; exact h1_89)
            · simp (disch := omega) only [nI_leI, nI_ltI, nI_eq, nI_lt0, nI_ge0, nI_gt0, nI_le0, nI_eq0] at c79
              have e8 : (if 9999 < mRsum F Lt R e1 7 then 9999 else mRsum F Lt R e1 7) = 9999 := if_pos (by omega)
              refine r_sipush (v := nI 9999) (q := 85) dX9_laysReadings_82 (by decide) rfl ?_
              refine r_goto (t := 89) dX9_laysReadings_85 rfl ?_
              refine r_iastM (q := 90) h1 (by decide) (by simp only [mLen]; omega) (by omega) dX9_laysReadings_89 rfl fun M_89 h1_89 => ?_
              rw [sA_sA, gA_s] at h1_89
              refine r_iinc (q := 93) dX9_laysReadings_90 rfl rfl (Nat.le_of_ble_eq_true rfl) rfl rfl ?_
              show AW _ (_, _, _, _, _, _, _, _, _) _ _ _ _ [some _, some _, some _, some _] _ _
              refine r_goto (t := 21) dX9_laysReadings_93 rfl ?_
              rw [eI_dec]
              exact iho e1 (by omega) e1 _ _ _ rfl (by omega) (by rw [show Lt.length - e1 = (Lt.length - (e1 + 1)) + 1 by omega, mRs_s, mRdS, show Lt.length - 1 - (Lt.length - (e1 + 1)) = e1 by omega, hR, e8]; exact h1_89)
          · simp (disch := omega) only [nI_leI, nI_ltI, nI_eq, nI_lt0, nI_ge0, nI_gt0, nI_le0, nI_eq0] at c32
            refine r_iload_n (q := 36) dX9_laysReadings_35 rfl rfl ?_
            refine r_aload_n (q := 37) dX9_laysReadings_36 rfl rfl ?_
            refine r_iload_n (q := 38) dX9_laysReadings_37 rfl rfl ?_
            refine r_iload_n (q := 39) dX9_laysReadings_38 rfl rfl ?_
            refine r_cV (q := 42) (As := [.int _, .int _]) wc_X9_266 rfl im_X9_stands se_X9_stands h1.m rfl rfl (Nat.le_of_ble_eq_true rfl) (Nat.le_of_eq (Nat.zero_add _)) (Nat.le_of_eq (Nat.zero_add _)) dX9_laysReadings_39 rfl rfl (s_X9_stands (F := F) (Lt := Lt) h1 hF1 hT1 hn1 hlen hx2 (by omega) (hbw k (by omega)) (by omega) ?_)
            refine r_if_eq (t := 61) (q := 45) dX9_laysReadings_42 rfl rfl (fun c42 => ?_) (fun c42 => ?_)
            · have e9 : mRsum F Lt R e1 (k + 1) = mRsum F Lt R e1 k + 0 := by rw [mRsum_s, if_neg (by rw [bI_eq0.mp c42]; decide)]
              refine r_iconst (v := nI 0) (q := 62) dX9_laysReadings_61 (by decide) rfl ?_
              refine r_iadd (q := 63) dX9_laysReadings_62 rfl ?_
              rw [n_add]
              refine r_istore_n (q := 64) dX9_laysReadings_63 (Nat.le_of_ble_eq_true rfl) rfl rfl ?_
              show AW _ (_, _, _, _, _, _, _, _, _) _ _ _ _ [some _, some _, some _, some _] _ _
              refine r_inc1 (q := 67) dX9_laysReadings_64 rfl (Nat.le_of_ble_eq_true rfl) rfl rfl ?_
              show AW _ (_, _, _, _, _, _, _, _, _) _ _ _ _ [some _, some _, some _, some _] _ _
              refine r_goto (t := 29) dX9_laysReadings_67 rfl ?_
              rw [← e9]
              exact ih (7 - (k + 1)) (by omega) (k + 1) rfl (by omega)
            · have e9 : mRsum F Lt R e1 (k + 1) = mRsum F Lt R e1 k + R (e1 + lF F k 0) := by rw [mRsum_s, if_pos (bI_ne c42)]
              have hsp := mSd_p (bI_ne c42)
              refine r_aload_n (q := 46) dX9_laysReadings_45 rfl rfl ?_
              refine r_get (q := 49) (kk := 14) h1.m rfl wi_RX9 (by decide) rfl fk_X9_54 rfl dX9_laysReadings_46 rfl ?_
              refine r_iload_n (q := 50) dX9_laysReadings_49 rfl rfl ?_
              refine r_aload_n (q := 51) dX9_laysReadings_50 rfl rfl ?_
              refine r_iload_n (q := 52) dX9_laysReadings_51 rfl rfl ?_
              refine r_iconst (v := nI 0) (q := 53) dX9_laysReadings_52 (by decide) rfl ?_
              refine r_cV (q := 56) (As := [.int _, .int _]) wc_X9_108 rfl im_X9_lv se_X9_lv h1.m rfl rfl (Nat.le_of_ble_eq_true rfl) (Nat.le_of_eq (Nat.zero_add _)) (Nat.le_of_eq (Nat.zero_add _)) dX9_laysReadings_53 rfl rfl (x_lv h1 (by omega) (by decide) ?_)
              intro b53
              rw [hF1] at b53 ⊢
              refine r_iadd (q := 57) dX9_laysReadings_56 rfl ?_
              rw [n_add]
              refine r_ialdM (q := 58) h1 (by decide) (by simp only [mLen]; omega) dX9_laysReadings_57 rfl ?_
              rw [gA_s]
              have hR57 := hRle (e1 + lF F k 0) (by omega) hsp.2
              refine r_goto (t := 62) dX9_laysReadings_58 rfl ?_
              refine r_iadd (q := 63) dX9_laysReadings_62 rfl ?_
              rw [n_add]
              refine r_istore_n (q := 64) dX9_laysReadings_63 (Nat.le_of_ble_eq_true rfl) rfl rfl ?_
              show AW _ (_, _, _, _, _, _, _, _, _) _ _ _ _ [some _, some _, some _, some _] _ _
              refine r_inc1 (q := 67) dX9_laysReadings_64 rfl (Nat.le_of_ble_eq_true rfl) rfl rfl ?_
              show AW _ (_, _, _, _, _, _, _, _, _) _ _ _ _ [some _, some _, some _, some _] _ _
              refine r_goto (t := 29) dX9_laysReadings_67 rfl ?_
              rw [← e9]
              exact ih (7 - (k + 1)) (by omega) (k + 1) rfl (by omega)
        refine r_iconst (v := nI 0) (q := 26) dX9_laysReadings_25 (by decide) rfl ?_
        refine r_istore_n (q := 27) dX9_laysReadings_26 (Nat.le_of_ble_eq_true rfl) rfl rfl ?_
        show AW _ (_, _, _, _, _, _, _, _, _) _ _ _ _ [some _, some _, some _, _] _ _
        refine r_iconst (v := nI 0) (q := 28) dX9_laysReadings_27 (by decide) rfl ?_
        refine r_istore_n (q := 29) dX9_laysReadings_28 (Nat.le_of_ble_eq_true rfl) rfl rfl ?_
        show AW _ (_, _, _, _, _, _, _, _, _) _ _ _ _ [some _, some _, some _, some _] _ _
        exact inner _ 0 rfl (Nat.zero_le _)
  refine MS.of (by decide) (by simp [Value.category]) (Nat.le_of_ble_eq_true rfl) ?_
  show AW _ (_, _, _, _, _, _, _, _, _) _ _ _ _ [some _, _, _, _] _ _
  refine r_aload_n (q := 1) dX9_laysReadings_0 rfl rfl ?_
  refine r_cV (q := 4) (As := []) wc_X9_263 rfl im_X9_laysLetters se_X9_laysLetters h.m rfl rfl (Nat.le_of_ble_eq_true rfl) (Nat.le_of_eq (Nat.zero_add _)) (Nat.le_of_eq (Nat.zero_add _)) dX9_laysReadings_1 rfl rfl (s_X9_laysLetters h hF hc3 hw (by rw [hL]; exact hlen) fun M_1 T hT h_1 => ?_)
  rw [hL] at hT h_1
  refine r_aload_n (q := 5) dX9_laysReadings_4 rfl rfl ?_
  refine r_get (q := 8) (kk := 14) h_1.m rfl wi_RX9 (by decide) rfl fk_X9_54 rfl dX9_laysReadings_5 rfl ?_
  refine r_aload_n (q := 9) dX9_laysReadings_8 rfl rfl ?_
  refine r_get (q := 12) (kk := 15) h_1.m rfl wi_RX9 (by decide) rfl fk_X9_57 rfl dX9_laysReadings_9 rfl ?_
  rw [gN_sNs]
  refine r_iconst (v := nI 1) (q := 13) dX9_laysReadings_12 (by decide) rfl ?_
  refine r_iastM (q := 14) h_1 (by decide) (by simp only [mLen]; omega) (x := 1) (by decide) dX9_laysReadings_13 rfl fun M_13 h_13 => ?_
  rw [gA_sNe, gA_n (by decide)] at h_13
  refine r_aload_n (q := 15) dX9_laysReadings_14 rfl rfl ?_
  refine r_get (q := 18) (kk := 15) h_13.m rfl wi_RX9 (by decide) rfl fk_X9_57 rfl dX9_laysReadings_15 rfl ?_
  rw [gN_sA, gN_sNs]
  refine r_iconst (v := nI 1) (q := 19) dX9_laysReadings_18 (by decide) rfl ?_
  refine r_isub (q := 20) dX9_laysReadings_19 rfl ?_
  rw [show nI Lt.length - nI 1 = eI Lt.length from rfl]
  refine r_istore_n (q := 21) dX9_laysReadings_20 (Nat.le_of_ble_eq_true rfl) rfl rfl ?_
  show AW _ (_, _, _, _, _, _, _, _, _) _ _ _ _ [some _, some _, _, _] _ _
  exact lp T hT _ _ _ none none rfl (Nat.le_refl _) (by rw [Nat.sub_self]; exact h_13)
/-- what laysReadings needs -/
def LRN (F : Nat → Nat) (Lt : List Nat) : Prop := BW F ∧ F 3 ≤ 147 ∧ (∀ k, k < F 3 → F (470 + k) < 448) ∧ mLt F (F 3) = Lt ∧ Lt.length ≤ 882
theorem x_laysR (h : RM G Λ ρ μ M) (hF : gA μ 0 = F) (hn : LRN F Lt) (hQ : ∀ M' T R, LTo Lt T → mRs F Lt (gA μ 5) Lt.length = R → RM G Λ ρ (sA (sN (sA μ 4 T) 15 (nI Lt.length)) 5 R) M' → Q (some (.int (nI (R 0)))) M') : MS G yX9_laysReadings cX9_laysReadings 4 (some .int) (d + 2) 0 0 [.ref (Λ (10, 0, 0))] M Q QX :=
  s_X9_laysReadings h hF hn.1 hn.2.1 hn.2.2.1 hn.2.2.2.1 hn.2.2.2.2 hQ
/-- the readings from the end, whatever stood there before -/
def mRE (F : Nat → Nat) (Lt : List Nat) (T : Nat → Nat) : Nat → Nat := mRs F Lt T Lt.length
def mLAt (F : Nat → Nat) (Lt : List Nat) (R : Nat → Nat) (place : Int32) : Nat → Nat → Nat → Option Nat
  | 0, _, _ => none
  | r + 1, k, p => if Lt.length ≤ p then none else match mRA F Lt R p with
    | none => none
    | some l => if nI k = place then some l else mLAt F Lt R place r (k + 1) (p + lF F l 0)
def mqRd (F : Nat → Nat) (Lt : List Nat) (R : Nat → Nat) (place : Int32) : An := if R 0 = 0 then (1, 0) else if place < 0 then (1, 0) else match mLAt F Lt R place Lt.length 0 0 with
  | none => (1, 0)
  | some l => (0, nI l)
theorem mLAt_0 {F R : Nat → Nat} {place : Int32} {r k p : Nat} (h : Lt.length ≤ p) : mLAt F Lt R place r k p = none := by
  cases r with
  | zero => rfl
  | succ r => rw [mLAt, if_pos h]
theorem mRA_p {F R : Nat → Nat} {a l : Nat} (h : mRA F Lt R a = some l) : l < 7 ∧ mSd F Lt l a = true ∧ 0 < R (a + lF F l 0) := by
  have h1 := List.find?_some h
  rw [mRp, Bool.and_eq_true, decide_eq_true_eq] at h1
  exact ⟨List.mem_range.mp (List.mem_of_find?_eq_some h), h1.1, h1.2⟩
theorem mRsum_pos {F R : Nat → Nat} {a : Nat} (h : mRA F Lt R a = none) : ∀ k, k ≤ 7 → mRsum F Lt R a k = 0
  | 0, _ => rfl
  | k + 1, hk => by
    rw [mRsum_s, mRsum_pos h k (by omega)]
    have h1 := List.find?_eq_none.mp h k (List.mem_range.mpr (by omega))
    rw [mRp, Bool.and_eq_true, decide_eq_true_eq] at h1
    split
    · rename_i e
      have : ¬ 0 < R (a + lF F k 0) := fun g => h1 ⟨e, g⟩
      omega
    · rfl
theorem mRs_keep {F T : Nat → Nat} : ∀ j, j ≤ Lt.length → ∀ j', j ≤ j' → j' ≤ Lt.length → ∀ i, Lt.length - j ≤ i → mRs F Lt T j' i = mRs F Lt T j i := by
  intro j hj j' hjj hj' i hi
  induction hjj with
  | refl => rfl
  | @step m hm ih =>
    have hm' : j ≤ m := hm
    rw [mRs_s, mRdS]
    unfold uN
    rw [if_neg (by omega)]
    exact ih (by omega)
theorem mRsum_congr {F R R' : Nat → Nat} {a : Nat} (h : ∀ i, a < i → i ≤ Lt.length → R i = R' i) : ∀ k, mRsum F Lt R a k = mRsum F Lt R' a k
  | 0 => rfl
  | k + 1 => by
    rw [mRsum_s, mRsum_s, mRsum_congr h k]
    split
    · rename_i e
      have e2 := mSd_p e
      rw [h _ (by omega) e2.2]
    · rfl
theorem mRE_at {F T : Nat → Nat} {a : Nat} (ha : a < Lt.length) : mRE F Lt T a = if 9999 < mRsum F Lt (mRE F Lt T) a 7 then 9999 else mRsum F Lt (mRE F Lt T) a 7 := by
  have e1 : mRE F Lt T a = mRs F Lt T (Lt.length - a) a := mRs_keep (Lt.length - a) (by omega) Lt.length (by omega) (Nat.le_refl _) a (by omega)
  have e2 : mRsum F Lt (mRE F Lt T) a 7 = mRsum F Lt (mRs F Lt T (Lt.length - a - 1)) a 7 := mRsum_congr (fun i hi hi2 => mRs_keep (Lt.length - a - 1) (by omega) Lt.length (by omega) (Nat.le_refl _) i (by omega)) 7
  rw [e1, e2, show Lt.length - a = (Lt.length - a - 1) + 1 by omega, mRs_s, mRdS, show Lt.length - 1 - (Lt.length - a - 1) = a by omega, uN_s]
  rfl
theorem mRE_n {F T : Nat → Nat} : mRE F Lt T Lt.length = 1 := by
  have e1 : mRE F Lt T Lt.length = mRs F Lt T 0 Lt.length := mRs_keep 0 (Nat.zero_le _) Lt.length (Nat.zero_le _) (Nat.le_refl _) _ (by omega)
  rw [e1]; exact uN_s
theorem mRA_some {F T : Nat → Nat} {a : Nat} (ha : a < Lt.length) (h : 0 < mRE F Lt T a) : ∃ l, mRA F Lt (mRE F Lt T) a = some l := by
  cases e : mRA F Lt (mRE F Lt T) a with
  | some l => exact ⟨l, rfl⟩
  | none =>
    rw [mRE_at ha, mRsum_pos e 7 (Nat.le_refl _)] at h
    exact absurd h (by decide)
theorem mRE_c {F T T' : Nat → Nat} : ∀ j, j ≤ Lt.length → ∀ i, Lt.length - j ≤ i → i ≤ Lt.length → mRs F Lt T j i = mRs F Lt T' j i
  | 0, _, i, h1, h2 => by
    have e : i = Lt.length := by omega
    subst e
    exact uN_s.trans uN_s.symm
  | j + 1, hj, i, h1, h2 => by
    rw [mRs_s, mRs_s, mRdS, mRdS, mRsum_congr (R' := mRs F Lt T' j) (fun i hi hi2 => mRE_c j (by omega) i (by omega) hi2) 7]
    unfold uN
    split
    · rfl
    · exact mRE_c j (by omega) i (by omega) h2
theorem s_X9_ways (h : RM G Λ ρ μ M) {b : Bool} (hn : LRN (gA μ 0) Lt) (hQ : ∀ M' T R, mRE (gA μ 0) Lt (gA μ 5) = R → RM G Λ ρ (sA (sN (sA (sN μ 4 (nI 0)) 4 T) 15 (nI Lt.length)) 5 R) M' → Q (some (.int (nI (R 0)))) M')  : MS G yX9_ways cX9_ways 2 (some .int) (d + 3) 0 0 [.ref (Λ (10, 0, 0)), .int (bI b)] M Q QX := by
  refine MS.of (by decide) (by simp [Value.category]) (Nat.le_of_ble_eq_true rfl) ?_
  show AW _ (_, _, _, _, _, _, _, _, _) _ _ _ _ [some _, some _] _ _
  refine r_aload_n (q := 1) dX9_ways_0 rfl rfl ?_
  refine r_iconst (v := nI 0) (q := 2) dX9_ways_1 (by decide) rfl ?_
  refine r_p9 (q := 5) (kk := 4) (j := 4) h (by decide) rfl fk_X9_22 dX9_ways_2 rfl fun M_2 h_2 => ?_
  refine r_aload_n (q := 6) dX9_ways_5 rfl rfl ?_
  refine r_cV (q := 9) (As := []) wc_X9_269 rfl im_X9_laysReadings se_X9_laysReadings h_2.m rfl rfl (Nat.le_of_ble_eq_true rfl) (Nat.le_of_eq (Nat.zero_add _)) (Nat.le_of_eq (Nat.zero_add _)) dX9_ways_6 rfl rfl (x_laysR (F := gA μ 0) h_2 rfl hn fun M_6 T R hT hR h_6 => ?_)
  refine r_iret dX9_ways_9 ?_
  exact hQ _ T R hR h_6
theorem s_X9_reading (h : RM G Λ ρ μ M) {place : Int32} (hF : gA μ 0 = F) (hn : LRN F Lt) (hQ : ∀ M' T R, mRE F Lt (gA μ 5) = R → RM G Λ ρ (sA (sN (sA (sN μ 4 (nI (mqRd F Lt R place).1)) 4 T) 15 (nI Lt.length)) 5 R) M' → Q (some (.int (mqRd F Lt R place).2)) M')  : MS G yX9_reading cX9_reading 5 (some .int) (d + 3) 0 0 [.ref (Λ (10, 0, 0)), .int place] M Q QX := by
  have hlen := hn.2.2.2.2
  have hx2 : ∀ x ∈ Lt, x < 2 := by rw [← hn.2.2.2.1]; exact mLt_lt2
  have hbw := hn.1
  have okp : ∀ M1 T R, LTo Lt T → mRE F Lt (gA μ 5) = R → RM G Λ ρ (sA (sN (sA (sN μ 4 (nI 0)) 4 T) 15 (nI Lt.length)) 5 R) M1 → 0 < R 0 → ((mLAt F Lt R place Lt.length 0 0 = none → ∀ M', RM G Λ ρ (sN (sA (sN (sA (sN μ 4 (nI 0)) 4 T) 15 (nI Lt.length)) 5 R) 4 (nI 1)) M' → Q (some (.int (nI 0))) M') ∧ (∀ l, mLAt F Lt R place Lt.length 0 0 = some l → Q (some (.int (nI l))) M1)) → AW G (wX G yX9_reading cX9_reading 5 (some .int) 0 0 Q QX) (d + 3) 0 0 26 [some (.ref (Λ (10, 0, 0))), some (.int place), some (.int (nI 0)), some (.int (nI 0)), none] [] M1 := by
    intro M1 T R hT hR h1 h0 hQ0
    have hF1 : gA (sA (sN (sA (sN μ 4 (nI 0)) 4 T) 15 (nI Lt.length)) 5 R) 0 = F := by rw [gA_n (by decide), gA_sNe, gA_n (by decide), gA_sNe, hF]
    have hT1 : LTo Lt (gA (sA (sN (sA (sN μ 4 (nI 0)) 4 T) 15 (nI Lt.length)) 5 R) 4) := by rw [gA_n (by decide), gA_sNe, gA_s]; exact hT
    have hn1 : gN (sA (sN (sA (sN μ 4 (nI 0)) 4 T) 15 (nI Lt.length)) 5 R) 15 = nI Lt.length := rfl
    have loop : ∀ (m : Nat) r k p u, m = r → Lt.length - p ≤ r → k + r ≤ 900 → (p ≤ Lt.length ∧ 0 < R p) → ((mLAt F Lt R place r k p = none → ∀ M', RM G Λ ρ (sN (sA (sN (sA (sN μ 4 (nI 0)) 4 T) 15 (nI Lt.length)) 5 R) 4 (nI 1)) M' → Q (some (.int (nI 0))) M') ∧ (∀ l, mLAt F Lt R place r k p = some l → Q (some (.int (nI l))) M1)) → AW G (wX G yX9_reading cX9_reading 5 (some .int) 0 0 Q QX) (d + 3) 0 0 26 [some (.ref (Λ (10, 0, 0))), some (.int place), some (.int (nI p)), some (.int (nI k)), u] [] M1 := by
      intro m
      induction m using Nat.strongRecOn with
      | _ m ih =>
      intro r k p u hm hp hk hpos hQ1
      subst hm
      refine r_iload_n (q := 27) dX9_reading_26 rfl rfl ?_
      refine r_aload_n (q := 28) dX9_reading_27 rfl rfl ?_
      refine r_get (q := 31) (kk := 15) h1.m rfl wi_RX9 (by decide) rfl fk_X9_57 rfl dX9_reading_28 rfl ?_
      rw [gN_sA, gN_sNs]
      refine r_icmp_ge (t := 65) (q := 34) dX9_reading_31 rfl rfl (fun c31 => ?_) (fun c31 => ?_)
      · simp (disch := omega) only [nI_leI, nI_ltI, nI_eq, nI_lt0, nI_ge0, nI_gt0, nI_le0, nI_eq0] at c31
        refine r_aload_n (q := 66) dX9_reading_65 rfl rfl ?_
        refine r_iconst (v := nI 1) (q := 67) dX9_reading_66 (by decide) rfl ?_
        refine r_cV (q := 70) (As := [.int _]) wc_X9_96 rfl im_X9_no se_X9_no h1.m rfl rfl (Nat.le_of_ble_eq_true rfl) (Nat.le_of_eq (Nat.zero_add _)) (Nat.le_of_eq (Nat.zero_add _)) dX9_reading_67 rfl rfl (s_X9_no h1 fun M_67 h1_67 => ?_)
        refine r_iret dX9_reading_70 ?_
        exact hQ1.1 (mLAt_0 (by omega)) _ h1_67
      · simp (disch := omega) only [nI_leI, nI_ltI, nI_eq, nI_lt0, nI_ge0, nI_gt0, nI_le0, nI_eq0] at c31
        refine r_aload_n (q := 35) dX9_reading_34 rfl rfl ?_
        refine r_iload_n (q := 36) dX9_reading_35 rfl rfl ?_
        refine r_cV (q := 39) (As := [.int _]) wc_X9_272 rfl im_X9_readAt se_X9_readAt h1.m rfl rfl (Nat.le_of_ble_eq_true rfl) (Nat.le_of_eq (Nat.zero_add _)) (Nat.le_of_eq (Nat.zero_add _)) dX9_reading_36 rfl rfl (s_X9_readAt (F := F) (Lt := Lt) h1 hF1 hT1 hn1 hlen hx2 (by omega) hbw ?_)
        rw [gA_s]
        obtain ⟨l, hl⟩ : ∃ l, mRA F Lt R p = some l := by rw [← hR]; exact mRA_some (by omega) (by rw [hR]; exact hpos.2)
        rw [hl, show oI (some l) = nI l from rfl]
        obtain ⟨hl7, hsd, hRp⟩ := mRA_p hl
        have hsp := mSd_p hsd
        obtain ⟨r, rfl⟩ : ∃ r0, m = r0 + 1 := ⟨m - 1, by omega⟩
        refine r_istore (q := 41) dX9_reading_39 (Nat.le_of_ble_eq_true rfl) rfl rfl ?_
        show AW _ (_, _, _, _, _, _, _, _, _) _ _ _ _ [some _, some _, some _, some _, some _] _ _
        refine r_iload_n (q := 42) dX9_reading_41 rfl rfl ?_
        refine r_iload_n (q := 43) dX9_reading_42 rfl rfl ?_
        refine r_icmp_ne (t := 49) (q := 46) dX9_reading_43 rfl rfl (fun c43 => ?_) (fun c43 => ?_)
        · have e : mLAt F Lt R place (r + 1) k p = mLAt F Lt R place r (k + 1) (p + lF F l 0) := by rw [mLAt, if_neg (by omega), hl]; exact if_neg c43
          rw [e] at hQ1
          refine r_iload_n (q := 50) dX9_reading_49 rfl rfl ?_
          refine r_aload_n (q := 51) dX9_reading_50 rfl rfl ?_
          refine r_iload (q := 53) dX9_reading_51 rfl rfl ?_
          refine r_iconst (v := nI 0) (q := 54) dX9_reading_53 (by decide) rfl ?_
          refine r_cV (q := 57) (As := [.int _, .int _]) wc_X9_108 rfl im_X9_lv se_X9_lv h1.m rfl rfl (Nat.le_of_ble_eq_true rfl) (Nat.le_of_eq (Nat.zero_add _)) (Nat.le_of_eq (Nat.zero_add _)) dX9_reading_54 rfl rfl (x_lv h1 (by omega) (by decide) ?_)
          intro b54
          rw [hF1] at b54 ⊢
          refine r_iadd (q := 58) dX9_reading_57 rfl ?_
          rw [n_add]
          refine r_istore_n (q := 59) dX9_reading_58 (Nat.le_of_ble_eq_true rfl) rfl rfl ?_
          show AW _ (_, _, _, _, _, _, _, _, _) _ _ _ _ [some _, some _, some _, some _, some _] _ _
          refine r_inc1 (q := 62) dX9_reading_59 rfl (Nat.le_of_ble_eq_true rfl) rfl rfl ?_
          show AW _ (_, _, _, _, _, _, _, _, _) _ _ _ _ [some _, some _, some _, some _, some _] _ _
          refine r_goto (t := 26) dX9_reading_62 rfl ?_
          exact ih r (by omega) r _ _ _ rfl (by omega) (by omega) ⟨hsp.2, hRp⟩ hQ1
        · have e : mLAt F Lt R place (r + 1) k p = some l := by rw [mLAt, if_neg (by omega), hl]; exact if_pos c43
          refine r_iload (q := 48) dX9_reading_46 rfl rfl ?_
          refine r_iret dX9_reading_48 ?_
          exact hQ1.2 l e
    exact loop _ Lt.length 0 0 none rfl (by omega) (by omega) ⟨Nat.zero_le _, h0⟩ hQ0
  refine MS.of (by decide) (by simp [Value.category]) (Nat.le_of_ble_eq_true rfl) ?_
  show AW _ (_, _, _, _, _, _, _, _, _) _ _ _ _ [some _, some _, _, _, _] _ _
  refine r_aload_n (q := 1) dX9_reading_0 rfl rfl ?_
  refine r_iconst (v := nI 0) (q := 2) dX9_reading_1 (by decide) rfl ?_
  refine r_p9 (q := 5) (kk := 4) (j := 4) h (by decide) rfl fk_X9_22 dX9_reading_2 rfl fun M_2 h_2 => ?_
  refine r_aload_n (q := 6) dX9_reading_5 rfl rfl ?_
  refine r_cV (q := 9) (As := []) wc_X9_269 rfl im_X9_laysReadings se_X9_laysReadings h_2.m rfl rfl (Nat.le_of_ble_eq_true rfl) (Nat.le_of_eq (Nat.zero_add _)) (Nat.le_of_eq (Nat.zero_add _)) dX9_reading_6 rfl rfl (x_laysR (F := F) h_2 hF hn fun M_6 T R hT hR h_6 => ?_)
  have hR0 : R 0 < 2 ^ 31 := by have g := h_6.lt (i := 5) (j := 0) (by decide) (by decide); rw [gA_s] at g; exact g
  replace hR : mRE F Lt (gA μ 5) = R := hR
  refine r_if_eq (t := 16) (q := 12) dX9_reading_9 rfl rfl (fun c9 => ?_) (fun c9 => ?_)
  · have e : mqRd F Lt R place = (1, 0) := if_pos ((nI_eq hR0 (by decide)).mp c9)
    have hQ2 := hQ (R := R)
    rw [e] at hQ2
    refine r_aload_n (q := 17) dX9_reading_16 rfl rfl ?_
    refine r_iconst (v := nI 1) (q := 18) dX9_reading_17 (by decide) rfl ?_
    refine r_cV (q := 21) (As := [.int _]) wc_X9_96 rfl im_X9_no se_X9_no h_6.m rfl rfl (Nat.le_of_ble_eq_true rfl) (Nat.le_of_eq (Nat.zero_add _)) (Nat.le_of_eq (Nat.zero_add _)) dX9_reading_18 rfl rfl (s_X9_no h_6 fun M_18 h_18 => ?_)
    refine r_iret dX9_reading_21 ?_
    exact hQ2 _ T hR (by rw [← sN_sN (v := nI 0)]; exact h_18)
  · have c9b : ¬ R 0 = 0 := fun g => c9 (by rw [g]; rfl)
    refine r_iload_n (q := 13) dX9_reading_12 rfl rfl ?_
    refine r_if_ge (t := 22) (q := 16) dX9_reading_13 rfl rfl (fun c13 => ?_) (fun c13 => ?_)
    · refine r_iconst (v := nI 0) (q := 23) dX9_reading_22 (by decide) rfl ?_
      refine r_istore_n (q := 24) dX9_reading_23 (Nat.le_of_ble_eq_true rfl) rfl rfl ?_
      show AW _ (_, _, _, _, _, _, _, _, _) _ _ _ _ [some _, some _, some _, _, _] _ _
      refine r_iconst (v := nI 0) (q := 25) dX9_reading_24 (by decide) rfl ?_
      refine r_istore_n (q := 26) dX9_reading_25 (Nat.le_of_ble_eq_true rfl) rfl rfl ?_
      show AW _ (_, _, _, _, _, _, _, _, _) _ _ _ _ [some _, some _, some _, some _, _] _ _
      refine okp _ T R hT hR h_6 (by omega) ⟨fun e0 M2 h2 => ?_, fun l e0 => ?_⟩
      · have e : mqRd F Lt R place = (1, 0) := by rw [mqRd, if_neg c9b, if_neg (Int32.not_lt.mpr c13), e0]
        have hQ2 := hQ (R := R)
        rw [e] at hQ2
        exact hQ2 _ T hR (by rw [← sN_sN (v := nI 0)]; exact h2)
      · have e : mqRd F Lt R place = (0, nI l) := by rw [mqRd, if_neg c9b, if_neg (Int32.not_lt.mpr c13), e0]
        have hQ2 := hQ (R := R)
        rw [e] at hQ2
        exact hQ2 _ T hR h_6
    · have e : mqRd F Lt R place = (1, 0) := by rw [mqRd, if_neg c9b, if_pos (Int32.not_le.mp c13)]
      have hQ2 := hQ (R := R)
      rw [e] at hQ2
      refine r_aload_n (q := 17) dX9_reading_16 rfl rfl ?_
      refine r_iconst (v := nI 1) (q := 18) dX9_reading_17 (by decide) rfl ?_
      refine r_cV (q := 21) (As := [.int _]) wc_X9_96 rfl im_X9_no se_X9_no h_6.m rfl rfl (Nat.le_of_ble_eq_true rfl) (Nat.le_of_eq (Nat.zero_add _)) (Nat.le_of_eq (Nat.zero_add _)) dX9_reading_18 rfl rfl (s_X9_no h_6 fun M_18 h_18 => ?_)
      refine r_iret dX9_reading_21 ?_
      exact hQ2 _ T hR (by rw [← sN_sN (v := nI 0)]; exact h_18)
theorem s_X9_lettersOnStrip (h : RM G Λ ρ μ M) (hF : gA μ 0 = F) (hn : LRN F Lt) (hQ : ∀ M' T, LTo Lt T → RM G Λ ρ (sN (sA μ 4 T) 15 (nI Lt.length)) M' → Q (some (.int (nI Lt.length))) M')  : MS G yX9_lettersOnStrip cX9_lettersOnStrip 1 (some .int) (d + 1) 0 0 [.ref (Λ (10, 0, 0))] M Q QX := by
  refine MS.of (by decide) (by simp [Value.category]) (Nat.le_of_ble_eq_true rfl) ?_
  show AW _ (_, _, _, _, _, _, _, _, _) _ _ _ _ [some _] _ _
  refine r_aload_n (q := 1) dX9_lettersOnStrip_0 rfl rfl ?_
  refine r_cV (q := 4) (As := []) wc_X9_263 rfl im_X9_laysLetters se_X9_laysLetters h.m rfl rfl (Nat.le_of_ble_eq_true rfl) (Nat.le_of_eq (Nat.zero_add _)) (Nat.le_of_eq (Nat.zero_add _)) dX9_lettersOnStrip_1 rfl rfl (s_X9_laysLetters h hF hn.2.1 hn.2.2.1 (by rw [hn.2.2.2.1]; exact hn.2.2.2.2) fun M_1 T hT h_1 => ?_)
  rw [hn.2.2.2.1] at hT h_1
  refine r_aload_n (q := 5) dX9_lettersOnStrip_4 rfl rfl ?_
  refine r_get (q := 8) (kk := 15) h_1.m rfl wi_RX9 (by decide) rfl fk_X9_57 rfl dX9_lettersOnStrip_5 rfl ?_
  rw [gN_sNs]
  refine r_iret dX9_lettersOnStrip_8 ?_
  exact hQ _ T hT h_1
def mAcV (μ : Mg) (Lt : List Nat) (k : Nat) : Int32 := match k with
  | 0 => nI (gA μ 0 0)
  | 1 => nI (mCn (gA μ 0) 0 7)
  | 2 => nI (mCn (gA μ 0) 5 7)
  | 3 => nI (gA μ 0 1)
  | 4 => nI Lt.length
  | 5 => nI (gA μ 0 2)
  | 6 => nI (gA μ 0 4)
  | 7 => nI (gA μ 0 5)
  | 8 => nI (gA μ 0 6)
  | 9 => nI (gA μ 0 7)
  | 10 => nI (gA μ 0 8)
  | 11 => nI (mSm (gA μ 0) 3 7)
  | 12 => nI (mSm (gA μ 0) 4 7)
  | 13 => nI (gA μ 0 9)
  | 14 => gN μ 21
  | _ => gN μ 5
def mqAc (μ : Mg) (Lt : List Nat) (k : Int32) : An := if k < 0 then (1, 0) else if nI 15 < k then (1, 0) else (0, mAcV μ Lt k.toNatClampNeg)
theorem keep415 {v : Int32} (h : RM G Λ ρ (sN μ 4 v) M) : RM G Λ ρ (sN (sA (sN μ 4 v) 4 (gA μ 4)) 15 (gN μ 15)) M := by
  refine h.ext (fun i hi j hj => ?_) (fun k => ?_)
  · rw [gA_sNe]
    by_cases e : i = 4
    · subst e; rw [gA_s, gA_sNe]
    · rw [gA_n e]
  · rw [gN_sN]
    split
    · rename_i e; rw [e]; rfl
    · rfl
theorem s_X9_account (h : RM G Λ ρ μ M) {k : Int32} (hn : LRN (gA μ 0) Lt) (hQ : ∀ M' T v, RM G Λ ρ (sN (sA (sN μ 4 (nI (mqAc μ Lt k).1)) 4 T) 15 v) M' → Q (some (.int (mqAc μ Lt k).2)) M')  : MS G yX9_account cX9_account 2 (some .int) (d + 2) 0 0 [.ref (Λ (10, 0, 0)), .int k] M Q QX := by
  refine MS.of (by decide) (by simp [Value.category]) (Nat.le_of_ble_eq_true rfl) ?_
  show AW _ (_, _, _, _, _, _, _, _, _) _ _ _ _ [some _, some _] _ _
  refine r_aload_n (q := 1) dX9_account_0 rfl rfl ?_
  refine r_iconst (v := nI 0) (q := 2) dX9_account_1 (by decide) rfl ?_
  refine r_p9 (q := 5) (kk := 4) (j := 4) h (by decide) rfl fk_X9_22 dX9_account_2 rfl fun M_2 h_2 => ?_
  refine r_iload_n (q := 6) dX9_account_5 rfl rfl ?_
  have hk : (k < 0 ∨ nI 15 < k) ∨ ∃ j, j < 16 ∧ k = nI j := by
    by_cases g : k < 0
    · exact Or.inl (Or.inl g)
    · by_cases g2 : nI 15 < k
      · exact Or.inl (Or.inr g2)
      · obtain ⟨j, hj, rfl⟩ := nI_nat g
        rw [nI_ltI (by decide) hj] at g2
        exact Or.inr ⟨j, by omega, rfl⟩
  rcases hk with g | ⟨j, hj, rfl⟩
  rotate_left
  obtain (rfl | rfl | rfl | rfl | rfl | rfl | rfl | rfl | rfl | rfl | rfl | rfl | rfl | rfl | rfl | rfl) : j = 0 ∨ j = 1 ∨ j = 2 ∨ j = 3 ∨ j = 4 ∨ j = 5 ∨ j = 6 ∨ j = 7 ∨ j = 8 ∨ j = 9 ∨ j = 10 ∨ j = 11 ∨ j = 12 ∨ j = 13 ∨ j = 14 ∨ j = 15 := by omega
  · rw [show mqAc μ Lt (nI 0) = (0, mAcV μ Lt 0) by rw [mqAc, if_neg (by decide), if_neg (by decide)]; rfl] at hQ
    refine r_tableIn dX9_account_6 (by decide) (by decide) rfl rfl ?_
    refine r_aload_n (q := 85) dX9_account_84 rfl rfl ?_
    refine r_get (q := 88) (kk := 0) h_2.m rfl wi_RX9 (by decide) rfl fk_X9_7 rfl dX9_account_85 rfl ?_
    refine r_iconst (v := nI 0) (q := 89) dX9_account_88 (by decide) rfl ?_
    refine r_ialdM (q := 90) h_2 (by decide) (by simp only [mLen]; omega) dX9_account_89 rfl ?_
    refine r_iret dX9_account_90 ?_
    exact hQ _ (gA μ 4) (gN μ 15) (keep415 h_2)
  · rw [show mqAc μ Lt (nI 1) = (0, mAcV μ Lt 1) by rw [mqAc, if_neg (by decide), if_neg (by decide)]; rfl] at hQ
    refine r_tableIn dX9_account_6 (by decide) (by decide) rfl rfl ?_
    refine r_aload_n (q := 92) dX9_account_91 rfl rfl ?_
    refine r_cV (q := 95) (As := []) wc_X9_112 rfl im_X9_signs se_X9_signs h_2.m rfl rfl (Nat.le_of_ble_eq_true rfl) (Nat.le_of_eq (Nat.zero_add _)) (Nat.le_of_eq (Nat.zero_add _)) dX9_account_92 rfl rfl (s_X9_signs h_2 ?_)
    refine r_iret dX9_account_95 ?_
    exact hQ _ (gA μ 4) (gN μ 15) (keep415 h_2)
  · rw [show mqAc μ Lt (nI 2) = (0, mAcV μ Lt 2) by rw [mqAc, if_neg (by decide), if_neg (by decide)]; rfl] at hQ
    refine r_tableIn dX9_account_6 (by decide) (by decide) rfl rfl ?_
    refine r_aload_n (q := 97) dX9_account_96 rfl rfl ?_
    refine r_cV (q := 100) (As := []) wc_X9_217 rfl im_X9_mutedMany se_X9_mutedMany h_2.m rfl rfl (Nat.le_of_ble_eq_true rfl) (Nat.le_of_eq (Nat.zero_add _)) (Nat.le_of_eq (Nat.zero_add _)) dX9_account_97 rfl rfl (s_X9_mutedMany h_2 ?_)
    refine r_iret dX9_account_100 ?_
    exact hQ _ (gA μ 4) (gN μ 15) (keep415 h_2)
  · rw [show mqAc μ Lt (nI 3) = (0, mAcV μ Lt 3) by rw [mqAc, if_neg (by decide), if_neg (by decide)]; rfl] at hQ
    refine r_tableIn dX9_account_6 (by decide) (by decide) rfl rfl ?_
    refine r_aload_n (q := 102) dX9_account_101 rfl rfl ?_
    refine r_get (q := 105) (kk := 0) h_2.m rfl wi_RX9 (by decide) rfl fk_X9_7 rfl dX9_account_102 rfl ?_
    refine r_iconst (v := nI 1) (q := 106) dX9_account_105 (by decide) rfl ?_
    refine r_ialdM (q := 107) h_2 (by decide) (by simp only [mLen]; omega) dX9_account_106 rfl ?_
    refine r_iret dX9_account_107 ?_
    exact hQ _ (gA μ 4) (gN μ 15) (keep415 h_2)
  · rw [show mqAc μ Lt (nI 4) = (0, mAcV μ Lt 4) by rw [mqAc, if_neg (by decide), if_neg (by decide)]; rfl] at hQ
    refine r_tableIn dX9_account_6 (by decide) (by decide) rfl rfl ?_
    refine r_aload_n (q := 109) dX9_account_108 rfl rfl ?_
    refine r_cV (q := 112) (As := []) wc_X9_284 rfl im_X9_lettersOnStrip se_X9_lettersOnStrip h_2.m rfl rfl (Nat.le_of_ble_eq_true rfl) (Nat.le_of_eq (Nat.zero_add _)) (Nat.le_of_eq (Nat.zero_add _)) dX9_account_109 rfl rfl (s_X9_lettersOnStrip (F := gA μ 0) h_2 rfl hn fun M_109 T hT h_109 => ?_)
    refine r_iret dX9_account_112 ?_
    exact hQ _ T _ h_109
  · rw [show mqAc μ Lt (nI 5) = (0, mAcV μ Lt 5) by rw [mqAc, if_neg (by decide), if_neg (by decide)]; rfl] at hQ
    refine r_tableIn dX9_account_6 (by decide) (by decide) rfl rfl ?_
    refine r_aload_n (q := 114) dX9_account_113 rfl rfl ?_
    refine r_get (q := 117) (kk := 0) h_2.m rfl wi_RX9 (by decide) rfl fk_X9_7 rfl dX9_account_114 rfl ?_
    refine r_iconst (v := nI 2) (q := 118) dX9_account_117 (by decide) rfl ?_
    refine r_ialdM (q := 119) h_2 (by decide) (by simp only [mLen]; omega) dX9_account_118 rfl ?_
    refine r_iret dX9_account_119 ?_
    exact hQ _ (gA μ 4) (gN μ 15) (keep415 h_2)
  · rw [show mqAc μ Lt (nI 6) = (0, mAcV μ Lt 6) by rw [mqAc, if_neg (by decide), if_neg (by decide)]; rfl] at hQ
    refine r_tableIn dX9_account_6 (by decide) (by decide) rfl rfl ?_
    refine r_aload_n (q := 121) dX9_account_120 rfl rfl ?_
    refine r_get (q := 124) (kk := 0) h_2.m rfl wi_RX9 (by decide) rfl fk_X9_7 rfl dX9_account_121 rfl ?_
    refine r_iconst (v := nI 4) (q := 125) dX9_account_124 (by decide) rfl ?_
    refine r_ialdM (q := 126) h_2 (by decide) (by simp only [mLen]; omega) dX9_account_125 rfl ?_
    refine r_iret dX9_account_126 ?_
    exact hQ _ (gA μ 4) (gN μ 15) (keep415 h_2)
  · rw [show mqAc μ Lt (nI 7) = (0, mAcV μ Lt 7) by rw [mqAc, if_neg (by decide), if_neg (by decide)]; rfl] at hQ
    refine r_tableIn dX9_account_6 (by decide) (by decide) rfl rfl ?_
    refine r_aload_n (q := 128) dX9_account_127 rfl rfl ?_
    refine r_get (q := 131) (kk := 0) h_2.m rfl wi_RX9 (by decide) rfl fk_X9_7 rfl dX9_account_128 rfl ?_
    refine r_iconst (v := nI 5) (q := 132) dX9_account_131 (by decide) rfl ?_
    refine r_ialdM (q := 133) h_2 (by decide) (by simp only [mLen]; omega) dX9_account_132 rfl ?_
    refine r_iret dX9_account_133 ?_
    exact hQ _ (gA μ 4) (gN μ 15) (keep415 h_2)
  · rw [show mqAc μ Lt (nI 8) = (0, mAcV μ Lt 8) by rw [mqAc, if_neg (by decide), if_neg (by decide)]; rfl] at hQ
    refine r_tableIn dX9_account_6 (by decide) (by decide) rfl rfl ?_
    refine r_aload_n (q := 135) dX9_account_134 rfl rfl ?_
    refine r_get (q := 138) (kk := 0) h_2.m rfl wi_RX9 (by decide) rfl fk_X9_7 rfl dX9_account_135 rfl ?_
    refine r_bipush (v := nI 6) (q := 140) dX9_account_138 (by decide) rfl ?_
    refine r_ialdM (q := 141) h_2 (by decide) (by simp only [mLen]; omega) dX9_account_140 rfl ?_
    refine r_iret dX9_account_141 ?_
    exact hQ _ (gA μ 4) (gN μ 15) (keep415 h_2)
  · rw [show mqAc μ Lt (nI 9) = (0, mAcV μ Lt 9) by rw [mqAc, if_neg (by decide), if_neg (by decide)]; rfl] at hQ
    refine r_tableIn dX9_account_6 (by decide) (by decide) rfl rfl ?_
    refine r_aload_n (q := 143) dX9_account_142 rfl rfl ?_
    refine r_get (q := 146) (kk := 0) h_2.m rfl wi_RX9 (by decide) rfl fk_X9_7 rfl dX9_account_143 rfl ?_
    refine r_bipush (v := nI 7) (q := 148) dX9_account_146 (by decide) rfl ?_
    refine r_ialdM (q := 149) h_2 (by decide) (by simp only [mLen]; omega) dX9_account_148 rfl ?_
    refine r_iret dX9_account_149 ?_
    exact hQ _ (gA μ 4) (gN μ 15) (keep415 h_2)
  · rw [show mqAc μ Lt (nI 10) = (0, mAcV μ Lt 10) by rw [mqAc, if_neg (by decide), if_neg (by decide)]; rfl] at hQ
    refine r_tableIn dX9_account_6 (by decide) (by decide) rfl rfl ?_
    refine r_aload_n (q := 151) dX9_account_150 rfl rfl ?_
    refine r_get (q := 154) (kk := 0) h_2.m rfl wi_RX9 (by decide) rfl fk_X9_7 rfl dX9_account_151 rfl ?_
    refine r_bipush (v := nI 8) (q := 156) dX9_account_154 (by decide) rfl ?_
    refine r_ialdM (q := 157) h_2 (by decide) (by simp only [mLen]; omega) dX9_account_156 rfl ?_
    refine r_iret dX9_account_157 ?_
    exact hQ _ (gA μ 4) (gN μ 15) (keep415 h_2)
  · rw [show mqAc μ Lt (nI 11) = (0, mAcV μ Lt 11) by rw [mqAc, if_neg (by decide), if_neg (by decide)]; rfl] at hQ
    refine r_tableIn dX9_account_6 (by decide) (by decide) rfl rfl ?_
    refine r_aload_n (q := 159) dX9_account_158 rfl rfl ?_
    refine r_iconst (v := nI 3) (q := 160) dX9_account_159 (by decide) rfl ?_
    refine r_cV (q := 163) (As := [.int _]) wc_X9_287 rfl im_X9_sumOf se_X9_sumOf h_2.m rfl rfl (Nat.le_of_ble_eq_true rfl) (Nat.le_of_eq (Nat.zero_add _)) (Nat.le_of_eq (Nat.zero_add _)) dX9_account_160 rfl rfl (s_X9_sumOf h_2 (by decide) ?_)
    refine r_iret dX9_account_163 ?_
    exact hQ _ (gA μ 4) (gN μ 15) (keep415 h_2)
  · rw [show mqAc μ Lt (nI 12) = (0, mAcV μ Lt 12) by rw [mqAc, if_neg (by decide), if_neg (by decide)]; rfl] at hQ
    refine r_tableIn dX9_account_6 (by decide) (by decide) rfl rfl ?_
    refine r_aload_n (q := 165) dX9_account_164 rfl rfl ?_
    refine r_iconst (v := nI 4) (q := 166) dX9_account_165 (by decide) rfl ?_
    refine r_cV (q := 169) (As := [.int _]) wc_X9_287 rfl im_X9_sumOf se_X9_sumOf h_2.m rfl rfl (Nat.le_of_ble_eq_true rfl) (Nat.le_of_eq (Nat.zero_add _)) (Nat.le_of_eq (Nat.zero_add _)) dX9_account_166 rfl rfl (s_X9_sumOf h_2 (by decide) ?_)
    refine r_iret dX9_account_169 ?_
    exact hQ _ (gA μ 4) (gN μ 15) (keep415 h_2)
  · rw [show mqAc μ Lt (nI 13) = (0, mAcV μ Lt 13) by rw [mqAc, if_neg (by decide), if_neg (by decide)]; rfl] at hQ
    refine r_tableIn dX9_account_6 (by decide) (by decide) rfl rfl ?_
    refine r_aload_n (q := 171) dX9_account_170 rfl rfl ?_
    refine r_get (q := 174) (kk := 0) h_2.m rfl wi_RX9 (by decide) rfl fk_X9_7 rfl dX9_account_171 rfl ?_
    refine r_bipush (v := nI 9) (q := 176) dX9_account_174 (by decide) rfl ?_
    refine r_ialdM (q := 177) h_2 (by decide) (by simp only [mLen]; omega) dX9_account_176 rfl ?_
    refine r_iret dX9_account_177 ?_
    exact hQ _ (gA μ 4) (gN μ 15) (keep415 h_2)
  · rw [show mqAc μ Lt (nI 14) = (0, mAcV μ Lt 14) by rw [mqAc, if_neg (by decide), if_neg (by decide)]; rfl] at hQ
    refine r_tableIn dX9_account_6 (by decide) (by decide) rfl rfl ?_
    refine r_aload_n (q := 179) dX9_account_178 rfl rfl ?_
    refine r_get (q := 182) (kk := 21) h_2.m rfl wi_RX9 (by decide) rfl fk_X9_75 rfl dX9_account_179 rfl ?_
    refine r_iret dX9_account_182 ?_
    exact hQ _ (gA μ 4) (gN μ 15) (keep415 h_2)
  · rw [show mqAc μ Lt (nI 15) = (0, mAcV μ Lt 15) by rw [mqAc, if_neg (by decide), if_neg (by decide)]; rfl] at hQ
    refine r_tableIn dX9_account_6 (by decide) (by decide) rfl rfl ?_
    refine r_aload_n (q := 184) dX9_account_183 rfl rfl ?_
    refine r_get (q := 187) (kk := 5) h_2.m rfl wi_RX9 (by decide) rfl fk_X9_26 rfl dX9_account_184 rfl ?_
    refine r_iret dX9_account_187 ?_
    exact hQ _ (gA μ 4) (gN μ 15) (keep415 h_2)
  · have g2 : k.toInt < 0 ∨ 15 < k.toInt := by rw [Int32.lt_iff_toInt_lt, Int32.lt_iff_toInt_lt, show (nI 15).toInt = 15 from rfl, show (0 : Int32).toInt = 0 from rfl] at g; exact g
    rw [show mqAc μ Lt k = (1, 0) by
          unfold mqAc
          by_cases g3 : k < 0
          · exact if_pos g3
          · rw [if_neg g3, if_pos (g.resolve_left g3)]] at hQ
    refine r_tableOut dX9_account_6 g2 rfl ?_
    refine r_aload_n (q := 189) dX9_account_188 rfl rfl ?_
    refine r_iconst (v := nI 1) (q := 190) dX9_account_189 (by decide) rfl ?_
    refine r_cV (q := 193) (As := [.int _]) wc_X9_96 rfl im_X9_no se_X9_no h_2.m rfl rfl (Nat.le_of_ble_eq_true rfl) (Nat.le_of_eq (Nat.zero_add _)) (Nat.le_of_eq (Nat.zero_add _)) dX9_account_190 rfl rfl (s_X9_no h_2 fun M_190 h_190 => ?_)
    refine r_iret dX9_account_193 ?_
    exact hQ _ (gA μ 4) (gN μ 15) (keep415 (by rw [← sN_sN (v := nI 0)]; exact h_190))
theorem s_X9_meanLength (h : RM G Λ ρ μ M) (hQ : ∀ M' v, RM G Λ ρ (sN μ 4 (nI (if mCn (gA μ 0) 0 7 = 0 then 1 else 0))) M' → (¬ mCn (gA μ 0) 0 7 = 0 → v = FP.ddiv (FP.i2d (nI (mSm (gA μ 0) 0 7))) (FP.i2d (nI (mCn (gA μ 0) 0 7)))) → Q (some (.double v)) M')  : MS G yX9_meanLength cX9_meanLength 2 (some .double) (d + 2) 0 0 [.ref (Λ (10, 0, 0))] M Q QX := by
  have hle := mCn_le (F := gA μ 0) (w := 0) (k := 7)
  refine MS.of (by decide) (by simp [Value.category]) (Nat.le_of_ble_eq_true rfl) ?_
  show AW _ (_, _, _, _, _, _, _, _, _) _ _ _ _ [some _, _] _ _
  refine r_aload_n (q := 1) dX9_meanLength_0 rfl rfl ?_
  refine r_cV (q := 4) (As := []) wc_X9_112 rfl im_X9_signs se_X9_signs h.m rfl rfl (Nat.le_of_ble_eq_true rfl) (Nat.le_of_eq (Nat.zero_add _)) (Nat.le_of_eq (Nat.zero_add _)) dX9_meanLength_1 rfl rfl (s_X9_signs h ?_)
  refine r_istore_n (q := 5) dX9_meanLength_4 (Nat.le_of_ble_eq_true rfl) rfl rfl ?_
  show AW _ (_, _, _, _, _, _, _, _, _) _ _ _ _ [some _, some _] _ _
  refine r_aload_n (q := 6) dX9_meanLength_5 rfl rfl ?_
  refine r_iload_n (q := 7) dX9_meanLength_6 rfl rfl ?_
  refine r_if_ne (t := 14) (q := 10) dX9_meanLength_7 rfl rfl (fun c7 => ?_) (fun c7 => ?_)
  · simp (disch := omega) only [nI_leI, nI_ltI, nI_eq, nI_lt0, nI_ge0, nI_gt0, nI_le0, nI_eq0] at c7
    rw [if_neg (by omega)] at hQ
    refine r_iconst (v := nI 0) (q := 15) dX9_meanLength_14 (by decide) rfl ?_
    refine r_p9 (q := 18) (kk := 4) (j := 4) h (by decide) rfl fk_X9_22 dX9_meanLength_15 rfl fun M_15 h_15 => ?_
    refine r_iload_n (q := 19) dX9_meanLength_18 rfl rfl ?_
    refine r_if_ne (t := 26) (q := 22) dX9_meanLength_19 rfl rfl (fun c19 => ?_) (fun c19 => ?_)
    · simp (disch := omega) only [nI_leI, nI_ltI, nI_eq, nI_lt0, nI_ge0, nI_gt0, nI_le0, nI_eq0] at c19
      refine r_aload_n (q := 27) dX9_meanLength_26 rfl rfl ?_
      refine r_iconst (v := nI 0) (q := 28) dX9_meanLength_27 (by decide) rfl ?_
      refine r_cV (q := 31) (As := [.int _]) wc_X9_287 rfl im_X9_sumOf se_X9_sumOf h_15.m rfl rfl (Nat.le_of_ble_eq_true rfl) (Nat.le_of_eq (Nat.zero_add _)) (Nat.le_of_eq (Nat.zero_add _)) dX9_meanLength_28 rfl rfl (s_X9_sumOf h_15 (by decide) ?_)
      refine r_i2d (q := 32) dX9_meanLength_31 rfl ?_
      refine r_iload_n (q := 33) dX9_meanLength_32 rfl rfl ?_
      refine r_i2d (q := 34) dX9_meanLength_33 rfl ?_
      refine r_ddiv (q := 35) dX9_meanLength_34 (n64_quot (fun z => c7 ((nI_eq (b := 0) (by omega) (by decide)).mp z))) rfl ?_
      refine r_dret dX9_meanLength_35 ?_
      exact hQ _ _ h_15 (fun g => by first | rfl | exact absurd c7 g | exact absurd g (by omega))
    · exact absurd ((nI_eq (b := 0) (by omega) (by decide)).mp c19) c7
  · simp (disch := omega) only [nI_leI, nI_ltI, nI_eq, nI_lt0, nI_ge0, nI_gt0, nI_le0, nI_eq0] at c7
    rw [if_pos (by omega)] at hQ
    refine r_iconst (v := nI 1) (q := 11) dX9_meanLength_10 (by decide) rfl ?_
    refine r_goto (t := 15) dX9_meanLength_11 rfl ?_
    refine r_p9 (q := 18) (kk := 4) (j := 4) h (by decide) rfl fk_X9_22 dX9_meanLength_15 rfl fun M_15 h_15 => ?_
    refine r_iload_n (q := 19) dX9_meanLength_18 rfl rfl ?_
    refine r_if_ne (t := 26) (q := 22) dX9_meanLength_19 rfl rfl (fun c19 => ?_) (fun c19 => ?_)
    · exact absurd (by rw [c7]; rfl) c19
    · simp (disch := omega) only [nI_leI, nI_ltI, nI_eq, nI_lt0, nI_ge0, nI_gt0, nI_le0, nI_eq0] at c19
      refine r_dconst0 (q := 23) dX9_meanLength_22 rfl ?_
      refine r_goto (t := 35) dX9_meanLength_23 rfl ?_
      refine r_dret dX9_meanLength_35 ?_
      exact hQ _ _ h_15 (fun g => by first | rfl | exact absurd c7 g | exact absurd g (by omega))
theorem s_X9_lieShare (h : RM G Λ ρ μ M) (h4 : gA μ 0 4 < 2 ^ 31) (hQ : ∀ M' v, RM G Λ ρ (sN μ 4 (nI (if gA μ 0 4 = 0 then 1 else 0))) M' → (¬ gA μ 0 4 = 0 → v = FP.fdiv (FP.i2f (nI (gA μ 0 5))) (FP.i2f (nI (gA μ 0 4)))) → Q (some (.float v)) M')  : MS G yX9_lieShare cX9_lieShare 2 (some .float) (d + 2) 0 0 [.ref (Λ (10, 0, 0))] M Q QX := by
  refine MS.of (by decide) (by simp [Value.category]) (Nat.le_of_ble_eq_true rfl) ?_
  show AW _ (_, _, _, _, _, _, _, _, _) _ _ _ _ [some _, _] _ _
  refine r_aload_n (q := 1) dX9_lieShare_0 rfl rfl ?_
  refine r_get (q := 4) (kk := 0) h.m rfl wi_RX9 (by decide) rfl fk_X9_7 rfl dX9_lieShare_1 rfl ?_
  refine r_iconst (v := nI 4) (q := 5) dX9_lieShare_4 (by decide) rfl ?_
  refine r_ialdM (q := 6) h (by decide) (by simp only [mLen]; omega) dX9_lieShare_5 rfl ?_
  refine r_istore_n (q := 7) dX9_lieShare_6 (Nat.le_of_ble_eq_true rfl) rfl rfl ?_
  show AW _ (_, _, _, _, _, _, _, _, _) _ _ _ _ [some _, some _] _ _
  refine r_aload_n (q := 8) dX9_lieShare_7 rfl rfl ?_
  refine r_iload_n (q := 9) dX9_lieShare_8 rfl rfl ?_
  refine r_if_ne (t := 16) (q := 12) dX9_lieShare_9 rfl rfl (fun c9 => ?_) (fun c9 => ?_)
  · simp (disch := omega) only [nI_leI, nI_ltI, nI_eq, nI_lt0, nI_ge0, nI_gt0, nI_le0, nI_eq0] at c9
    rw [if_neg (by omega)] at hQ
    refine r_iconst (v := nI 0) (q := 17) dX9_lieShare_16 (by decide) rfl ?_
    refine r_p9 (q := 20) (kk := 4) (j := 4) h (by decide) rfl fk_X9_22 dX9_lieShare_17 rfl fun M_17 h_17 => ?_
    refine r_iload_n (q := 21) dX9_lieShare_20 rfl rfl ?_
    refine r_if_ne (t := 28) (q := 24) dX9_lieShare_21 rfl rfl (fun c21 => ?_) (fun c21 => ?_)
    · simp (disch := omega) only [nI_leI, nI_ltI, nI_eq, nI_lt0, nI_ge0, nI_gt0, nI_le0, nI_eq0] at c21
      refine r_aload_n (q := 29) dX9_lieShare_28 rfl rfl ?_
      refine r_get (q := 32) (kk := 0) h_17.m rfl wi_RX9 (by decide) rfl fk_X9_7 rfl dX9_lieShare_29 rfl ?_
      refine r_iconst (v := nI 5) (q := 33) dX9_lieShare_32 (by decide) rfl ?_
      refine r_ialdM (q := 34) h_17 (by decide) (by simp only [mLen]; omega) dX9_lieShare_33 rfl ?_
      rw [gA_sNe]
      refine r_i2f (q := 35) dX9_lieShare_34 rfl ?_
      refine r_iload_n (q := 36) dX9_lieShare_35 rfl rfl ?_
      refine r_i2f (q := 37) dX9_lieShare_36 rfl ?_
      refine r_fdiv (q := 38) dX9_lieShare_37 (n32_quot (fun z => c9 ((nI_eq (b := 0) (by omega) (by decide)).mp z))) rfl ?_
      refine r_fret dX9_lieShare_38 ?_
      exact hQ _ _ h_17 (fun g => by first | rfl | exact absurd c9 g | exact absurd g (by omega))
    · exact absurd ((nI_eq (b := 0) (by omega) (by decide)).mp c21) c9
  · simp (disch := omega) only [nI_leI, nI_ltI, nI_eq, nI_lt0, nI_ge0, nI_gt0, nI_le0, nI_eq0] at c9
    rw [if_pos (by omega)] at hQ
    refine r_iconst (v := nI 1) (q := 13) dX9_lieShare_12 (by decide) rfl ?_
    refine r_goto (t := 17) dX9_lieShare_13 rfl ?_
    refine r_p9 (q := 20) (kk := 4) (j := 4) h (by decide) rfl fk_X9_22 dX9_lieShare_17 rfl fun M_17 h_17 => ?_
    refine r_iload_n (q := 21) dX9_lieShare_20 rfl rfl ?_
    refine r_if_ne (t := 28) (q := 24) dX9_lieShare_21 rfl rfl (fun c21 => ?_) (fun c21 => ?_)
    · exact absurd (by rw [c9]; rfl) c21
    · simp (disch := omega) only [nI_leI, nI_ltI, nI_eq, nI_lt0, nI_ge0, nI_gt0, nI_le0, nI_eq0] at c21
      refine r_fconst0 (q := 25) dX9_lieShare_24 rfl ?_
      refine r_goto (t := 38) dX9_lieShare_25 rfl ?_
      refine r_fret dX9_lieShare_38 ?_
      exact hQ _ _ h_17 (fun g => by first | rfl | exact absurd c9 g | exact absurd g (by omega))
end W59
