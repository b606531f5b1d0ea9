/-! THE MODEL: letters on the strip, readings -/
section W59
variable {G : En} {Λ : Ob → Nat} {ρ : Me} {μ : Mg} {M : Me} {d : Nat} {Q : Option Value → Me → Prop} {QX : String → Me → Prop} {S : St} {F : Nat → Nat} {z : Nat} {Lt : List Nat}
def ltrW (w : Nat) : List Nat := (List.range (w / 64)).map fun i => w % 64 / 2 ^ i % 2
def mLt (F : Nat → Nat) (n : Nat) : List Nat := (List.range n).flatMap fun k => ltrW (F (470 + k))
theorem mLt_s {F : Nat → Nat} {n : Nat} : mLt F (n + 1) = mLt F n ++ ltrW (F (470 + n)) := by
  rw [mLt, List.range_succ, List.flatMap_append]; simp [mLt]
theorem ltrW_len {w : Nat} : (ltrW w).length = w / 64 := by rw [ltrW, List.length_map, List.length_range]
theorem ltrW_at {w i : Nat} (h : i < w / 64) : (ltrW w).take (i + 1) = (ltrW w).take i ++ [w % 64 / 2 ^ i % 2] := by
  rw [take_s (by rw [ltrW_len]; exact h)]
  congr 2
  rw [ltrW, getD_lt (by rw [List.length_map, List.length_range]; exact h), List.getElem_map, List.getElem_range]
theorem mLt_mono {F : Nat → Nat} {a b : Nat} (h : a ≤ b) : (mLt F a).length ≤ (mLt F b).length := by
  induction h with
  | refl => exact Nat.le_refl _
  | step h ih => rw [mLt_s, List.length_append]; omega
/-- an array's first cells are the list -/
def LTo (L : List Nat) (T : Nat → Nat) : Prop := ∀ j, j < L.length → T j = L.getD j 0
theorem LTo.app {L : List Nat} {T : Nat → Nat} {x : Nat} (h : LTo L T) : LTo (L ++ [x]) (uN T L.length x) := by
  intro j hj
  rw [List.length_append, List.length_singleton] at hj
  unfold uN
  by_cases e : j = L.length
  · rw [if_pos e, e, List.getD_eq_getElem?_getD, List.getElem?_append_right (Nat.le_refl _)]; simp
  · rw [if_neg e, h j (by omega), List.getD_eq_getElem?_getD, List.getD_eq_getElem?_getD, List.getElem?_append_left (by omega)]
theorem LTo.nil {T : Nat → Nat} : LTo [] T := fun j hj => absurd hj (Nat.not_lt_zero _)
theorem LTo_lt {L : List Nat} {T : Nat → Nat} (h : LTo L T) (hx : ∀ x ∈ L, x < 2) {j : Nat} (hj : j < L.length) : T j < 2 := by
  rw [h j hj, getD_lt hj]; exact hx _ (List.getElem_mem hj)
theorem mLt_lt2 {F : Nat → Nat} {n : Nat} : ∀ x ∈ mLt F n, x < 2 := by
  intro x hx
  obtain ⟨s, -, hs⟩ := List.mem_flatMap.mp hx
  obtain ⟨j, -, rfl⟩ := List.mem_map.mp hs
  exact Nat.mod_lt _ (by decide)
theorem s_X9_laysLetters (h : RM G Λ ρ μ M) (hF : gA μ 0 = F) (hc3 : F 3 ≤ 147) (hw : ∀ k, k < F 3 → F (470 + k) < 448) (hlen : (mLt F (F 3)).length ≤ 882) (hQ : ∀ M' T, LTo (mLt F (F 3)) T → RM G Λ ρ (sN (sA μ 4 T) 15 (nI (mLt F (F 3)).length)) M' → Q none M')  : MS G yX9_laysLetters cX9_laysLetters 4 none d 0 0 [.ref (Λ (10, 0, 0))] M Q QX := by
  have loop : ∀ (mm : Nat) k M1 T u2 u3, mm = F 3 - k → k ≤ F 3 → LTo (mLt F k) T → RM G Λ ρ (sN (sA μ 4 T) 15 (nI (mLt F k).length)) M1 → AW G (wX G yX9_laysLetters cX9_laysLetters 4 none 0 0 Q QX) d 0 0 7 [some (.ref (Λ (10, 0, 0))), some (.int (nI k)), u2, u3] [] M1 := by
    intro mm
    induction mm using Nat.strongRecOn with
    | _ mm iho =>
    intro k M1 T u2 u3 hmm hk hT h1
    subst hmm
    refine r_iload_n (q := 8) dX9_laysLetters_7 rfl rfl ?_
    refine r_aload_n (q := 9) dX9_laysLetters_8 rfl rfl ?_
    refine r_get (q := 12) (kk := 0) h1.m rfl wi_RX9 (by decide) rfl fk_X9_7 rfl dX9_laysLetters_9 rfl ?_
    refine r_iconst (v := nI 3) (q := 13) dX9_laysLetters_12 (by decide) rfl ?_
    refine r_ialdM (q := 14) h1 (by decide) (by simp only [mLen]; omega) dX9_laysLetters_13 rfl ?_
    rw [gA_sNe, gA_n (by decide), hF]
    refine r_icmp_ge (t := 77) (q := 17) dX9_laysLetters_14 rfl rfl (fun c14 => ?_) (fun c14 => ?_)
    · simp (disch := omega) only [nI_leI, nI_ltI, nI_eq, nI_lt0, nI_ge0, nI_gt0, nI_le0, nI_eq0] at c14
      obtain rfl : k = F 3 := by omega
      refine r_vret dX9_laysLetters_77 ?_
      exact hQ _ _ hT h1
    · simp (disch := omega) only [nI_leI, nI_ltI, nI_eq, nI_lt0, nI_ge0, nI_gt0, nI_le0, nI_eq0] at c14
      have hln := mLt_mono (F := F) (show k + 1 ≤ F 3 by omega)
      replace hln : (mLt F (k + 1)).length ≤ 882 := Nat.le_trans hln hlen
      have hw9 := hw k (by omega)
      have inner : ∀ (m : Nat) i (M1 : Me) (T : Nat → Nat), m = F (470 + k) / 64 - i → i ≤ F (470 + k) / 64 → LTo (mLt F k ++ (ltrW (F (470 + k))).take i) T → RM G Λ ρ (sN (sA μ 4 T) 15 (nI (mLt F k ++ (ltrW (F (470 + k))).take i).length)) M1 → AW G (wX G yX9_laysLetters cX9_laysLetters 4 none 0 0 Q QX) (d) 0 0 30 [some (.ref (Λ (10, 0, 0))), some (.int (nI k)), some (.int (nI (F (470 + k)))), some (.int (nI i))] [] M1 := by
        intro m
        induction m using Nat.strongRecOn with
        | _ m ih =>
        intro i M1 T hm hi hT h1
        subst hm
        refine r_iload_n (q := 31) dX9_laysLetters_30 rfl rfl ?_
        refine r_iload_n (q := 32) dX9_laysLetters_31 rfl rfl ?_
        refine r_bipush (v := nI 64) (q := 34) dX9_laysLetters_32 (by decide) rfl ?_
        refine r_idiv (q := 35) dX9_laysLetters_34 (by decide) rfl ?_
        rw [n_div (by decide) (by omega) (by decide)]
        refine r_icmp_ge (t := 71) (q := 38) dX9_laysLetters_35 rfl rfl (fun c35 => ?_) (fun c35 => ?_)
        · simp (disch := omega) only [nI_leI, nI_ltI, nI_eq, nI_lt0, nI_ge0, nI_gt0, nI_le0, nI_eq0] at c35
          obtain rfl : i = F (470 + k) / 64 := by omega
          rw [List.take_of_length_le (by rw [ltrW_len]; omega), ← mLt_s] at h1 hT
          refine r_inc1 (q := 74) dX9_laysLetters_71 rfl (Nat.le_of_ble_eq_true rfl) rfl rfl ?_
          show AW _ (_, _, _, _, _, _, _, _, _) _ _ _ _ [some _, some _, some _, some _] _ _
          refine r_goto (t := 7) dX9_laysLetters_74 rfl ?_
          exact iho (F 3 - (k + 1)) (by omega) (k + 1) _ _ _ _ rfl (by omega) hT h1
        · simp (disch := omega) only [nI_leI, nI_ltI, nI_eq, nI_lt0, nI_ge0, nI_gt0, nI_le0, nI_eq0] at c35
          have hl2 : (mLt F k ++ (ltrW (F (470 + k))).take i).length ≤ 881 := by
            rw [List.length_append, List.length_take, ltrW_len]
            rw [mLt_s, List.length_append, ltrW_len] at hln
            omega
          refine r_aload_n (q := 39) dX9_laysLetters_38 rfl rfl ?_
          refine r_get (q := 42) (kk := 13) h1.m rfl wi_RX9 (by decide) rfl fk_X9_51 rfl dX9_laysLetters_39 rfl ?_
          refine r_aload_n (q := 43) dX9_laysLetters_42 rfl rfl ?_
          refine r_get (q := 46) (kk := 15) h1.m rfl wi_RX9 (by decide) rfl fk_X9_57 rfl dX9_laysLetters_43 rfl ?_
          rw [gN_sNs]
          refine r_iload_n (q := 47) dX9_laysLetters_46 rfl rfl ?_
          refine r_bipush (v := nI 64) (q := 49) dX9_laysLetters_47 (by decide) rfl ?_
          refine r_irem (q := 50) dX9_laysLetters_49 (by decide) rfl ?_
          rw [n_rem (by decide) (by omega) (by decide)]
          refine r_iload_n (q := 51) dX9_laysLetters_50 rfl rfl ?_
          refine r_ishr (q := 52) dX9_laysLetters_51 rfl ?_
          rw [n_shr (by omega) (by omega)]
          have q51 : F (470 + k) % 64 / 2 ^ i ≤ F (470 + k) % 64 := Nat.div_le_self _ _
          refine r_iconst (v := nI 1) (q := 53) dX9_laysLetters_52 (by decide) rfl ?_
          refine r_iand (q := 54) dX9_laysLetters_53 rfl ?_
          rw [n_and (w := F (470 + k) % 64 / 2 ^ i) (by omega) 1 1 (by decide)]
          refine r_iastM (q := 55) h1 (by decide) (by simp only [mLen]; omega) (by omega) dX9_laysLetters_54 rfl fun M_54 h1_54 => ?_
          have hT2 := hT.app (x := F (470 + k) % 64 / 2 ^ i % 2 ^ 1)
          rw [List.append_assoc, ← ltrW_at (by omega)] at hT2
          rw [gA_sNe, gA_s, sA_sN, sA_sA] at h1_54
          refine r_aload_n (q := 56) dX9_laysLetters_55 rfl rfl ?_
          refine r_dup (q := 57) dX9_laysLetters_56 rfl rfl ?_
          refine r_get (q := 60) (kk := 15) h1_54.m rfl wi_RX9 (by decide) rfl fk_X9_57 rfl dX9_laysLetters_57 rfl ?_
          rw [gN_sNs]
          refine r_iconst (v := nI 1) (q := 61) dX9_laysLetters_60 (by decide) rfl ?_
          refine r_iadd (q := 62) dX9_laysLetters_61 rfl ?_
          rw [n_add]
          refine r_p9 (q := 65) (kk := 15) (j := 15) h1_54 (by decide) rfl fk_X9_57 dX9_laysLetters_62 rfl fun M_62 h1_62 => ?_
          rw [sN_sN, show (mLt F k ++ (ltrW (F (470 + k))).take i).length + 1 = (mLt F k ++ (ltrW (F (470 + k))).take (i + 1)).length by rw [ltrW_at (by omega), ← List.append_assoc, List.length_append (bs := [_])]; rfl] at h1_62
          refine r_inc1 (q := 68) dX9_laysLetters_65 rfl (Nat.le_of_ble_eq_true rfl) rfl rfl ?_
          show AW _ (_, _, _, _, _, _, _, _, _) _ _ _ _ [some _, some _, some _, some _] _ _
          refine r_goto (t := 30) dX9_laysLetters_68 rfl ?_
          exact ih (F (470 + k) / 64 - (i + 1)) (by omega) (i + 1) _ _ rfl (by omega) hT2 h1_62
      refine r_aload_n (q := 18) dX9_laysLetters_17 rfl rfl ?_
      refine r_get (q := 21) (kk := 0) h1.m rfl wi_RX9 (by decide) rfl fk_X9_7 rfl dX9_laysLetters_18 rfl ?_
      refine r_sipush (v := nI 470) (q := 24) dX9_laysLetters_21 (by decide) rfl ?_
      refine r_iload_n (q := 25) dX9_laysLetters_24 rfl rfl ?_
      refine r_iadd (q := 26) dX9_laysLetters_25 rfl ?_
      rw [n_add]
      refine r_ialdM (q := 27) h1 (by decide) (by simp only [mLen]; omega) dX9_laysLetters_26 rfl ?_
      rw [gA_sNe, gA_n (by decide), hF]
      refine r_istore_n (q := 28) dX9_laysLetters_27 (Nat.le_of_ble_eq_true rfl) rfl rfl ?_
      show AW _ (_, _, _, _, _, _, _, _, _) _ _ _ _ [some _, some _, some _, _] _ _
      refine r_iconst (v := nI 0) (q := 29) dX9_laysLetters_28 (by decide) rfl ?_
      refine r_istore_n (q := 30) dX9_laysLetters_29 (Nat.le_of_ble_eq_true rfl) rfl rfl ?_
      show AW _ (_, _, _, _, _, _, _, _, _) _ _ _ _ [some _, some _, some _, some _] _ _
      exact inner _ 0 _ _ rfl (Nat.zero_le _) (by rw [List.take_zero, List.append_nil]; exact hT) (by rw [List.take_zero, List.append_nil]; exact h1)
  refine MS.of (by decide) (by simp [Value.category]) (Nat.le_of_ble_eq_true rfl) ?_
  show AW _ (_, _, _, _, _, _, _, _, _) _ _ _ _ [some _, _, _, _] _ _
  refine r_aload_n (q := 1) dX9_laysLetters_0 rfl rfl ?_
  refine r_iconst (v := nI 0) (q := 2) dX9_laysLetters_1 (by decide) rfl ?_
  refine r_p9 (q := 5) (kk := 15) (j := 15) h (by decide) rfl fk_X9_57 dX9_laysLetters_2 rfl fun M_2 h_2 => ?_
  refine r_iconst (v := nI 0) (q := 6) dX9_laysLetters_5 (by decide) rfl ?_
  refine r_istore_n (q := 7) dX9_laysLetters_6 (Nat.le_of_ble_eq_true rfl) rfl rfl ?_
  show AW _ (_, _, _, _, _, _, _, _, _) _ _ _ _ [some _, some _, _, _] _ _
  exact loop _ 0 _ (gA μ 4) none none rfl (Nat.zero_le _) LTo.nil (by rw [sA_self]; exact h_2)
end W59
