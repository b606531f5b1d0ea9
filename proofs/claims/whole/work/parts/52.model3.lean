/-! THE MODEL: rules of the lines -/
section W52
variable {G : En} {Λ : Ob → Nat} {ρ : Me} {μ : Mg} {M : Me} {d : Nat} {Q : Option Value → Me → Prop} {QX : String → Me → Prop} {S : St}
def lF (F : Nat → Nat) (l w : Nat) : Nat := F (16 + 10 * l + w)
def pF (F : Nat → Nat) (p w : Nat) : Nat := F (92 + 3 * p + w)
def uL (F : Nat → Nat) (l w x : Nat) : Nat → Nat := uN F (16 + 10 * l + w) x
def uP (F : Nat → Nat) (p w x : Nat) : Nat → Nat := uN F (92 + 3 * p + w) x
theorem lF_uL {F : Nat → Nat} {l l' w w' x : Nat} (hw : w < 10) (hw' : w' < 10) : lF (uL F l w x) l' w' = if l' = l ∧ w' = w then x else lF F l' w' := by
  show (if 16 + 10 * l' + w' = 16 + 10 * l + w then x else F (16 + 10 * l' + w')) = _
  by_cases e : l' = l ∧ w' = w
  · rw [if_pos e, if_pos (by omega)]
  · rw [if_neg e, if_neg (by omega)]; rfl
theorem lF_uLs {F : Nat → Nat} {l w x : Nat} : lF (uL F l w x) l w = x := if_pos rfl
theorem lF_uP {F : Nat → Nat} {l p w w' x : Nat} (hl : l < 7) (hw' : w' < 10) : lF (uP F p w x) l w' = lF F l w' := if_neg (by omega)
theorem pF_uL {F : Nat → Nat} {l p w w' x : Nat} (hl : l < 7) (hw : w < 10) : pF (uL F l w x) p w' = pF F p w' := if_neg (by omega)
theorem pF_uP {F : Nat → Nat} {l l' w w' x : Nat} (hw : w < 3) (hw' : w' < 3) : pF (uP F l w x) l' w' = if l' = l ∧ w' = w then x else pF F l' w' := by
  show (if 92 + 3 * l' + w' = 92 + 3 * l + w then x else F (92 + 3 * l' + w')) = _
  by_cases e : l' = l ∧ w' = w
  · rw [if_pos e, if_pos (by omega)]
  · rw [if_neg e, if_neg (by omega)]; rfl
theorem cF_uL {F : Nat → Nat} {l w x j : Nat} (hj : j < 16) : uL F l w x j = F j := if_neg (by omega)
theorem cF_uN {F : Nat → Nat} {l x j : Nat} (hj : j ≠ l) : uN F l x j = F j := if_neg hj
theorem uN_s {F : Nat → Nat} {l x : Nat} : uN F l x l = x := if_pos rfl
theorem lF_uN {F : Nat → Nat} {l w x j : Nat} (hj : j < 16 ∨ 92 ≤ j) (hl : l < 7) (hw : w < 10) : lF (uN F j x) l w = lF F l w := if_neg (by omega)
theorem pF_uN {F : Nat → Nat} {l w x j : Nat} (hj : j < 92 ∨ 110 ≤ j) (hl : l < 4) (hw : w < 3) : pF (uN F j x) l w = pF F l w := if_neg (by omega)
theorem x_lv (h : RM G Λ ρ μ M) {l w : Nat} (hl : l < 7) (hw : w < 10) (hQ : lF (gA μ 0) l w < 2 ^ 31 → Q (some (.int (nI (lF (gA μ 0) l w)))) M) : MS G yX9_lv cX9_lv 3 (some .int) d 0 0 [.ref (Λ (10, 0, 0)), .int (nI l), .int (nI w)] M Q QX := s_X9_lv h hl hw (hQ (h.lt (by decide) (by show 16 + 10 * l + w < 640; omega)))
theorem x_pv (h : RM G Λ ρ μ M) {l w : Nat} (hl : l < 4) (hw : w < 3) (hQ : pF (gA μ 0) l w < 2 ^ 31 → Q (some (.int (nI (pF (gA μ 0) l w)))) M) : MS G yX9_pv cX9_pv 3 (some .int) d 0 0 [.ref (Λ (10, 0, 0)), .int (nI l), .int (nI w)] M Q QX := s_X9_pv h hl hw (hQ (h.lt (by decide) (by show 92 + 3 * l + w < 640; omega)))
theorem x_ll (h : RM G Λ ρ μ M) {l w x : Nat} {v : Int32} (hv : v = nI x) (hl : l < 7) (hw : w < 10) (hx : x < 2 ^ 31) (hQ : ∀ M', RM G Λ ρ (sA μ 0 (uL (gA μ 0) l w x)) M' → Q none M') : MS G yX9_ll cX9_ll 4 none d 0 0 [.ref (Λ (10, 0, 0)), .int (nI l), .int (nI w), .int v] M Q QX := s_X9_ll h hv hl hw hx hQ
theorem sA_u2 {F F' : Nat → Nat} : sA (sA μ 0 F) 0 F' = sA μ 0 F' := sA_sA
def rfM (μ : Mg) : Option (Int32 × Int32) → Mg
  | none => μ
  | some (u, v) => sN (sN μ 6 u) 7 v
def mCn (F : Nat → Nat) (w k : Nat) : Nat := (List.range k).countP fun l => decide (0 < lF F l w)
theorem mCn_s {F : Nat → Nat} {w k : Nat} : mCn F w (k + 1) = mCn F w k + if 0 < lF F k w then 1 else 0 := by
  rw [mCn, List.range_succ, List.countP_append, List.countP_cons, List.countP_nil]; simp [mCn]
theorem mCn_le {F : Nat → Nat} {w k : Nat} : mCn F w k ≤ k := by
  have := List.countP_le_length (p := fun l => decide (0 < lF F l w)) (l := List.range k)
  rw [List.length_range] at this; exact this
def mSm (F : Nat → Nat) (w k : Nat) : Nat := ((List.range k).map fun l => lF F l w).sum
theorem mSm_s {F : Nat → Nat} {w k : Nat} : mSm F w (k + 1) = mSm F w k + lF F k w := by
  rw [mSm, range_sum_succ]; rfl
def mSt (F : Nat → Nat) (l : Nat) : Nat := lF F l 0 + popN (lF F l 1) (lF F l 0)
theorem popN_le (b : Nat) : ∀ n : Nat, popN b n ≤ n
  | 0 => Nat.le_refl _
  | n + 1 => by
    have := popN_le b n
    rw [popN, range_sum_succ]
    have e : ((List.range n).map fun k => b / 2 ^ k % 2).sum = popN b n := rfl
    rw [e]; omega
/-- words are words -/
def WN (F : Nat → Nat) (l : Nat) : Prop := lF F l 0 ≤ 6 ∧ lF F l 1 < 64
theorem mSt_le {F : Nat → Nat} {l : Nat} (h : WN F l) : mSt F l ≤ 12 := by
  have := popN_le (lF F l 1) (lF F l 0)
  have := h.1
  unfold mSt; omega
theorem s_X9_signs (h : RM G Λ ρ μ M) (hQ : Q (some (.int (nI (mCn (gA μ 0) 0 7)))) M)  : MS G yX9_signs cX9_signs 3 (some .int) (d + 1) 0 0 [.ref (Λ (10, 0, 0))] M Q QX := by
  have loop : ∀ (m : Nat) k, m = 7 - k → k ≤ 7 → AW G (wX G yX9_signs cX9_signs 3 (some .int) 0 0 Q QX) (d + 1) 0 0 4 [some (.ref (Λ (10, 0, 0))), some (.int (nI (mCn (gA μ 0) 0 k))), some (.int (nI k))] [] M := by
    intro m
    induction m using Nat.strongRecOn with
    | _ m ih =>
    intro k hm hk
    subst hm
    refine r_iload_n (q := 5) dX9_signs_4 rfl rfl ?_
    refine r_bipush (v := nI 7) (q := 7) dX9_signs_5 (by decide) rfl ?_
    refine r_icmp_ge (t := 33) (q := 10) dX9_signs_7 rfl rfl (fun c7 => ?_) (fun c7 => ?_)
    · simp (disch := omega) only [nI_leI, nI_ltI, nI_eq, nI_lt0, nI_ge0, nI_gt0, nI_le0, nI_eq0] at c7
      obtain rfl : k = 7 := by omega
      refine r_iload_n (q := 34) dX9_signs_33 rfl rfl ?_
      refine r_iret dX9_signs_34 ?_
      exact hQ
    · simp (disch := omega) only [nI_leI, nI_ltI, nI_eq, nI_lt0, nI_ge0, nI_gt0, nI_le0, nI_eq0] at c7
      refine r_iload_n (q := 11) dX9_signs_10 rfl rfl ?_
      refine r_aload_n (q := 12) dX9_signs_11 rfl rfl ?_
      refine r_iload_n (q := 13) dX9_signs_12 rfl rfl ?_
      refine r_iconst (v := nI 0) (q := 14) dX9_signs_13 (by decide) rfl ?_
      refine r_cV (q := 17) (As := [.int _, .int _]) wc_X9_108 rfl im_X9_lv se_X9_lv h.m rfl rfl (Nat.le_of_ble_eq_true rfl) (Nat.le_of_eq (Nat.zero_add _)) (Nat.le_of_eq (Nat.zero_add _)) dX9_signs_14 rfl rfl (x_lv h (by omega) (by decide) ?_)
      intro b14
      refine r_if_le (t := 24) (q := 20) dX9_signs_17 rfl rfl (fun c17 => ?_) (fun c17 => ?_)
      · simp (disch := omega) only [nI_leI, nI_ltI, nI_eq, nI_lt0, nI_ge0, nI_gt0, nI_le0, nI_eq0] at c17
        rw [show mCn (gA μ 0) 0 k = mCn (gA μ 0) 0 (k + 1) by rw [mCn_s, if_neg (by omega), Nat.add_zero]]
        refine r_iconst (v := nI 0) (q := 25) dX9_signs_24 (by decide) rfl ?_
        refine r_iadd (q := 26) dX9_signs_25 rfl ?_
        refine r_istore_n (q := 27) dX9_signs_26 (Nat.le_of_ble_eq_true rfl) rfl rfl ?_
        show AW _ (_, _, _, _, _, _, _, _, _) _ _ _ _ [some _, some _, some _] _ _
        refine r_inc1 (q := 30) dX9_signs_27 rfl (Nat.le_of_ble_eq_true rfl) rfl rfl ?_
        show AW _ (_, _, _, _, _, _, _, _, _) _ _ _ _ [some _, some _, some _] _ _
        refine r_goto (t := 4) dX9_signs_30 rfl ?_
        first
          | rw [n_add, show mCn (gA μ 0) 0 k + 1 = mCn (gA μ 0) 0 (k + 1) by rw [mCn_s, if_pos (by omega)]]
          | rw [n_add, Nat.add_zero]
        exact ih (7 - (k + 1)) (by omega) (k + 1) rfl (by omega)
      · simp (disch := omega) only [nI_leI, nI_ltI, nI_eq, nI_lt0, nI_ge0, nI_gt0, nI_le0, nI_eq0] at c17
        refine r_iconst (v := nI 1) (q := 21) dX9_signs_20 (by decide) rfl ?_
        refine r_goto (t := 25) dX9_signs_21 rfl ?_
        refine r_iadd (q := 26) dX9_signs_25 rfl ?_
        refine r_istore_n (q := 27) dX9_signs_26 (Nat.le_of_ble_eq_true rfl) rfl rfl ?_
        show AW _ (_, _, _, _, _, _, _, _, _) _ _ _ _ [some _, some _, some _] _ _
        refine r_inc1 (q := 30) dX9_signs_27 rfl (Nat.le_of_ble_eq_true rfl) rfl rfl ?_
        show AW _ (_, _, _, _, _, _, _, _, _) _ _ _ _ [some _, some _, some _] _ _
        refine r_goto (t := 4) dX9_signs_30 rfl ?_
        first
          | rw [n_add, show mCn (gA μ 0) 0 k + 1 = mCn (gA μ 0) 0 (k + 1) by rw [mCn_s, if_pos (by omega)]]
          | rw [n_add, Nat.add_zero]
        exact ih (7 - (k + 1)) (by omega) (k + 1) rfl (by omega)
  refine MS.of (by decide) (by simp [Value.category]) (Nat.le_of_ble_eq_true rfl) ?_
  show AW _ (_, _, _, _, _, _, _, _, _) _ _ _ _ [some _, _, _] _ _
  refine r_iconst (v := nI 0) (q := 1) dX9_signs_0 (by decide) rfl ?_
  refine r_istore_n (q := 2) dX9_signs_1 (Nat.le_of_ble_eq_true rfl) rfl rfl ?_
  show AW _ (_, _, _, _, _, _, _, _, _) _ _ _ _ [some _, some _, _] _ _
  refine r_iconst (v := nI 0) (q := 3) dX9_signs_2 (by decide) rfl ?_
  refine r_istore_n (q := 4) dX9_signs_3 (Nat.le_of_ble_eq_true rfl) rfl rfl ?_
  show AW _ (_, _, _, _, _, _, _, _, _) _ _ _ _ [some _, some _, some _] _ _
  exact loop _ 0 rfl (Nat.zero_le _)
theorem s_X9_mutedMany (h : RM G Λ ρ μ M) (hQ : Q (some (.int (nI (mCn (gA μ 0) 5 7)))) M)  : MS G yX9_mutedMany cX9_mutedMany 3 (some .int) (d + 1) 0 0 [.ref (Λ (10, 0, 0))] M Q QX := by
  have loop : ∀ (m : Nat) k, m = 7 - k → k ≤ 7 → AW G (wX G yX9_mutedMany cX9_mutedMany 3 (some .int) 0 0 Q QX) (d + 1) 0 0 4 [some (.ref (Λ (10, 0, 0))), some (.int (nI (mCn (gA μ 0) 5 k))), some (.int (nI k))] [] M := by
    intro m
    induction m using Nat.strongRecOn with
    | _ m ih =>
    intro k hm hk
    subst hm
    refine r_iload_n (q := 5) dX9_mutedMany_4 rfl rfl ?_
    refine r_bipush (v := nI 7) (q := 7) dX9_mutedMany_5 (by decide) rfl ?_
    refine r_icmp_ge (t := 33) (q := 10) dX9_mutedMany_7 rfl rfl (fun c7 => ?_) (fun c7 => ?_)
    · simp (disch := omega) only [nI_leI, nI_ltI, nI_eq, nI_lt0, nI_ge0, nI_gt0, nI_le0, nI_eq0] at c7
      obtain rfl : k = 7 := by omega
      refine r_iload_n (q := 34) dX9_mutedMany_33 rfl rfl ?_
      refine r_iret dX9_mutedMany_34 ?_
      exact hQ
    · simp (disch := omega) only [nI_leI, nI_ltI, nI_eq, nI_lt0, nI_ge0, nI_gt0, nI_le0, nI_eq0] at c7
      refine r_iload_n (q := 11) dX9_mutedMany_10 rfl rfl ?_
      refine r_aload_n (q := 12) dX9_mutedMany_11 rfl rfl ?_
      refine r_iload_n (q := 13) dX9_mutedMany_12 rfl rfl ?_
      refine r_iconst (v := nI 5) (q := 14) dX9_mutedMany_13 (by decide) rfl ?_
      refine r_cV (q := 17) (As := [.int _, .int _]) wc_X9_108 rfl im_X9_lv se_X9_lv h.m rfl rfl (Nat.le_of_ble_eq_true rfl) (Nat.le_of_eq (Nat.zero_add _)) (Nat.le_of_eq (Nat.zero_add _)) dX9_mutedMany_14 rfl rfl (x_lv h (by omega) (by decide) ?_)
      intro b14
      refine r_if_le (t := 24) (q := 20) dX9_mutedMany_17 rfl rfl (fun c17 => ?_) (fun c17 => ?_)
      · simp (disch := omega) only [nI_leI, nI_ltI, nI_eq, nI_lt0, nI_ge0, nI_gt0, nI_le0, nI_eq0] at c17
        rw [show mCn (gA μ 0) 5 k = mCn (gA μ 0) 5 (k + 1) by rw [mCn_s, if_neg (by omega), Nat.add_zero]]
        refine r_iconst (v := nI 0) (q := 25) dX9_mutedMany_24 (by decide) rfl ?_
        refine r_iadd (q := 26) dX9_mutedMany_25 rfl ?_
        refine r_istore_n (q := 27) dX9_mutedMany_26 (Nat.le_of_ble_eq_true rfl) rfl rfl ?_
        show AW _ (_, _, _, _, _, _, _, _, _) _ _ _ _ [some _, some _, some _] _ _
        refine r_inc1 (q := 30) dX9_mutedMany_27 rfl (Nat.le_of_ble_eq_true rfl) rfl rfl ?_
        show AW _ (_, _, _, _, _, _, _, _, _) _ _ _ _ [some _, some _, some _] _ _
        refine r_goto (t := 4) dX9_mutedMany_30 rfl ?_
        first
          | rw [n_add, show mCn (gA μ 0) 5 k + 1 = mCn (gA μ 0) 5 (k + 1) by rw [mCn_s, if_pos (by omega)]]
          | rw [n_add, Nat.add_zero]
        exact ih (7 - (k + 1)) (by omega) (k + 1) rfl (by omega)
      · simp (disch := omega) only [nI_leI, nI_ltI, nI_eq, nI_lt0, nI_ge0, nI_gt0, nI_le0, nI_eq0] at c17
        refine r_iconst (v := nI 1) (q := 21) dX9_mutedMany_20 (by decide) rfl ?_
        refine r_goto (t := 25) dX9_mutedMany_21 rfl ?_
        refine r_iadd (q := 26) dX9_mutedMany_25 rfl ?_
        refine r_istore_n (q := 27) dX9_mutedMany_26 (Nat.le_of_ble_eq_true rfl) rfl rfl ?_
        show AW _ (_, _, _, _, _, _, _, _, _) _ _ _ _ [some _, some _, some _] _ _
        refine r_inc1 (q := 30) dX9_mutedMany_27 rfl (Nat.le_of_ble_eq_true rfl) rfl rfl ?_
        show AW _ (_, _, _, _, _, _, _, _, _) _ _ _ _ [some _, some _, some _] _ _
        refine r_goto (t := 4) dX9_mutedMany_30 rfl ?_
        first
          | rw [n_add, show mCn (gA μ 0) 5 k + 1 = mCn (gA μ 0) 5 (k + 1) by rw [mCn_s, if_pos (by omega)]]
          | rw [n_add, Nat.add_zero]
        exact ih (7 - (k + 1)) (by omega) (k + 1) rfl (by omega)
  refine MS.of (by decide) (by simp [Value.category]) (Nat.le_of_ble_eq_true rfl) ?_
  show AW _ (_, _, _, _, _, _, _, _, _) _ _ _ _ [some _, _, _] _ _
  refine r_iconst (v := nI 0) (q := 1) dX9_mutedMany_0 (by decide) rfl ?_
  refine r_istore_n (q := 2) dX9_mutedMany_1 (Nat.le_of_ble_eq_true rfl) rfl rfl ?_
  show AW _ (_, _, _, _, _, _, _, _, _) _ _ _ _ [some _, some _, _] _ _
  refine r_iconst (v := nI 0) (q := 3) dX9_mutedMany_2 (by decide) rfl ?_
  refine r_istore_n (q := 4) dX9_mutedMany_3 (Nat.le_of_ble_eq_true rfl) rfl rfl ?_
  show AW _ (_, _, _, _, _, _, _, _, _) _ _ _ _ [some _, some _, some _] _ _
  exact loop _ 0 rfl (Nat.zero_le _)
theorem s_X9_sumOf (h : RM G Λ ρ μ M) {w : Nat} (hw : w < 10) (hQ : Q (some (.int (nI (mSm (gA μ 0) w 7)))) M)  : MS G yX9_sumOf cX9_sumOf 4 (some .int) (d + 1) 0 0 [.ref (Λ (10, 0, 0)), .int (nI w)] M Q QX := by
  have loop : ∀ (m : Nat) k, m = 7 - k → k ≤ 7 → AW G (wX G yX9_sumOf cX9_sumOf 4 (some .int) 0 0 Q QX) (d + 1) 0 0 4 [some (.ref (Λ (10, 0, 0))), some (.int (nI w)), some (.int (nI (mSm (gA μ 0) w k))), some (.int (nI k))] [] M := by
    intro m
    induction m using Nat.strongRecOn with
    | _ m ih =>
    intro k hm hk
    subst hm
    refine r_iload_n (q := 5) dX9_sumOf_4 rfl rfl ?_
    refine r_bipush (v := nI 7) (q := 7) dX9_sumOf_5 (by decide) rfl ?_
    refine r_icmp_ge (t := 25) (q := 10) dX9_sumOf_7 rfl rfl (fun c7 => ?_) (fun c7 => ?_)
    · simp (disch := omega) only [nI_leI, nI_ltI, nI_eq, nI_lt0, nI_ge0, nI_gt0, nI_le0, nI_eq0] at c7
      obtain rfl : k = 7 := by omega
      refine r_iload_n (q := 26) dX9_sumOf_25 rfl rfl ?_
      refine r_iret dX9_sumOf_26 ?_
      exact hQ
    · simp (disch := omega) only [nI_leI, nI_ltI, nI_eq, nI_lt0, nI_ge0, nI_gt0, nI_le0, nI_eq0] at c7
      refine r_iload_n (q := 11) dX9_sumOf_10 rfl rfl ?_
      refine r_aload_n (q := 12) dX9_sumOf_11 rfl rfl ?_
      refine r_iload_n (q := 13) dX9_sumOf_12 rfl rfl ?_
      refine r_iload_n (q := 14) dX9_sumOf_13 rfl rfl ?_
      refine r_cV (q := 17) (As := [.int _, .int _]) wc_X9_108 rfl im_X9_lv se_X9_lv h.m rfl rfl (Nat.le_of_ble_eq_true rfl) (Nat.le_of_eq (Nat.zero_add _)) (Nat.le_of_eq (Nat.zero_add _)) dX9_sumOf_14 rfl rfl (x_lv h (by omega) hw ?_)
      intro b14
      refine r_iadd (q := 18) dX9_sumOf_17 rfl ?_
      rw [n_add, ← mSm_s]
      refine r_istore_n (q := 19) dX9_sumOf_18 (Nat.le_of_ble_eq_true rfl) rfl rfl ?_
      show AW _ (_, _, _, _, _, _, _, _, _) _ _ _ _ [some _, some _, some _, some _] _ _
      refine r_inc1 (q := 22) dX9_sumOf_19 rfl (Nat.le_of_ble_eq_true rfl) rfl rfl ?_
      show AW _ (_, _, _, _, _, _, _, _, _) _ _ _ _ [some _, some _, some _, some _] _ _
      refine r_goto (t := 4) dX9_sumOf_22 rfl ?_
      exact ih (7 - (k + 1)) (by omega) (k + 1) rfl (by omega)
  refine MS.of (by decide) (by simp [Value.category]) (Nat.le_of_ble_eq_true rfl) ?_
  show AW _ (_, _, _, _, _, _, _, _, _) _ _ _ _ [some _, some _, _, _] _ _
  refine r_iconst (v := nI 0) (q := 1) dX9_sumOf_0 (by decide) rfl ?_
  refine r_istore_n (q := 2) dX9_sumOf_1 (Nat.le_of_ble_eq_true rfl) rfl rfl ?_
  show AW _ (_, _, _, _, _, _, _, _, _) _ _ _ _ [some _, some _, some _, _] _ _
  refine r_iconst (v := nI 0) (q := 3) dX9_sumOf_2 (by decide) rfl ?_
  refine r_istore_n (q := 4) dX9_sumOf_3 (Nat.le_of_ble_eq_true rfl) rfl rfl ?_
  show AW _ (_, _, _, _, _, _, _, _, _) _ _ _ _ [some _, some _, some _, some _] _ _
  exact loop _ 0 rfl (Nat.zero_le _)
theorem s_X9_itsSteam (h : RM G Λ ρ μ M) {l : Nat} (hl : l < 7) (hw : WN (gA μ 0) l) (hQ : Q (some (.int (nI (mSt (gA μ 0) l)))) M)  : MS G yX9_itsSteam cX9_itsSteam 2 (some .int) (d + 1) 0 0 [.ref (Λ (10, 0, 0)), .int (nI l)] M Q QX := by
  refine MS.of (by decide) (by simp [Value.category]) (Nat.le_of_ble_eq_true rfl) ?_
  show AW _ (_, _, _, _, _, _, _, _, _) _ _ _ _ [some _, some _] _ _
  refine r_aload_n (q := 1) dX9_itsSteam_0 rfl rfl ?_
  refine r_iload_n (q := 2) dX9_itsSteam_1 rfl rfl ?_
  refine r_iconst (v := nI 0) (q := 3) dX9_itsSteam_2 (by decide) rfl ?_
  refine r_cV (q := 6) (As := [.int _, .int _]) wc_X9_108 rfl im_X9_lv se_X9_lv h.m rfl rfl (Nat.le_of_ble_eq_true rfl) (Nat.le_of_eq (Nat.zero_add _)) (Nat.le_of_eq (Nat.zero_add _)) dX9_itsSteam_3 rfl rfl (x_lv h (by omega) (by decide) ?_)
  intro b3
  refine r_aload_n (q := 7) dX9_itsSteam_6 rfl rfl ?_
  refine r_iload_n (q := 8) dX9_itsSteam_7 rfl rfl ?_
  refine r_iconst (v := nI 1) (q := 9) dX9_itsSteam_8 (by decide) rfl ?_
  refine r_cV (q := 12) (As := [.int _, .int _]) wc_X9_108 rfl im_X9_lv se_X9_lv h.m rfl rfl (Nat.le_of_ble_eq_true rfl) (Nat.le_of_eq (Nat.zero_add _)) (Nat.le_of_eq (Nat.zero_add _)) dX9_itsSteam_9 rfl rfl (x_lv h (by omega) (by decide) ?_)
  intro b9
  refine r_cS (q := 15) (As := [.int _, .int _]) wc_X9_120 st_X9_steamOf rfl (Nat.le_of_ble_eq_true rfl) (Nat.le_of_eq (Nat.zero_add _)) (Nat.le_of_eq (Nat.zero_add _)) dX9_itsSteam_12 rfl rfl (s_X9_steamOf hw.1 hw.2 ?_)
  refine r_iret dX9_itsSteam_15 ?_
  exact hQ
def mrSign (F : Nat → Nat) (n b : Nat) : Option (Int32 × Int32) := ((List.range 7).find? fun l => decide (lF F l 0 = n) && decide (lF F l 1 = b)).map fun l => (nI 1, nI l)
def mrNo (F : Nat → Nat) (l : Nat) : Option (Int32 × Int32) := if lF F l 0 = 0 then some (nI 2, nI (mCn F 0 7)) else none
def mrPri (F : Nat → Nat) (l p : Nat) : Option (Int32 × Int32) := if lF F l 2 = p then some (nI 3, nI p) else none
def mrMu (F : Nat → Nat) (l : Nat) : Option (Int32 × Int32) := if 0 < lF F l 5 then some (nI 4, nI (lF F l 5)) else none
def mrXp (F : Nat → Nat) (l : Nat) : Option (Int32 × Int32) := if lF F l 9 = 2 then none else some (nI 7, nI (F 1))
def mrFi (F : Nat → Nat) (l : Nat) : Option (Int32 × Int32) := if lF F l 5 = 0 then some (nI 8, nI (lF F l 4)) else if lF F l 4 < 2 * lF F l 5 then some (nI 9, nI (2 * lF F l 5 - lF F l 4)) else none
def mrHu (F : Nat → Nat) (l t k : Nat) : Option (Int32 × Int32) := if lF F t 0 = 0 then some (nI 2, nI (mCn F 0 7)) else if 0 < lF F l 5 then some (nI 4, nI (lF F l 5)) else if 0 < lF F l 9 then some (nI 5, nI (F 0)) else if lF F l 3 < k * mSt F t then some (nI 6, nI (k * mSt F t - lF F l 3)) else none
theorem mfind {p : Nat → Bool} {k : Nat} (hk : k < 7) (h0 : ∀ j, j < k → p j = false) (h1 : p k = true) : (List.range 7).find? p = some k := by
  rw [List.find?_range_eq_some]
  exact ⟨h1, List.mem_range.mpr hk, fun j hj => by rw [h0 j hj]; rfl⟩
theorem mfind0 {p : Nat → Bool} (h0 : ∀ j, j < 7 → p j = false) : (List.range 7).find? p = none := by
  rw [List.find?_eq_none]
  intro x hx e
  rw [h0 x (List.mem_range.mp hx)] at e
  cases e
theorem andd {p q : Prop} [Decidable p] [Decidable q] (h : ¬ (p ∧ q)) : (decide p && decide q) = false := by
  rw [← Bool.decide_and]; exact decide_eq_false h
theorem s_X9_isRefusedSign (h : RM G Λ ρ μ M) {n b : Nat} (hn : n < 2 ^ 31) (hb : b < 2 ^ 31) (hQ : ∀ M', RM G Λ ρ (rfM μ (mrSign (gA μ 0) n b)) M' → Q (some (.int (bI (mrSign (gA μ 0) n b).isSome))) M')  : MS G yX9_isRefusedSign cX9_isRefusedSign 4 (some .boolean) (d + 1) 0 0 [.ref (Λ (10, 0, 0)), .int (nI n), .int (nI b)] M Q QX := by
  have loop : ∀ (m : Nat) k, m = 7 - k → k ≤ 7 → (∀ j, j < k → (decide (lF (gA μ 0) j 0 = n) && decide (lF (gA μ 0) j 1 = b)) = false) → AW G (wX G yX9_isRefusedSign cX9_isRefusedSign 4 (some .boolean) 0 0 Q QX) (d + 1) 0 0 2 [some (.ref (Λ (10, 0, 0))), some (.int (nI n)), some (.int (nI b)), some (.int (nI k))] [] M := by
    intro m
    induction m using Nat.strongRecOn with
    | _ m ih =>
    intro k hm hk hno
    subst hm
    refine r_iload_n (q := 3) dX9_isRefusedSign_2 rfl rfl ?_
    refine r_bipush (v := nI 7) (q := 5) dX9_isRefusedSign_3 (by decide) rfl ?_
    refine r_icmp_ge (t := 41) (q := 8) dX9_isRefusedSign_5 rfl rfl (fun c5 => ?_) (fun c5 => ?_)
    · simp (disch := omega) only [nI_leI, nI_ltI, nI_eq, nI_lt0, nI_ge0, nI_gt0, nI_le0, nI_eq0] at c5
      refine r_iconst (v := nI 0) (q := 42) dX9_isRefusedSign_41 (by decide) rfl ?_
      refine r_zret dX9_isRefusedSign_42 (by first | rfl | exact narrow_bI _) ?_
      obtain rfl : k = 7 := by omega
      rw [show mrSign (gA μ 0) n b = none by rw [mrSign, mfind0 hno]; rfl] at hQ
      exact hQ _ h
    · simp (disch := omega) only [nI_leI, nI_ltI, nI_eq, nI_lt0, nI_ge0, nI_gt0, nI_le0, nI_eq0] at c5
      refine r_aload_n (q := 9) dX9_isRefusedSign_8 rfl rfl ?_
      refine r_iload_n (q := 10) dX9_isRefusedSign_9 rfl rfl ?_
      refine r_iconst (v := nI 0) (q := 11) dX9_isRefusedSign_10 (by decide) rfl ?_
      refine r_cV (q := 14) (As := [.int _, .int _]) wc_X9_108 rfl im_X9_lv se_X9_lv h.m rfl rfl (Nat.le_of_ble_eq_true rfl) (Nat.le_of_eq (Nat.zero_add _)) (Nat.le_of_eq (Nat.zero_add _)) dX9_isRefusedSign_11 rfl rfl (x_lv h (by omega) (by decide) ?_)
      intro b11
      refine r_iload_n (q := 15) dX9_isRefusedSign_14 rfl rfl ?_
      refine r_icmp_ne (t := 35) (q := 18) dX9_isRefusedSign_15 rfl rfl (fun c15 => ?_) (fun c15 => ?_)
      · simp (disch := omega) only [nI_leI, nI_ltI, nI_eq, nI_lt0, nI_ge0, nI_gt0, nI_le0, nI_eq0] at c15
        refine r_inc1 (q := 38) dX9_isRefusedSign_35 rfl (Nat.le_of_ble_eq_true rfl) rfl rfl ?_
        show AW _ (_, _, _, _, _, _, _, _, _) _ _ _ _ [some _, some _, some _, some _] _ _
        refine r_goto (t := 2) dX9_isRefusedSign_38 rfl ?_
        exact ih (7 - (k + 1)) (by omega) (k + 1) rfl (by omega) fun j hj => if e : j = k then e ▸ andd (by omega) else hno j (by omega)
      · simp (disch := omega) only [nI_leI, nI_ltI, nI_eq, nI_lt0, nI_ge0, nI_gt0, nI_le0, nI_eq0] at c15
        refine r_aload_n (q := 19) dX9_isRefusedSign_18 rfl rfl ?_
        refine r_iload_n (q := 20) dX9_isRefusedSign_19 rfl rfl ?_
        refine r_iconst (v := nI 1) (q := 21) dX9_isRefusedSign_20 (by decide) rfl ?_
        refine r_cV (q := 24) (As := [.int _, .int _]) wc_X9_108 rfl im_X9_lv se_X9_lv h.m rfl rfl (Nat.le_of_ble_eq_true rfl) (Nat.le_of_eq (Nat.zero_add _)) (Nat.le_of_eq (Nat.zero_add _)) dX9_isRefusedSign_21 rfl rfl (x_lv h (by omega) (by decide) ?_)
        intro b21
        refine r_iload_n (q := 25) dX9_isRefusedSign_24 rfl rfl ?_
        refine r_icmp_ne (t := 35) (q := 28) dX9_isRefusedSign_25 rfl rfl (fun c25 => ?_) (fun c25 => ?_)
        · simp (disch := omega) only [nI_leI, nI_ltI, nI_eq, nI_lt0, nI_ge0, nI_gt0, nI_le0, nI_eq0] at c25
          refine r_inc1 (q := 38) dX9_isRefusedSign_35 rfl (Nat.le_of_ble_eq_true rfl) rfl rfl ?_
          show AW _ (_, _, _, _, _, _, _, _, _) _ _ _ _ [some _, some _, some _, some _] _ _
          refine r_goto (t := 2) dX9_isRefusedSign_38 rfl ?_
          exact ih (7 - (k + 1)) (by omega) (k + 1) rfl (by omega) fun j hj => if e : j = k then e ▸ andd (by omega) else hno j (by omega)
        · simp (disch := omega) only [nI_leI, nI_ltI, nI_eq, nI_lt0, nI_ge0, nI_gt0, nI_le0, nI_eq0] at c25
          refine r_aload_n (q := 29) dX9_isRefusedSign_28 rfl rfl ?_
          refine r_iconst (v := nI 1) (q := 30) dX9_isRefusedSign_29 (by decide) rfl ?_
          refine r_iload_n (q := 31) dX9_isRefusedSign_30 rfl rfl ?_
          refine r_cV (q := 34) (As := [.int _, .int _]) wc_X9_123 rfl im_X9_isBad se_X9_isBad h.m rfl rfl (Nat.le_of_ble_eq_true rfl) (Nat.le_of_eq (Nat.zero_add _)) (Nat.le_of_eq (Nat.zero_add _)) dX9_isRefusedSign_31 rfl rfl (s_X9_isBad h fun M_31 h_31 => ?_)
          refine r_zret dX9_isRefusedSign_34 (by first | rfl | exact narrow_bI _) ?_
          rw [show mrSign (gA μ 0) n b = some (nI 1, nI k) by rw [mrSign, mfind (by omega) hno (by simp [c15, c25])]; rfl] at hQ
          exact hQ _ h_31
  refine MS.of (by decide) (by simp [Value.category]) (Nat.le_of_ble_eq_true rfl) ?_
  show AW _ (_, _, _, _, _, _, _, _, _) _ _ _ _ [some _, some _, some _, _] _ _
  refine r_iconst (v := nI 0) (q := 1) dX9_isRefusedSign_0 (by decide) rfl ?_
  refine r_istore_n (q := 2) dX9_isRefusedSign_1 (Nat.le_of_ble_eq_true rfl) rfl rfl ?_
  show AW _ (_, _, _, _, _, _, _, _, _) _ _ _ _ [some _, some _, some _, some _] _ _
  exact loop _ 0 rfl (Nat.zero_le _) fun j hj => absurd hj (by omega)
theorem s_X9_hasNoSign (h : RM G Λ ρ μ M) {l : Nat} (hl : l < 7) (hQ : ∀ M', RM G Λ ρ (rfM μ (mrNo (gA μ 0) l)) M' → Q (some (.int (bI (mrNo (gA μ 0) l).isSome))) M')  : MS G yX9_hasNoSign cX9_hasNoSign 2 (some .boolean) (d + 2) 0 0 [.ref (Λ (10, 0, 0)), .int (nI l)] M Q QX := by
  refine MS.of (by decide) (by simp [Value.category]) (Nat.le_of_ble_eq_true rfl) ?_
  show AW _ (_, _, _, _, _, _, _, _, _) _ _ _ _ [some _, some _] _ _
  refine r_aload_n (q := 1) dX9_hasNoSign_0 rfl rfl ?_
  refine r_iload_n (q := 2) dX9_hasNoSign_1 rfl rfl ?_
  refine r_iconst (v := nI 0) (q := 3) dX9_hasNoSign_2 (by decide) rfl ?_
  refine r_cV (q := 6) (As := [.int _, .int _]) wc_X9_108 rfl im_X9_lv se_X9_lv h.m rfl rfl (Nat.le_of_ble_eq_true rfl) (Nat.le_of_eq (Nat.zero_add _)) (Nat.le_of_eq (Nat.zero_add _)) dX9_hasNoSign_3 rfl rfl (x_lv h (by omega) (by decide) ?_)
  intro b3
  refine r_if_ne (t := 25) (q := 9) dX9_hasNoSign_6 rfl rfl (fun c6 => ?_) (fun c6 => ?_)
  · simp (disch := omega) only [nI_leI, nI_ltI, nI_eq, nI_lt0, nI_ge0, nI_gt0, nI_le0, nI_eq0] at c6
    rw [show mrNo (gA μ 0) l = none from if_neg (by omega)] at hQ
    refine r_iconst (v := nI 0) (q := 26) dX9_hasNoSign_25 (by decide) rfl ?_
    refine r_zret dX9_hasNoSign_26 (by first | rfl | exact narrow_bI _) ?_
    exact hQ _ h
  · simp (disch := omega) only [nI_leI, nI_ltI, nI_eq, nI_lt0, nI_ge0, nI_gt0, nI_le0, nI_eq0] at c6
    rw [show mrNo (gA μ 0) l = _ from if_pos (by omega)] at hQ
    refine r_aload_n (q := 10) dX9_hasNoSign_9 rfl rfl ?_
    refine r_iconst (v := nI 2) (q := 11) dX9_hasNoSign_10 (by decide) rfl ?_
    refine r_aload_n (q := 12) dX9_hasNoSign_11 rfl rfl ?_
    refine r_cV (q := 15) (As := []) wc_X9_112 rfl im_X9_signs se_X9_signs h.m rfl rfl (Nat.le_of_ble_eq_true rfl) (Nat.le_of_eq (Nat.zero_add _)) (Nat.le_of_eq (Nat.zero_add _)) dX9_hasNoSign_12 rfl rfl (s_X9_signs h ?_)
    refine r_cV (q := 18) (As := [.int _, .int _]) wc_X9_123 rfl im_X9_isBad se_X9_isBad h.m rfl rfl (Nat.le_of_ble_eq_true rfl) (Nat.le_of_eq (Nat.zero_add _)) (Nat.le_of_eq (Nat.zero_add _)) dX9_hasNoSign_15 rfl rfl (s_X9_isBad h fun M_15 h_15 => ?_)
    refine r_if_eq (t := 25) (q := 21) dX9_hasNoSign_18 rfl rfl (fun c18 => ?_) (fun c18 => ?_)
    · exact absurd c18 (by decide)
    · refine r_iconst (v := nI 1) (q := 22) dX9_hasNoSign_21 (by decide) rfl ?_
      refine r_goto (t := 26) dX9_hasNoSign_22 rfl ?_
      refine r_zret dX9_hasNoSign_26 (by first | rfl | exact narrow_bI _) ?_
      exact hQ _ h_15
theorem s_X9_isRefusedPriority (h : RM G Λ ρ μ M) {l p : Nat} (hl : l < 7) (hp : p < 2 ^ 31) (hQ : ∀ M', RM G Λ ρ (rfM μ (mrPri (gA μ 0) l p)) M' → Q (some (.int (bI (mrPri (gA μ 0) l p).isSome))) M')  : MS G yX9_isRefusedPriority cX9_isRefusedPriority 3 (some .boolean) (d + 1) 0 0 [.ref (Λ (10, 0, 0)), .int (nI l), .int (nI p)] M Q QX := by
  refine MS.of (by decide) (by simp [Value.category]) (Nat.le_of_ble_eq_true rfl) ?_
  show AW _ (_, _, _, _, _, _, _, _, _) _ _ _ _ [some _, some _, some _] _ _
  refine r_aload_n (q := 1) dX9_isRefusedPriority_0 rfl rfl ?_
  refine r_iload_n (q := 2) dX9_isRefusedPriority_1 rfl rfl ?_
  refine r_iconst (v := nI 2) (q := 3) dX9_isRefusedPriority_2 (by decide) rfl ?_
  refine r_cV (q := 6) (As := [.int _, .int _]) wc_X9_108 rfl im_X9_lv se_X9_lv h.m rfl rfl (Nat.le_of_ble_eq_true rfl) (Nat.le_of_eq (Nat.zero_add _)) (Nat.le_of_eq (Nat.zero_add _)) dX9_isRefusedPriority_3 rfl rfl (x_lv h (by omega) (by decide) ?_)
  intro b3
  refine r_iload_n (q := 7) dX9_isRefusedPriority_6 rfl rfl ?_
  refine r_icmp_ne (t := 23) (q := 10) dX9_isRefusedPriority_7 rfl rfl (fun c7 => ?_) (fun c7 => ?_)
  · simp (disch := omega) only [nI_leI, nI_ltI, nI_eq, nI_lt0, nI_ge0, nI_gt0, nI_le0, nI_eq0] at c7
    rw [show mrPri (gA μ 0) l p = none from if_neg (by omega)] at hQ
    refine r_iconst (v := nI 0) (q := 24) dX9_isRefusedPriority_23 (by decide) rfl ?_
    refine r_zret dX9_isRefusedPriority_24 (by first | rfl | exact narrow_bI _) ?_
    exact hQ _ h
  · simp (disch := omega) only [nI_leI, nI_ltI, nI_eq, nI_lt0, nI_ge0, nI_gt0, nI_le0, nI_eq0] at c7
    rw [show mrPri (gA μ 0) l p = _ from if_pos (by omega)] at hQ
    refine r_aload_n (q := 11) dX9_isRefusedPriority_10 rfl rfl ?_
    refine r_iconst (v := nI 3) (q := 12) dX9_isRefusedPriority_11 (by decide) rfl ?_
    refine r_iload_n (q := 13) dX9_isRefusedPriority_12 rfl rfl ?_
    refine r_cV (q := 16) (As := [.int _, .int _]) wc_X9_123 rfl im_X9_isBad se_X9_isBad h.m rfl rfl (Nat.le_of_ble_eq_true rfl) (Nat.le_of_eq (Nat.zero_add _)) (Nat.le_of_eq (Nat.zero_add _)) dX9_isRefusedPriority_13 rfl rfl (s_X9_isBad h fun M_13 h_13 => ?_)
    refine r_if_eq (t := 23) (q := 19) dX9_isRefusedPriority_16 rfl rfl (fun c16 => ?_) (fun c16 => ?_)
    · exact absurd c16 (by decide)
    · refine r_iconst (v := nI 1) (q := 20) dX9_isRefusedPriority_19 (by decide) rfl ?_
      refine r_goto (t := 24) dX9_isRefusedPriority_20 rfl ?_
      refine r_zret dX9_isRefusedPriority_24 (by first | rfl | exact narrow_bI _) ?_
      exact hQ _ h_13
theorem s_X9_isRefusedMute (h : RM G Λ ρ μ M) {l : Nat} (hl : l < 7) (hQ : ∀ M', RM G Λ ρ (rfM μ (mrMu (gA μ 0) l)) M' → Q (some (.int (bI (mrMu (gA μ 0) l).isSome))) M')  : MS G yX9_isRefusedMute cX9_isRefusedMute 2 (some .boolean) (d + 1) 0 0 [.ref (Λ (10, 0, 0)), .int (nI l)] M Q QX := by
  refine MS.of (by decide) (by simp [Value.category]) (Nat.le_of_ble_eq_true rfl) ?_
  show AW _ (_, _, _, _, _, _, _, _, _) _ _ _ _ [some _, some _] _ _
  refine r_aload_n (q := 1) dX9_isRefusedMute_0 rfl rfl ?_
  refine r_iload_n (q := 2) dX9_isRefusedMute_1 rfl rfl ?_
  refine r_iconst (v := nI 5) (q := 3) dX9_isRefusedMute_2 (by decide) rfl ?_
  refine r_cV (q := 6) (As := [.int _, .int _]) wc_X9_108 rfl im_X9_lv se_X9_lv h.m rfl rfl (Nat.le_of_ble_eq_true rfl) (Nat.le_of_eq (Nat.zero_add _)) (Nat.le_of_eq (Nat.zero_add _)) dX9_isRefusedMute_3 rfl rfl (x_lv h (by omega) (by decide) ?_)
  intro b3
  refine r_if_le (t := 27) (q := 9) dX9_isRefusedMute_6 rfl rfl (fun c6 => ?_) (fun c6 => ?_)
  · simp (disch := omega) only [nI_leI, nI_ltI, nI_eq, nI_lt0, nI_ge0, nI_gt0, nI_le0, nI_eq0] at c6
    rw [show mrMu (gA μ 0) l = none from if_neg (by omega)] at hQ
    refine r_iconst (v := nI 0) (q := 28) dX9_isRefusedMute_27 (by decide) rfl ?_
    refine r_zret dX9_isRefusedMute_28 (by first | rfl | exact narrow_bI _) ?_
    exact hQ _ h
  · simp (disch := omega) only [nI_leI, nI_ltI, nI_eq, nI_lt0, nI_ge0, nI_gt0, nI_le0, nI_eq0] at c6
    rw [show mrMu (gA μ 0) l = _ from if_pos (by omega)] at hQ
    refine r_aload_n (q := 10) dX9_isRefusedMute_9 rfl rfl ?_
    refine r_iconst (v := nI 4) (q := 11) dX9_isRefusedMute_10 (by decide) rfl ?_
    refine r_aload_n (q := 12) dX9_isRefusedMute_11 rfl rfl ?_
    refine r_iload_n (q := 13) dX9_isRefusedMute_12 rfl rfl ?_
    refine r_iconst (v := nI 5) (q := 14) dX9_isRefusedMute_13 (by decide) rfl ?_
    refine r_cV (q := 17) (As := [.int _, .int _]) wc_X9_108 rfl im_X9_lv se_X9_lv h.m rfl rfl (Nat.le_of_ble_eq_true rfl) (Nat.le_of_eq (Nat.zero_add _)) (Nat.le_of_eq (Nat.zero_add _)) dX9_isRefusedMute_14 rfl rfl (x_lv h (by omega) (by decide) ?_)
    intro b14
    refine r_cV (q := 20) (As := [.int _, .int _]) wc_X9_123 rfl im_X9_isBad se_X9_isBad h.m rfl rfl (Nat.le_of_ble_eq_true rfl) (Nat.le_of_eq (Nat.zero_add _)) (Nat.le_of_eq (Nat.zero_add _)) dX9_isRefusedMute_17 rfl rfl (s_X9_isBad h fun M_17 h_17 => ?_)
    refine r_if_eq (t := 27) (q := 23) dX9_isRefusedMute_20 rfl rfl (fun c20 => ?_) (fun c20 => ?_)
    · exact absurd c20 (by decide)
    · refine r_iconst (v := nI 1) (q := 24) dX9_isRefusedMute_23 (by decide) rfl ?_
      refine r_goto (t := 28) dX9_isRefusedMute_24 rfl ?_
      refine r_zret dX9_isRefusedMute_28 (by first | rfl | exact narrow_bI _) ?_
      exact hQ _ h_17
theorem s_X9_isRefusedExpose (h : RM G Λ ρ μ M) {l : Nat} (hl : l < 7) (hQ : ∀ M', RM G Λ ρ (rfM μ (mrXp (gA μ 0) l)) M' → Q (some (.int (bI (mrXp (gA μ 0) l).isSome))) M')  : MS G yX9_isRefusedExpose cX9_isRefusedExpose 2 (some .boolean) (d + 1) 0 0 [.ref (Λ (10, 0, 0)), .int (nI l)] M Q QX := by
  refine MS.of (by decide) (by simp [Value.category]) (Nat.le_of_ble_eq_true rfl) ?_
  show AW _ (_, _, _, _, _, _, _, _, _) _ _ _ _ [some _, some _] _ _
  refine r_aload_n (q := 1) dX9_isRefusedExpose_0 rfl rfl ?_
  refine r_iload_n (q := 2) dX9_isRefusedExpose_1 rfl rfl ?_
  refine r_bipush (v := nI 9) (q := 4) dX9_isRefusedExpose_2 (by decide) rfl ?_
  refine r_cV (q := 7) (As := [.int _, .int _]) wc_X9_108 rfl im_X9_lv se_X9_lv h.m rfl rfl (Nat.le_of_ble_eq_true rfl) (Nat.le_of_eq (Nat.zero_add _)) (Nat.le_of_eq (Nat.zero_add _)) dX9_isRefusedExpose_4 rfl rfl (x_lv h (by omega) (by decide) ?_)
  intro b4
  refine r_iconst (v := nI 2) (q := 8) dX9_isRefusedExpose_7 (by decide) rfl ?_
  refine r_icmp_eq (t := 30) (q := 11) dX9_isRefusedExpose_8 rfl rfl (fun c8 => ?_) (fun c8 => ?_)
  · simp (disch := omega) only [nI_leI, nI_ltI, nI_eq, nI_lt0, nI_ge0, nI_gt0, nI_le0, nI_eq0] at c8
    rw [show mrXp (gA μ 0) l = none from if_pos (by omega)] at hQ
    refine r_iconst (v := nI 0) (q := 31) dX9_isRefusedExpose_30 (by decide) rfl ?_
    refine r_zret dX9_isRefusedExpose_31 (by first | rfl | exact narrow_bI _) ?_
    exact hQ _ h
  · simp (disch := omega) only [nI_leI, nI_ltI, nI_eq, nI_lt0, nI_ge0, nI_gt0, nI_le0, nI_eq0] at c8
    rw [show mrXp (gA μ 0) l = _ from if_neg (by omega)] at hQ
    refine r_aload_n (q := 12) dX9_isRefusedExpose_11 rfl rfl ?_
    refine r_bipush (v := nI 7) (q := 14) dX9_isRefusedExpose_12 (by decide) rfl ?_
    refine r_aload_n (q := 15) dX9_isRefusedExpose_14 rfl rfl ?_
    refine r_get (q := 18) (kk := 0) h.m rfl wi_RX9 (by decide) rfl fk_X9_7 rfl dX9_isRefusedExpose_15 rfl ?_
    refine r_iconst (v := nI 1) (q := 19) dX9_isRefusedExpose_18 (by decide) rfl ?_
    refine r_ialdM (q := 20) h (by decide) (by simp only [mLen]; omega) dX9_isRefusedExpose_19 rfl ?_
    refine r_cV (q := 23) (As := [.int _, .int _]) wc_X9_123 rfl im_X9_isBad se_X9_isBad h.m rfl rfl (Nat.le_of_ble_eq_true rfl) (Nat.le_of_eq (Nat.zero_add _)) (Nat.le_of_eq (Nat.zero_add _)) dX9_isRefusedExpose_20 rfl rfl (s_X9_isBad h fun M_20 h_20 => ?_)
    refine r_if_eq (t := 30) (q := 26) dX9_isRefusedExpose_23 rfl rfl (fun c23 => ?_) (fun c23 => ?_)
    · exact absurd c23 (by decide)
    · refine r_iconst (v := nI 1) (q := 27) dX9_isRefusedExpose_26 (by decide) rfl ?_
      refine r_goto (t := 31) dX9_isRefusedExpose_27 rfl ?_
      refine r_zret dX9_isRefusedExpose_31 (by first | rfl | exact narrow_bI _) ?_
      exact hQ _ h_20
theorem s_X9_isRefusedFine (h : RM G Λ ρ μ M) {l : Nat} (hl : l < 7) (h5 : lF (gA μ 0) l 5 < 2 ^ 28) (hQ : ∀ M', RM G Λ ρ (rfM μ (mrFi (gA μ 0) l)) M' → Q (some (.int (bI (mrFi (gA μ 0) l).isSome))) M')  : MS G yX9_isRefusedFine cX9_isRefusedFine 2 (some .boolean) (d + 1) 0 0 [.ref (Λ (10, 0, 0)), .int (nI l)] M Q QX := by
  refine MS.of (by decide) (by simp [Value.category]) (Nat.le_of_ble_eq_true rfl) ?_
  show AW _ (_, _, _, _, _, _, _, _, _) _ _ _ _ [some _, some _] _ _
  refine r_aload_n (q := 1) dX9_isRefusedFine_0 rfl rfl ?_
  refine r_iload_n (q := 2) dX9_isRefusedFine_1 rfl rfl ?_
  refine r_iconst (v := nI 5) (q := 3) dX9_isRefusedFine_2 (by decide) rfl ?_
  refine r_cV (q := 6) (As := [.int _, .int _]) wc_X9_108 rfl im_X9_lv se_X9_lv h.m rfl rfl (Nat.le_of_ble_eq_true rfl) (Nat.le_of_eq (Nat.zero_add _)) (Nat.le_of_eq (Nat.zero_add _)) dX9_isRefusedFine_3 rfl rfl (x_lv h (by omega) (by decide) ?_)
  intro b3
  refine r_if_ne (t := 22) (q := 9) dX9_isRefusedFine_6 rfl rfl (fun c6 => ?_) (fun c6 => ?_)
  · simp (disch := omega) only [nI_leI, nI_ltI, nI_eq, nI_lt0, nI_ge0, nI_gt0, nI_le0, nI_eq0] at c6
    rw [show mrFi (gA μ 0) l = _ from if_neg (by omega)] at hQ
    refine r_aload_n (q := 23) dX9_isRefusedFine_22 rfl rfl ?_
    refine r_iload_n (q := 24) dX9_isRefusedFine_23 rfl rfl ?_
    refine r_iconst (v := nI 4) (q := 25) dX9_isRefusedFine_24 (by decide) rfl ?_
    refine r_cV (q := 28) (As := [.int _, .int _]) wc_X9_108 rfl im_X9_lv se_X9_lv h.m rfl rfl (Nat.le_of_ble_eq_true rfl) (Nat.le_of_eq (Nat.zero_add _)) (Nat.le_of_eq (Nat.zero_add _)) dX9_isRefusedFine_25 rfl rfl (x_lv h (by omega) (by decide) ?_)
    intro b25
    refine r_iconst (v := nI 2) (q := 29) dX9_isRefusedFine_28 (by decide) rfl ?_
    refine r_aload_n (q := 30) dX9_isRefusedFine_29 rfl rfl ?_
    refine r_iload_n (q := 31) dX9_isRefusedFine_30 rfl rfl ?_
    refine r_iconst (v := nI 5) (q := 32) dX9_isRefusedFine_31 (by decide) rfl ?_
    refine r_cV (q := 35) (As := [.int _, .int _]) wc_X9_108 rfl im_X9_lv se_X9_lv h.m rfl rfl (Nat.le_of_ble_eq_true rfl) (Nat.le_of_eq (Nat.zero_add _)) (Nat.le_of_eq (Nat.zero_add _)) dX9_isRefusedFine_32 rfl rfl (x_lv h (by omega) (by decide) ?_)
    intro b32
    refine r_imul (q := 36) dX9_isRefusedFine_35 rfl ?_
    rw [n_mul]
    refine r_icmp_ge (t := 67) (q := 39) dX9_isRefusedFine_36 rfl rfl (fun c36 => ?_) (fun c36 => ?_)
    · simp (disch := omega) only [nI_leI, nI_ltI, nI_eq, nI_lt0, nI_ge0, nI_gt0, nI_le0, nI_eq0] at c36
      rw [if_neg (by omega)] at hQ
      refine r_iconst (v := nI 0) (q := 68) dX9_isRefusedFine_67 (by decide) rfl ?_
      refine r_zret dX9_isRefusedFine_68 (by first | rfl | exact narrow_bI _) ?_
      exact hQ _ h
    · simp (disch := omega) only [nI_leI, nI_ltI, nI_eq, nI_lt0, nI_ge0, nI_gt0, nI_le0, nI_eq0] at c36
      rw [if_pos (by omega)] at hQ
      refine r_aload_n (q := 40) dX9_isRefusedFine_39 rfl rfl ?_
      refine r_bipush (v := nI 9) (q := 42) dX9_isRefusedFine_40 (by decide) rfl ?_
      refine r_iconst (v := nI 2) (q := 43) dX9_isRefusedFine_42 (by decide) rfl ?_
      refine r_aload_n (q := 44) dX9_isRefusedFine_43 rfl rfl ?_
      refine r_iload_n (q := 45) dX9_isRefusedFine_44 rfl rfl ?_
      refine r_iconst (v := nI 5) (q := 46) dX9_isRefusedFine_45 (by decide) rfl ?_
      refine r_cV (q := 49) (As := [.int _, .int _]) wc_X9_108 rfl im_X9_lv se_X9_lv h.m rfl rfl (Nat.le_of_ble_eq_true rfl) (Nat.le_of_eq (Nat.zero_add _)) (Nat.le_of_eq (Nat.zero_add _)) dX9_isRefusedFine_46 rfl rfl (x_lv h (by omega) (by decide) ?_)
      intro b46
      refine r_imul (q := 50) dX9_isRefusedFine_49 rfl ?_
      rw [n_mul]
      refine r_aload_n (q := 51) dX9_isRefusedFine_50 rfl rfl ?_
      refine r_iload_n (q := 52) dX9_isRefusedFine_51 rfl rfl ?_
      refine r_iconst (v := nI 4) (q := 53) dX9_isRefusedFine_52 (by decide) rfl ?_
      refine r_cV (q := 56) (As := [.int _, .int _]) wc_X9_108 rfl im_X9_lv se_X9_lv h.m rfl rfl (Nat.le_of_ble_eq_true rfl) (Nat.le_of_eq (Nat.zero_add _)) (Nat.le_of_eq (Nat.zero_add _)) dX9_isRefusedFine_53 rfl rfl (x_lv h (by omega) (by decide) ?_)
      intro b53
      refine r_isub (q := 57) dX9_isRefusedFine_56 rfl ?_
      rw [n_sub (by omega)]
      refine r_cV (q := 60) (As := [.int _, .int _]) wc_X9_123 rfl im_X9_isBad se_X9_isBad h.m rfl rfl (Nat.le_of_ble_eq_true rfl) (Nat.le_of_eq (Nat.zero_add _)) (Nat.le_of_eq (Nat.zero_add _)) dX9_isRefusedFine_57 rfl rfl (s_X9_isBad h fun M_57 h_57 => ?_)
      refine r_if_eq (t := 67) (q := 63) dX9_isRefusedFine_60 rfl rfl (fun c60 => ?_) (fun c60 => ?_)
      · exact absurd c60 (by decide)
      · refine r_iconst (v := nI 1) (q := 64) dX9_isRefusedFine_63 (by decide) rfl ?_
        refine r_goto (t := 68) dX9_isRefusedFine_64 rfl ?_
        refine r_zret dX9_isRefusedFine_68 (by first | rfl | exact narrow_bI _) ?_
        exact hQ _ h_57
  · simp (disch := omega) only [nI_leI, nI_ltI, nI_eq, nI_lt0, nI_ge0, nI_gt0, nI_le0, nI_eq0] at c6
    rw [show mrFi (gA μ 0) l = _ from if_pos (by omega)] at hQ
    refine r_aload_n (q := 10) dX9_isRefusedFine_9 rfl rfl ?_
    refine r_bipush (v := nI 8) (q := 12) dX9_isRefusedFine_10 (by decide) rfl ?_
    refine r_aload_n (q := 13) dX9_isRefusedFine_12 rfl rfl ?_
    refine r_iload_n (q := 14) dX9_isRefusedFine_13 rfl rfl ?_
    refine r_iconst (v := nI 4) (q := 15) dX9_isRefusedFine_14 (by decide) rfl ?_
    refine r_cV (q := 18) (As := [.int _, .int _]) wc_X9_108 rfl im_X9_lv se_X9_lv h.m rfl rfl (Nat.le_of_ble_eq_true rfl) (Nat.le_of_eq (Nat.zero_add _)) (Nat.le_of_eq (Nat.zero_add _)) dX9_isRefusedFine_15 rfl rfl (x_lv h (by omega) (by decide) ?_)
    intro b15
    refine r_cV (q := 21) (As := [.int _, .int _]) wc_X9_123 rfl im_X9_isBad se_X9_isBad h.m rfl rfl (Nat.le_of_ble_eq_true rfl) (Nat.le_of_eq (Nat.zero_add _)) (Nat.le_of_eq (Nat.zero_add _)) dX9_isRefusedFine_18 rfl rfl (s_X9_isBad h fun M_18 h_18 => ?_)
    refine r_zret dX9_isRefusedFine_21 (by first | rfl | exact narrow_bI _) ?_
    exact hQ _ h_18
theorem s_X9_isHushed (h : RM G Λ ρ μ M) {l t k : Nat} (hl : l < 7) (ht : t < 7) (hw : WN (gA μ 0) t) (hk : k ≤ 2) (hQ : ∀ M', RM G Λ ρ (rfM μ (mrHu (gA μ 0) l t k)) M' → Q (some (.int (bI (mrHu (gA μ 0) l t k).isSome))) M')  : MS G yX9_isHushed cX9_isHushed 4 (some .boolean) (d + 3) 0 0 [.ref (Λ (10, 0, 0)), .int (nI l), .int (nI t), .int (nI k)] M Q QX := by
  have hms : mSt (gA μ 0) t ≤ 12 := mSt_le hw
  have hkm : k * mSt (gA μ 0) t ≤ 24 := Nat.mul_le_mul hk hms
  refine MS.of (by decide) (by simp [Value.category]) (Nat.le_of_ble_eq_true rfl) ?_
  show AW _ (_, _, _, _, _, _, _, _, _) _ _ _ _ [some _, some _, some _, some _] _ _
  refine r_aload_n (q := 1) dX9_isHushed_0 rfl rfl ?_
  refine r_iload_n (q := 2) dX9_isHushed_1 rfl rfl ?_
  refine r_cV (q := 5) (As := [.int _]) wc_X9_153 rfl im_X9_hasNoSign se_X9_hasNoSign h.m rfl rfl (Nat.le_of_ble_eq_true rfl) (Nat.le_of_eq (Nat.zero_add _)) (Nat.le_of_eq (Nat.zero_add _)) dX9_isHushed_2 rfl rfl (s_X9_hasNoSign h ht fun M_2 h_2 => ?_)
  refine r_if_eq (t := 10) (q := 8) dX9_isHushed_5 rfl rfl (fun c5 => ?_) (fun c5 => ?_)
  · have c5b : mrNo (gA μ 0) t = none := by cases e : mrNo (gA μ 0) t with
      | none => rfl
      | some z => rw [e] at c5; exact absurd c5 (show ¬ bI true = 0 by decide)
    rw [c5b] at h_2
    replace h_2 : RM G Λ ρ μ M_2 := h_2
    have c5c : ¬ lF (gA μ 0) t 0 = 0 := fun e => by rw [mrNo, if_pos e] at c5b; cases c5b
    rw [show mrHu (gA μ 0) l t k = _ from if_neg c5c] at hQ
    refine r_aload_n (q := 11) dX9_isHushed_10 rfl rfl ?_
    refine r_iload_n (q := 12) dX9_isHushed_11 rfl rfl ?_
    refine r_iconst (v := nI 5) (q := 13) dX9_isHushed_12 (by decide) rfl ?_
    refine r_cV (q := 16) (As := [.int _, .int _]) wc_X9_108 rfl im_X9_lv se_X9_lv h_2.m rfl rfl (Nat.le_of_ble_eq_true rfl) (Nat.le_of_eq (Nat.zero_add _)) (Nat.le_of_eq (Nat.zero_add _)) dX9_isHushed_13 rfl rfl (x_lv h_2 (by omega) (by decide) ?_)
    intro b13
    refine r_if_le (t := 31) (q := 19) dX9_isHushed_16 rfl rfl (fun c16 => ?_) (fun c16 => ?_)
    · simp (disch := omega) only [nI_leI, nI_ltI, nI_eq, nI_lt0, nI_ge0, nI_gt0, nI_le0, nI_eq0] at c16
      rw [if_neg (by omega)] at hQ
      refine r_aload_n (q := 32) dX9_isHushed_31 rfl rfl ?_
      refine r_iload_n (q := 33) dX9_isHushed_32 rfl rfl ?_
      refine r_bipush (v := nI 9) (q := 35) dX9_isHushed_33 (by decide) rfl ?_
      refine r_cV (q := 38) (As := [.int _, .int _]) wc_X9_108 rfl im_X9_lv se_X9_lv h_2.m rfl rfl (Nat.le_of_ble_eq_true rfl) (Nat.le_of_eq (Nat.zero_add _)) (Nat.le_of_eq (Nat.zero_add _)) dX9_isHushed_35 rfl rfl (x_lv h_2 (by omega) (by decide) ?_)
      intro b35
      refine r_if_le (t := 53) (q := 41) dX9_isHushed_38 rfl rfl (fun c38 => ?_) (fun c38 => ?_)
      · simp (disch := omega) only [nI_leI, nI_ltI, nI_eq, nI_lt0, nI_ge0, nI_gt0, nI_le0, nI_eq0] at c38
        rw [if_neg (by omega)] at hQ
        refine r_aload_n (q := 54) dX9_isHushed_53 rfl rfl ?_
        refine r_iload_n (q := 55) dX9_isHushed_54 rfl rfl ?_
        refine r_iconst (v := nI 3) (q := 56) dX9_isHushed_55 (by decide) rfl ?_
        refine r_cV (q := 59) (As := [.int _, .int _]) wc_X9_108 rfl im_X9_lv se_X9_lv h_2.m rfl rfl (Nat.le_of_ble_eq_true rfl) (Nat.le_of_eq (Nat.zero_add _)) (Nat.le_of_eq (Nat.zero_add _)) dX9_isHushed_56 rfl rfl (x_lv h_2 (by omega) (by decide) ?_)
        intro b56
        refine r_iload_n (q := 60) dX9_isHushed_59 rfl rfl ?_
        refine r_aload_n (q := 61) dX9_isHushed_60 rfl rfl ?_
        refine r_iload_n (q := 62) dX9_isHushed_61 rfl rfl ?_
        refine r_cV (q := 65) (As := [.int _]) wc_X9_127 rfl im_X9_itsSteam se_X9_itsSteam h_2.m rfl rfl (Nat.le_of_ble_eq_true rfl) (Nat.le_of_eq (Nat.zero_add _)) (Nat.le_of_eq (Nat.zero_add _)) dX9_isHushed_62 rfl rfl (s_X9_itsSteam h_2 ht hw ?_)
        refine r_imul (q := 66) dX9_isHushed_65 rfl ?_
        rw [n_mul]
        refine r_icmp_ge (t := 96) (q := 69) dX9_isHushed_66 rfl rfl (fun c66 => ?_) (fun c66 => ?_)
        · simp (disch := omega) only [nI_leI, nI_ltI, nI_eq, nI_lt0, nI_ge0, nI_gt0, nI_le0, nI_eq0] at c66
          rw [if_neg (by omega)] at hQ
          refine r_iconst (v := nI 0) (q := 97) dX9_isHushed_96 (by decide) rfl ?_
          refine r_zret dX9_isHushed_97 (by first | rfl | exact narrow_bI _) ?_
          exact hQ _ h_2
        · simp (disch := omega) only [nI_leI, nI_ltI, nI_eq, nI_lt0, nI_ge0, nI_gt0, nI_le0, nI_eq0] at c66
          rw [if_pos (by omega)] at hQ
          refine r_aload_n (q := 70) dX9_isHushed_69 rfl rfl ?_
          refine r_bipush (v := nI 6) (q := 72) dX9_isHushed_70 (by decide) rfl ?_
          refine r_iload_n (q := 73) dX9_isHushed_72 rfl rfl ?_
          refine r_aload_n (q := 74) dX9_isHushed_73 rfl rfl ?_
          refine r_iload_n (q := 75) dX9_isHushed_74 rfl rfl ?_
          refine r_cV (q := 78) (As := [.int _]) wc_X9_127 rfl im_X9_itsSteam se_X9_itsSteam h_2.m rfl rfl (Nat.le_of_ble_eq_true rfl) (Nat.le_of_eq (Nat.zero_add _)) (Nat.le_of_eq (Nat.zero_add _)) dX9_isHushed_75 rfl rfl (s_X9_itsSteam h_2 ht hw ?_)
          refine r_imul (q := 79) dX9_isHushed_78 rfl ?_
          rw [n_mul]
          refine r_aload_n (q := 80) dX9_isHushed_79 rfl rfl ?_
          refine r_iload_n (q := 81) dX9_isHushed_80 rfl rfl ?_
          refine r_iconst (v := nI 3) (q := 82) dX9_isHushed_81 (by decide) rfl ?_
          refine r_cV (q := 85) (As := [.int _, .int _]) wc_X9_108 rfl im_X9_lv se_X9_lv h_2.m rfl rfl (Nat.le_of_ble_eq_true rfl) (Nat.le_of_eq (Nat.zero_add _)) (Nat.le_of_eq (Nat.zero_add _)) dX9_isHushed_82 rfl rfl (x_lv h_2 (by omega) (by decide) ?_)
          intro b82
          refine r_isub (q := 86) dX9_isHushed_85 rfl ?_
          rw [n_sub (by omega)]
          refine r_cV (q := 89) (As := [.int _, .int _]) wc_X9_123 rfl im_X9_isBad se_X9_isBad h_2.m rfl rfl (Nat.le_of_ble_eq_true rfl) (Nat.le_of_eq (Nat.zero_add _)) (Nat.le_of_eq (Nat.zero_add _)) dX9_isHushed_86 rfl rfl (s_X9_isBad h_2 fun M_86 h_86 => ?_)
          refine r_if_eq (t := 96) (q := 92) dX9_isHushed_89 rfl rfl (fun c89 => ?_) (fun c89 => ?_)
          · exact absurd c89 (by decide)
          · refine r_iconst (v := nI 1) (q := 93) dX9_isHushed_92 (by decide) rfl ?_
            refine r_goto (t := 97) dX9_isHushed_93 rfl ?_
            refine r_zret dX9_isHushed_97 (by first | rfl | exact narrow_bI _) ?_
            exact hQ _ h_86
      · simp (disch := omega) only [nI_leI, nI_ltI, nI_eq, nI_lt0, nI_ge0, nI_gt0, nI_le0, nI_eq0] at c38
        rw [if_pos (by omega)] at hQ
        refine r_aload_n (q := 42) dX9_isHushed_41 rfl rfl ?_
        refine r_iconst (v := nI 5) (q := 43) dX9_isHushed_42 (by decide) rfl ?_
        refine r_aload_n (q := 44) dX9_isHushed_43 rfl rfl ?_
        refine r_get (q := 47) (kk := 0) h_2.m rfl wi_RX9 (by decide) rfl fk_X9_7 rfl dX9_isHushed_44 rfl ?_
        refine r_iconst (v := nI 0) (q := 48) dX9_isHushed_47 (by decide) rfl ?_
        refine r_ialdM (q := 49) h_2 (by decide) (by simp only [mLen]; omega) dX9_isHushed_48 rfl ?_
        refine r_cV (q := 52) (As := [.int _, .int _]) wc_X9_123 rfl im_X9_isBad se_X9_isBad h_2.m rfl rfl (Nat.le_of_ble_eq_true rfl) (Nat.le_of_eq (Nat.zero_add _)) (Nat.le_of_eq (Nat.zero_add _)) dX9_isHushed_49 rfl rfl (s_X9_isBad h_2 fun M_49 h_49 => ?_)
        refine r_zret dX9_isHushed_52 (by first | rfl | exact narrow_bI _) ?_
        exact hQ _ h_49
    · simp (disch := omega) only [nI_leI, nI_ltI, nI_eq, nI_lt0, nI_ge0, nI_gt0, nI_le0, nI_eq0] at c16
      rw [if_pos (by omega)] at hQ
      refine r_aload_n (q := 20) dX9_isHushed_19 rfl rfl ?_
      refine r_iconst (v := nI 4) (q := 21) dX9_isHushed_20 (by decide) rfl ?_
      refine r_aload_n (q := 22) dX9_isHushed_21 rfl rfl ?_
      refine r_iload_n (q := 23) dX9_isHushed_22 rfl rfl ?_
      refine r_iconst (v := nI 5) (q := 24) dX9_isHushed_23 (by decide) rfl ?_
      refine r_cV (q := 27) (As := [.int _, .int _]) wc_X9_108 rfl im_X9_lv se_X9_lv h_2.m rfl rfl (Nat.le_of_ble_eq_true rfl) (Nat.le_of_eq (Nat.zero_add _)) (Nat.le_of_eq (Nat.zero_add _)) dX9_isHushed_24 rfl rfl (x_lv h_2 (by omega) (by decide) ?_)
      intro b24
      refine r_cV (q := 30) (As := [.int _, .int _]) wc_X9_123 rfl im_X9_isBad se_X9_isBad h_2.m rfl rfl (Nat.le_of_ble_eq_true rfl) (Nat.le_of_eq (Nat.zero_add _)) (Nat.le_of_eq (Nat.zero_add _)) dX9_isHushed_27 rfl rfl (s_X9_isBad h_2 fun M_27 h_27 => ?_)
      refine r_zret dX9_isHushed_30 (by first | rfl | exact narrow_bI _) ?_
      exact hQ _ h_27
  · have c5b : lF (gA μ 0) t 0 = 0 := Decidable.byContradiction fun e => by rw [mrNo, if_neg e] at c5; exact c5 rfl
    rw [show mrNo (gA μ 0) t = _ from if_pos c5b] at h_2
    rw [show mrHu (gA μ 0) l t k = _ from if_pos c5b] at hQ
    refine r_iconst (v := nI 1) (q := 9) dX9_isHushed_8 (by decide) rfl ?_
    refine r_zret dX9_isHushed_9 (by first | rfl | exact narrow_bI _) ?_
    exact hQ _ h_2
end W52
