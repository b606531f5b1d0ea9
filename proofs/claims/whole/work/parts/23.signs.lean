/-! SIGNS: questions about a row of words -/
section W23
variable {G : En} {Λ : Ob → Nat} {M : Me} {d : Nat} {Q : Option Value → Me → Prop} {QX : String → Me → Prop} {a b : Nat} {L : List Nat}
def oI : Option Nat → Int32
  | some l => nI l
  | none => -1
theorem find_some {n j : Nat} {p : Nat → Bool} (hj : j < n) (h : ∀ l, l < j → p l = false) (hp : p j = true) : (List.range n).find? p = some j := by
  rw [List.find?_eq_some_iff_getElem]
  refine ⟨hp, j, by simpa using hj, by simp, fun l hl => ?_⟩
  simp [h l hl]
theorem find_none {n : Nat} {p : Nat → Bool} (h : ∀ l, l < n → p l = false) : (List.range n).find? p = none := by
  rw [List.find?_eq_none]
  intro x hx
  simp [h x (List.mem_range.mp hx)]
theorem all_t {n : Nat} {p : Nat → Bool} (h : ∀ l, l < n → p l = true) : (List.range n).all p = true := by
  rw [List.all_eq_true]
  intro x hx
  exact h x (List.mem_range.mp hx)
theorem all_f {n j : Nat} {p : Nat → Bool} (hj : j < n) (h : p j = false) : (List.range n).all p = false := by
  rw [List.all_eq_false]
  exact ⟨j, List.mem_range.mpr hj, by simp [h]⟩
theorem any_f {n : Nat} {p : Nat → Bool} (h : ∀ l, l < n → p l = false) : (List.range n).any p = false := by
  rw [List.any_eq_false]
  intro x hx
  simp [h x (List.mem_range.mp hx)]
theorem any_t {n j : Nat} {p : Nat → Bool} (hj : j < n) (h : p j = true) : (List.range n).any p = true := by
  rw [List.any_eq_true]
  exact ⟨j, List.mem_range.mpr hj, h⟩
theorem lt_s' {p : Nat → Prop} {j : Nat} (h : ∀ l, l < j → p l) (hj : p j) : ∀ l, l < j + 1 → p l := fun l hl => by
  by_cases e : l = j
  · rw [e]; exact hj
  · exact h l (by omega)
def gLens (L : List Nat) (n : Nat) : Nat := ((List.range n).map fun l => L.getD l 0 / 64).sum
theorem range_sum_succ (f : Nat → Nat) (n : Nat) : ((List.range (n + 1)).map f).sum = ((List.range n).map f).sum + f n := by
  rw [List.range_succ, List.map_append, List.sum_append]; simp
theorem range_count_succ (p : Nat → Bool) (n : Nat) : (List.range (n + 1)).countP p = (List.range n).countP p + (if p n then 1 else 0) := by
  rw [List.range_succ, List.countP_append, List.countP_singleton]
def gOwner (L : List Nat) (w : Nat) : Option Nat := (List.range 7).find? fun l => decide (L.getD l 0 = w)
def gStd (L : List Nat) (i j : Nat) : Nat := if L.getD i 0 = 0 ∨ L.getD j 0 = 0 then 0 else if i = j then 3 else if wBeg (L.getD i 0) (L.getD j 0) = true then 1 else if wBeg (L.getD j 0) (L.getD i 0) = true then 2 else 0
theorem gStd_lt (L : List Nat) (i j : Nat) : gStd L i j < 4 := by unfold gStd; repeat (first | split | omega)
def gClear (L : List Nat) : Bool := (List.range 7).all fun i => (List.range i).all fun j => decide (gStd L i j = 0)
def gDist (L : List Nat) : Bool := (List.range 7).all fun l => decide (L.getD l 0 = 0) || decide (gOwner L (L.getD l 0) = some l)
def gFree (L : List Nat) (w : Nat) : Bool := (List.range 7).all fun l => decide (L.getD l 0 = 0) || !(wBeg (L.getD l 0) w || wBeg w (L.getD l 0))
def gFreeW (L : List Nat) (n : Nat) : Nat := (List.range (2 ^ n)).countP fun x => gFree L (n * 64 + x)
def gBar (L : List Nat) (line n : Nat) : Bool := (List.range 7).any fun o => decide (wCut (L.getD o 0) n ≠ 0) && (decide (wCut (L.getD o 0) n ≠ wCut (L.getD line 0) n) || decide (o < line)) && wBeg (wCut (L.getD o 0) n) (wCut (L.getD line 0) n)
def gBarV (L : List Nat) (n l : Nat) : Nat := if wCut (L.getD l 0) n ≠ 0 ∧ gBar L l n = false then 2 ^ (n - wCut (L.getD l 0) n / 64) else 0
def gBars (L : List Nat) (n k : Nat) : Nat := ((List.range k).map (gBarV L n)).sum
theorem gBars_no {L : List Nat} {n j : Nat} (h : ¬ (wCut (L.getD j 0) n ≠ 0 ∧ gBar L j n = false)) : gBars L n (j + 1) = gBars L n j := by
  rw [gBars, gBars, range_sum_succ, gBarV, if_neg h, Nat.add_zero]
theorem wCut_lt {w m : Nat} (hw : w < 448) (hm : m ≤ 6) : wCut w m < 448 ∧ wCut w m / 64 ≤ m := by
  unfold wCut
  split
  · exact ⟨hw, by assumption⟩
  · have h1 : w % 64 % 2 ^ m < 64 := Nat.lt_of_le_of_lt (Nat.mod_le _ _) (Nat.mod_lt _ (by omega))
    omega
theorem s_X3_number (hw : RW G Λ a b L M) (hQ : Q (some (.int (nI (L.countP (0 < ·))))) M) : MS G yX3_number cX3_number 1 (some .int) (d + 1) 0 0 [.ref (Λ (2, a, b))] M Q QX := by
  refine MS.of (by decide) (by simp [Value.category]) (Nat.le_of_ble_eq_true rfl) ?_
  show AW _ _ _ _ _ _ [some _] _ _
  refine r_aload_n (q := 1) dX3_number_0 rfl rfl ?_
  refine r_invV (q := 4) (As := []) wc_X3_9 rfl im_X2_numberAboveZero se_X2_numberAboveZero hw.1 rfl rfl (Nat.le_of_ble_eq_true rfl) (Nat.le_of_eq (Nat.zero_add _)) (Nat.le_of_eq (Nat.zero_add _)) dX3_number_1 rfl rfl (s_X2_numberAboveZero hw ?_)
  refine r_iret dX3_number_4 ?_
  exact hQ

theorem s_X3_sumOfLengths (hw : RW G Λ a b L M) (hQ : Q (some (.int (nI (gLens L 7)))) M) : MS G yX3_sumOfLengths cX3_sumOfLengths 3 (some .int) (d + 1) 0 0 [.ref (Λ (2, a, b))] M Q QX := by
  have hall := hw.2.2.1
  have loop : ∀ m j, m = 7 - j → j ≤ 7 → AW G (wX G yX3_sumOfLengths cX3_sumOfLengths 3 (some .int) 0 0 Q QX) (d + 1) 0 0 4 [some (.ref (Λ (2, a, b))), some (.int (nI (gLens L j))), some (.int (nI j))] [] M := by
    intro m
    induction m using Nat.strongRecOn with
    | _ m ih =>
    intro j hm hj
    subst hm
    refine r_iload_n (q := 5) dX3_sumOfLengths_4 rfl rfl ?_
    refine r_bipush (v := nI 7) (q := 7) dX3_sumOfLengths_5 (by decide) rfl ?_
    refine r_icmp_ge (t := 27) (q := 10) dX3_sumOfLengths_7 rfl rfl (fun c7 => ?_) (fun c7 => ?_)
    · simp (disch := omega) only [nI_leI, nI_ltI, nI_eq, nI_lt0, nI_ge0, nI_gt0, nI_le0, nI_eq0] at c7
      refine r_iload_n (q := 28) dX3_sumOfLengths_27 rfl rfl ?_
      refine r_iret dX3_sumOfLengths_28 ?_
      obtain rfl : j = 7 := by omega
      exact hQ
    · simp (disch := omega) only [nI_leI, nI_ltI, nI_eq, nI_lt0, nI_ge0, nI_gt0, nI_le0, nI_eq0] at c7
      have hb1 : L.getD j 0 < 2 ^ 31 := getD_all (by omega) hall j
      refine r_iload_n (q := 11) dX3_sumOfLengths_10 rfl rfl ?_
      refine r_aload_n (q := 12) dX3_sumOfLengths_11 rfl rfl ?_
      refine r_iload_n (q := 13) dX3_sumOfLengths_12 rfl rfl ?_
      refine r_invV (q := 16) (As := [.int _]) wc_X3_15 rfl im_X2_at se_X2_at hw.1 rfl rfl (Nat.le_of_ble_eq_true rfl) (Nat.le_of_eq (Nat.zero_add _)) (Nat.le_of_eq (Nat.zero_add _)) dX3_sumOfLengths_13 rfl rfl (s_X2_at hw ?_)
      rw [rAt_nI (by omega)]
      refine r_invS (q := 19) (As := [.int _]) wc_X3_19 st_X7_length rfl (Nat.le_of_ble_eq_true rfl) (Nat.le_of_eq (Nat.zero_add _)) (Nat.le_of_eq (Nat.zero_add _)) dX3_sumOfLengths_16 rfl rfl (s_X7_length (by omega) ?_)
      refine r_iadd (q := 20) dX3_sumOfLengths_19 rfl ?_
      rw [n_add, show gLens L j + L.getD j 0 / 64 = gLens L (j + 1) from (range_sum_succ _ _).symm]
      refine r_istore_n (q := 21) dX3_sumOfLengths_20 (Nat.le_of_ble_eq_true rfl) rfl rfl ?_
      show AW _ _ _ _ _ _ [some _, some _, some _] _ _
      refine r_inc1 (q := 24) dX3_sumOfLengths_21 rfl (Nat.le_of_ble_eq_true rfl) rfl rfl ?_
      show AW _ _ _ _ _ _ [some _, some _, some _] _ _
      refine r_goto (t := 4) dX3_sumOfLengths_24 rfl ?_
      exact ih (7 - (j + 1)) (by omega) (j + 1) rfl (by omega)
  refine MS.of (by decide) (by simp [Value.category]) (Nat.le_of_ble_eq_true rfl) ?_
  show AW _ _ _ _ _ _ [some _, none, none] _ _
  refine r_iconst (v := nI 0) (q := 1) dX3_sumOfLengths_0 (by decide) rfl ?_
  refine r_istore_n (q := 2) dX3_sumOfLengths_1 (Nat.le_of_ble_eq_true rfl) rfl rfl ?_
  show AW _ _ _ _ _ _ [some _, some _, none] _ _
  refine r_iconst (v := nI 0) (q := 3) dX3_sumOfLengths_2 (by decide) rfl ?_
  refine r_istore_n (q := 4) dX3_sumOfLengths_3 (Nat.le_of_ble_eq_true rfl) rfl rfl ?_
  show AW _ _ _ _ _ _ [some _, some _, some _] _ _
  exact loop _ 0 rfl (by omega)

theorem s_X3_owner (hw : RW G Λ a b L M) {w : Nat} (hww : w < 2 ^ 31) (hQ : Q (some (.int (oI (gOwner L w)))) M) : MS G yX3_owner cX3_owner 3 (some .int) (d + 1) 0 0 [.ref (Λ (2, a, b)), .int (nI w)] M Q QX := by
  have hall := hw.2.2.1
  have loop : ∀ m j, m = 7 - j → j ≤ 7 → (∀ l, l < j → decide (L.getD l 0 = w) = false) → AW G (wX G yX3_owner cX3_owner 3 (some .int) 0 0 Q QX) (d + 1) 0 0 2 [some (.ref (Λ (2, a, b))), some (.int (nI w)), some (.int (nI j))] [] M := by
    intro m
    induction m using Nat.strongRecOn with
    | _ m ih =>
    intro j hm hj hf
    subst hm
    refine r_iload_n (q := 3) dX3_owner_2 rfl rfl ?_
    refine r_bipush (v := nI 7) (q := 5) dX3_owner_3 (by decide) rfl ?_
    refine r_icmp_ge (t := 25) (q := 8) dX3_owner_5 rfl rfl (fun c5 => ?_) (fun c5 => ?_)
    · simp (disch := omega) only [nI_leI, nI_ltI, nI_eq, nI_lt0, nI_ge0, nI_gt0, nI_le0, nI_eq0] at c5
      refine r_iconst (v := (-1)) (q := 26) dX3_owner_25 (by decide) rfl ?_
      refine r_iret dX3_owner_26 ?_
      obtain rfl : j = 7 := by omega
      rw [show gOwner L w = none from find_none hf] at hQ
      exact hQ
    · simp (disch := omega) only [nI_leI, nI_ltI, nI_eq, nI_lt0, nI_ge0, nI_gt0, nI_le0, nI_eq0] at c5
      have hb1 : L.getD j 0 < 2 ^ 31 := getD_all (by omega) hall j
      refine r_aload_n (q := 9) dX3_owner_8 rfl rfl ?_
      refine r_iload_n (q := 10) dX3_owner_9 rfl rfl ?_
      refine r_invV (q := 13) (As := [.int _]) wc_X3_15 rfl im_X2_at se_X2_at hw.1 rfl rfl (Nat.le_of_ble_eq_true rfl) (Nat.le_of_eq (Nat.zero_add _)) (Nat.le_of_eq (Nat.zero_add _)) dX3_owner_10 rfl rfl (s_X2_at hw ?_)
      rw [rAt_nI (by omega)]
      refine r_iload_n (q := 14) dX3_owner_13 rfl rfl ?_
      refine r_icmp_ne (t := 19) (q := 17) dX3_owner_14 rfl rfl (fun c14 => ?_) (fun c14 => ?_)
      · simp (disch := omega) only [nI_leI, nI_ltI, nI_eq, nI_lt0, nI_ge0, nI_gt0, nI_le0, nI_eq0] at c14
        refine r_inc1 (q := 22) dX3_owner_19 rfl (Nat.le_of_ble_eq_true rfl) rfl rfl ?_
        show AW _ _ _ _ _ _ [some _, some _, some _] _ _
        refine r_goto (t := 2) dX3_owner_22 rfl ?_
        exact ih (7 - (j + 1)) (by omega) (j + 1) rfl (by omega) (lt_s' hf (decide_eq_false c14))
      · simp (disch := omega) only [nI_leI, nI_ltI, nI_eq, nI_lt0, nI_ge0, nI_gt0, nI_le0, nI_eq0] at c14
        refine r_iload_n (q := 18) dX3_owner_17 rfl rfl ?_
        refine r_iret dX3_owner_18 ?_
        rw [show gOwner L w = some j from find_some (by omega) hf (decide_eq_true c14)] at hQ
        exact hQ
  refine MS.of (by decide) (by simp [Value.category]) (Nat.le_of_ble_eq_true rfl) ?_
  show AW _ _ _ _ _ _ [some _, some _, none] _ _
  refine r_iconst (v := nI 0) (q := 1) dX3_owner_0 (by decide) rfl ?_
  refine r_istore_n (q := 2) dX3_owner_1 (Nat.le_of_ble_eq_true rfl) rfl rfl ?_
  show AW _ _ _ _ _ _ [some _, some _, some _] _ _
  exact loop _ 0 rfl (by omega) (fun l hl => by omega)

theorem s_X3_standing (hw : RW G Λ a b L M) (hwd : ∀ x ∈ L, x < 448) {i j : Nat} (hi : i < 2 ^ 31) (hj : j < 2 ^ 31) (hQ : Q (some (.int (nI (gStd L i j)))) M) : MS G yX3_standing cX3_standing 5 (some .int) (d + 3) 0 0 [.ref (Λ (2, a, b)), .int (nI i), .int (nI j)] M Q QX := by
  have hgi : L.getD i 0 < 448 := getD_all (by omega) hwd i
  have hgj : L.getD j 0 < 448 := getD_all (by omega) hwd j
  refine MS.of (by decide) (by simp [Value.category]) (Nat.le_of_ble_eq_true rfl) ?_
  show AW _ _ _ _ _ _ [some _, some _, some _, none, none] _ _
  refine r_aload_n (q := 1) dX3_standing_0 rfl rfl ?_
  refine r_iload_n (q := 2) dX3_standing_1 rfl rfl ?_
  refine r_invV (q := 5) (As := [.int _]) wc_X3_15 rfl im_X2_at se_X2_at hw.1 rfl rfl (Nat.le_of_ble_eq_true rfl) (Nat.le_of_eq (Nat.zero_add _)) (Nat.le_of_eq (Nat.zero_add _)) dX3_standing_2 rfl rfl (s_X2_at hw ?_)
  rw [rAt_nI hi]
  refine r_istore_n (q := 6) dX3_standing_5 (Nat.le_of_ble_eq_true rfl) rfl rfl ?_
  show AW _ _ _ _ _ _ [some _, some _, some _, some _, none] _ _
  refine r_aload_n (q := 7) dX3_standing_6 rfl rfl ?_
  refine r_iload_n (q := 8) dX3_standing_7 rfl rfl ?_
  refine r_invV (q := 11) (As := [.int _]) wc_X3_15 rfl im_X2_at se_X2_at hw.1 rfl rfl (Nat.le_of_ble_eq_true rfl) (Nat.le_of_eq (Nat.zero_add _)) (Nat.le_of_eq (Nat.zero_add _)) dX3_standing_8 rfl rfl (s_X2_at hw ?_)
  rw [rAt_nI hj]
  refine r_istore (q := 13) dX3_standing_11 (Nat.le_of_ble_eq_true rfl) rfl rfl ?_
  show AW _ _ _ _ _ _ [some _, some _, some _, some _, some _] _ _
  refine r_iload_n (q := 14) dX3_standing_13 rfl rfl ?_
  refine r_if_eq (t := 22) (q := 17) dX3_standing_14 rfl rfl (fun c14 => ?_) (fun c14 => ?_)
  · simp (disch := omega) only [nI_leI, nI_ltI, nI_eq, nI_lt0, nI_ge0, nI_gt0, nI_le0, nI_eq0] at c14
    refine r_iconst (v := nI 0) (q := 23) dX3_standing_22 (by decide) rfl ?_
    refine r_iret dX3_standing_23 ?_
    first
      | (rw [show gStd L i j = 0 from if_pos (by omega)] at hQ; exact hQ)
      | (rw [show gStd L i j = 3 from by unfold gStd; rw [if_neg (by omega), if_pos (by omega)]] at hQ; exact hQ)
      | (rw [show gStd L i j = 1 from by unfold gStd; rw [if_neg (by omega), if_neg (by omega), if_pos (bI_ne c37)]] at hQ; exact hQ)
      | (rw [show gStd L i j = 2 from by unfold gStd; rw [if_neg (by omega), if_neg (by omega), if_neg (by rw [bI_eq0.mp c37]; decide), if_pos (bI_ne c48)]] at hQ; exact hQ)
      | (rw [show gStd L i j = 0 from by unfold gStd; rw [if_neg (by omega), if_neg (by omega), if_neg (by rw [bI_eq0.mp c37]; decide), if_neg (by rw [bI_eq0.mp c48]; decide)]] at hQ; exact hQ)
  · simp (disch := omega) only [nI_leI, nI_ltI, nI_eq, nI_lt0, nI_ge0, nI_gt0, nI_le0, nI_eq0] at c14
    refine r_iload (q := 19) dX3_standing_17 rfl rfl ?_
    refine r_if_ne (t := 24) (q := 22) dX3_standing_19 rfl rfl (fun c19 => ?_) (fun c19 => ?_)
    · simp (disch := omega) only [nI_leI, nI_ltI, nI_eq, nI_lt0, nI_ge0, nI_gt0, nI_le0, nI_eq0] at c19
      refine r_iload_n (q := 25) dX3_standing_24 rfl rfl ?_
      refine r_iload_n (q := 26) dX3_standing_25 rfl rfl ?_
      refine r_icmp_ne (t := 31) (q := 29) dX3_standing_26 rfl rfl (fun c26 => ?_) (fun c26 => ?_)
      · simp (disch := omega) only [nI_leI, nI_ltI, nI_eq, nI_lt0, nI_ge0, nI_gt0, nI_le0, nI_eq0] at c26
        refine r_iload_n (q := 32) dX3_standing_31 rfl rfl ?_
        refine r_iload (q := 34) dX3_standing_32 rfl rfl ?_
        refine r_invS (q := 37) (As := [.int _, .int _]) wc_X3_24 st_X7_begins rfl (Nat.le_of_ble_eq_true rfl) (Nat.le_of_eq (Nat.zero_add _)) (Nat.le_of_eq (Nat.zero_add _)) dX3_standing_34 rfl rfl (s_X7_begins (by omega) (by omega) (by omega) ?_)
        refine r_if_eq (t := 42) (q := 40) dX3_standing_37 rfl rfl (fun c37 => ?_) (fun c37 => ?_)
        · refine r_iload (q := 44) dX3_standing_42 rfl rfl ?_
          refine r_iload_n (q := 45) dX3_standing_44 rfl rfl ?_
          refine r_invS (q := 48) (As := [.int _, .int _]) wc_X3_24 st_X7_begins rfl (Nat.le_of_ble_eq_true rfl) (Nat.le_of_eq (Nat.zero_add _)) (Nat.le_of_eq (Nat.zero_add _)) dX3_standing_45 rfl rfl (s_X7_begins (by omega) (by omega) (by omega) ?_)
          refine r_if_eq (t := 55) (q := 51) dX3_standing_48 rfl rfl (fun c48 => ?_) (fun c48 => ?_)
          · refine r_iconst (v := nI 0) (q := 56) dX3_standing_55 (by decide) rfl ?_
            refine r_iret dX3_standing_56 ?_
            first
              | (rw [show gStd L i j = 0 from if_pos (by omega)] at hQ; exact hQ)
              | (rw [show gStd L i j = 3 from by unfold gStd; rw [if_neg (by omega), if_pos (by omega)]] at hQ; exact hQ)
              | (rw [show gStd L i j = 1 from by unfold gStd; rw [if_neg (by omega), if_neg (by omega), if_pos (bI_ne c37)]] at hQ; exact hQ)
              | (rw [show gStd L i j = 2 from by unfold gStd; rw [if_neg (by omega), if_neg (by omega), if_neg (by rw [bI_eq0.mp c37]; decide), if_pos (bI_ne c48)]] at hQ; exact hQ)
              | (rw [show gStd L i j = 0 from by unfold gStd; rw [if_neg (by omega), if_neg (by omega), if_neg (by rw [bI_eq0.mp c37]; decide), if_neg (by rw [bI_eq0.mp c48]; decide)]] at hQ; exact hQ)
          · refine r_iconst (v := nI 2) (q := 52) dX3_standing_51 (by decide) rfl ?_
            refine r_goto (t := 56) dX3_standing_52 rfl ?_
            refine r_iret dX3_standing_56 ?_
            first
              | (rw [show gStd L i j = 0 from if_pos (by omega)] at hQ; exact hQ)
              | (rw [show gStd L i j = 3 from by unfold gStd; rw [if_neg (by omega), if_pos (by omega)]] at hQ; exact hQ)
              | (rw [show gStd L i j = 1 from by unfold gStd; rw [if_neg (by omega), if_neg (by omega), if_pos (bI_ne c37)]] at hQ; exact hQ)
              | (rw [show gStd L i j = 2 from by unfold gStd; rw [if_neg (by omega), if_neg (by omega), if_neg (by rw [bI_eq0.mp c37]; decide), if_pos (bI_ne c48)]] at hQ; exact hQ)
              | (rw [show gStd L i j = 0 from by unfold gStd; rw [if_neg (by omega), if_neg (by omega), if_neg (by rw [bI_eq0.mp c37]; decide), if_neg (by rw [bI_eq0.mp c48]; decide)]] at hQ; exact hQ)
        · refine r_iconst (v := nI 1) (q := 41) dX3_standing_40 (by decide) rfl ?_
          refine r_iret dX3_standing_41 ?_
          first
            | (rw [show gStd L i j = 0 from if_pos (by omega)] at hQ; exact hQ)
            | (rw [show gStd L i j = 3 from by unfold gStd; rw [if_neg (by omega), if_pos (by omega)]] at hQ; exact hQ)
            | (rw [show gStd L i j = 1 from by unfold gStd; rw [if_neg (by omega), if_neg (by omega), if_pos (bI_ne c37)]] at hQ; exact hQ)
            | (rw [show gStd L i j = 2 from by unfold gStd; rw [if_neg (by omega), if_neg (by omega), if_neg (by rw [bI_eq0.mp c37]; decide), if_pos (bI_ne c48)]] at hQ; exact hQ)
            | (rw [show gStd L i j = 0 from by unfold gStd; rw [if_neg (by omega), if_neg (by omega), if_neg (by rw [bI_eq0.mp c37]; decide), if_neg (by rw [bI_eq0.mp c48]; decide)]] at hQ; exact hQ)
      · simp (disch := omega) only [nI_leI, nI_ltI, nI_eq, nI_lt0, nI_ge0, nI_gt0, nI_le0, nI_eq0] at c26
        refine r_iconst (v := nI 3) (q := 30) dX3_standing_29 (by decide) rfl ?_
        refine r_iret dX3_standing_30 ?_
        first
          | (rw [show gStd L i j = 0 from if_pos (by omega)] at hQ; exact hQ)
          | (rw [show gStd L i j = 3 from by unfold gStd; rw [if_neg (by omega), if_pos (by omega)]] at hQ; exact hQ)
          | (rw [show gStd L i j = 1 from by unfold gStd; rw [if_neg (by omega), if_neg (by omega), if_pos (bI_ne c37)]] at hQ; exact hQ)
          | (rw [show gStd L i j = 2 from by unfold gStd; rw [if_neg (by omega), if_neg (by omega), if_neg (by rw [bI_eq0.mp c37]; decide), if_pos (bI_ne c48)]] at hQ; exact hQ)
          | (rw [show gStd L i j = 0 from by unfold gStd; rw [if_neg (by omega), if_neg (by omega), if_neg (by rw [bI_eq0.mp c37]; decide), if_neg (by rw [bI_eq0.mp c48]; decide)]] at hQ; exact hQ)
    · simp (disch := omega) only [nI_leI, nI_ltI, nI_eq, nI_lt0, nI_ge0, nI_gt0, nI_le0, nI_eq0] at c19
      refine r_iconst (v := nI 0) (q := 23) dX3_standing_22 (by decide) rfl ?_
      refine r_iret dX3_standing_23 ?_
      first
        | (rw [show gStd L i j = 0 from if_pos (by omega)] at hQ; exact hQ)
        | (rw [show gStd L i j = 3 from by unfold gStd; rw [if_neg (by omega), if_pos (by omega)]] at hQ; exact hQ)
        | (rw [show gStd L i j = 1 from by unfold gStd; rw [if_neg (by omega), if_neg (by omega), if_pos (bI_ne c37)]] at hQ; exact hQ)
        | (rw [show gStd L i j = 2 from by unfold gStd; rw [if_neg (by omega), if_neg (by omega), if_neg (by rw [bI_eq0.mp c37]; decide), if_pos (bI_ne c48)]] at hQ; exact hQ)
        | (rw [show gStd L i j = 0 from by unfold gStd; rw [if_neg (by omega), if_neg (by omega), if_neg (by rw [bI_eq0.mp c37]; decide), if_neg (by rw [bI_eq0.mp c48]; decide)]] at hQ; exact hQ)

theorem s_X3_areClear (hw : RW G Λ a b L M) (hwd : ∀ x ∈ L, x < 448) (hQ : Q (some (.int (bI (gClear L)))) M) : MS G yX3_areClear cX3_areClear 3 (some .boolean) (d + 4) 0 0 [.ref (Λ (2, a, b))] M Q QX := by
  have loop : ∀ m i (z : Option Value), m = 7 - i → i ≤ 7 → (∀ l, l < i → ((List.range l).all fun j => decide (gStd L l j = 0)) = true) → AW G (wX G yX3_areClear cX3_areClear 3 (some .boolean) 0 0 Q QX) (d + 4) 0 0 2 [some (.ref (Λ (2, a, b))), some (.int (nI i)), z] [] M := by
    intro m
    induction m using Nat.strongRecOn with
    | _ m ihi =>
    intro i z hm hj hfi
    subst hm
    refine r_iload_n (q := 3) dX3_areClear_2 rfl rfl ?_
    refine r_bipush (v := nI 7) (q := 5) dX3_areClear_3 (by decide) rfl ?_
    refine r_icmp_ge (t := 38) (q := 8) dX3_areClear_5 rfl rfl (fun c5 => ?_) (fun c5 => ?_)
    · simp (disch := omega) only [nI_leI, nI_ltI, nI_eq, nI_lt0, nI_ge0, nI_gt0, nI_le0, nI_eq0] at c5
      refine r_iconst (v := nI 1) (q := 39) dX3_areClear_38 (by decide) rfl ?_
      refine r_zret dX3_areClear_39 rfl ?_
      obtain rfl : i = 7 := by omega
      rw [bI_t (show gClear L = true from all_t hfi)] at hQ
      exact hQ
    · simp (disch := omega) only [nI_leI, nI_ltI, nI_eq, nI_lt0, nI_ge0, nI_gt0, nI_le0, nI_eq0] at c5
      refine r_iconst (v := nI 0) (q := 9) dX3_areClear_8 (by decide) rfl ?_
      refine r_istore_n (q := 10) dX3_areClear_9 (Nat.le_of_ble_eq_true rfl) rfl rfl ?_
      show AW _ _ _ _ _ _ [some _, some _, some _] _ _
      have loopj : ∀ m j, m = i - j → j ≤ i → (∀ l, l < j → decide (gStd L i l = 0) = true) → AW G (wX G yX3_areClear cX3_areClear 3 (some .boolean) 0 0 Q QX) (d + 4) 0 0 10 [some (.ref (Λ (2, a, b))), some (.int (nI i)), some (.int (nI j))] [] M := by
        intro m
        induction m using Nat.strongRecOn with
        | _ m ih =>
        intro j hm hj hf
        subst hm
        refine r_iload_n (q := 11) dX3_areClear_10 rfl rfl ?_
        refine r_iload_n (q := 12) dX3_areClear_11 rfl rfl ?_
        refine r_icmp_ge (t := 32) (q := 15) dX3_areClear_12 rfl rfl (fun c12 => ?_) (fun c12 => ?_)
        · simp (disch := omega) only [nI_leI, nI_ltI, nI_eq, nI_lt0, nI_ge0, nI_gt0, nI_le0, nI_eq0] at c12
          refine r_inc1 (q := 35) dX3_areClear_32 rfl (Nat.le_of_ble_eq_true rfl) rfl rfl ?_
          show AW _ _ _ _ _ _ [some _, some _, some _] _ _
          refine r_goto (t := 2) dX3_areClear_35 rfl ?_
          obtain rfl : j = i := by omega
          exact ihi (7 - (j + 1)) (by omega) (j + 1) _ rfl (by omega) (lt_s' hfi (all_t hf))
        · simp (disch := omega) only [nI_leI, nI_ltI, nI_eq, nI_lt0, nI_ge0, nI_gt0, nI_le0, nI_eq0] at c12
          refine r_aload_n (q := 16) dX3_areClear_15 rfl rfl ?_
          refine r_iload_n (q := 17) dX3_areClear_16 rfl rfl ?_
          refine r_iload_n (q := 18) dX3_areClear_17 rfl rfl ?_
          refine r_invS (q := 21) (As := [.ref _, .int _, .int _]) wc_X3_28 st_X3_standing rfl (Nat.le_of_ble_eq_true rfl) (Nat.le_of_eq (Nat.zero_add _)) (Nat.le_of_eq (Nat.zero_add _)) dX3_areClear_18 rfl rfl (s_X3_standing hw hwd (by omega) (by omega) ?_)
          have hg9 := gStd_lt L i j
          refine r_if_eq (t := 26) (q := 24) dX3_areClear_21 rfl rfl (fun c21 => ?_) (fun c21 => ?_)
          · simp (disch := omega) only [nI_leI, nI_ltI, nI_eq, nI_lt0, nI_ge0, nI_gt0, nI_le0, nI_eq0] at c21
            refine r_inc1 (q := 29) dX3_areClear_26 rfl (Nat.le_of_ble_eq_true rfl) rfl rfl ?_
            show AW _ _ _ _ _ _ [some _, some _, some _] _ _
            refine r_goto (t := 10) dX3_areClear_29 rfl ?_
            exact ih (i - (j + 1)) (by omega) (j + 1) rfl (by omega) (lt_s' hf (decide_eq_true c21))
          · simp (disch := omega) only [nI_leI, nI_ltI, nI_eq, nI_lt0, nI_ge0, nI_gt0, nI_le0, nI_eq0] at c21
            refine r_iconst (v := nI 0) (q := 25) dX3_areClear_24 (by decide) rfl ?_
            refine r_zret dX3_areClear_25 rfl ?_
            rw [bI_f (show gClear L = false from all_f (by omega : i < 7) (all_f (by omega : j < i) (decide_eq_false c21)))] at hQ
            exact hQ
      exact loopj _ 0 rfl (by omega) (fun l hl => by omega)
  refine MS.of (by decide) (by simp [Value.category]) (Nat.le_of_ble_eq_true rfl) ?_
  show AW _ _ _ _ _ _ [some _, none, none] _ _
  refine r_iconst (v := nI 0) (q := 1) dX3_areClear_0 (by decide) rfl ?_
  refine r_istore_n (q := 2) dX3_areClear_1 (Nat.le_of_ble_eq_true rfl) rfl rfl ?_
  show AW _ _ _ _ _ _ [some _, some _, none] _ _
  exact loop _ 0 _ rfl (by omega) (fun l hl => by omega)

theorem gOwner_lt {L : List Nat} {w l : Nat} (h : gOwner L w = some l) : l < 7 := List.mem_range.mp (List.mem_of_find?_eq_some h)
theorem oI_eq {L : List Nat} {w j : Nat} (hj : j < 7) (h : oI (gOwner L w) = nI j) : gOwner L w = some j := by
  cases hg : gOwner L w with
  | none =>
    rw [hg] at h
    have h1 := congrArg Int32.toInt h
    rw [nI_toInt (by omega)] at h1
    have h2 : (oI none).toInt = -1 := by decide
    omega
  | some l =>
    rw [hg] at h
    have hl := gOwner_lt hg
    rw [(nI_eq (by omega) (by omega)).mp h]
theorem s_X3_areDistinct (hw : RW G Λ a b L M) (hQ : Q (some (.int (bI (gDist L)))) M) : MS G yX3_areDistinct cX3_areDistinct 2 (some .boolean) (d + 2) 0 0 [.ref (Λ (2, a, b))] M Q QX := by
  have hall := hw.2.2.1
  have loop : ∀ m j, m = 7 - j → j ≤ 7 → (∀ l, l < j → (decide (L.getD l 0 = 0) || decide (gOwner L (L.getD l 0) = some l)) = true) → AW G (wX G yX3_areDistinct cX3_areDistinct 2 (some .boolean) 0 0 Q QX) (d + 2) 0 0 2 [some (.ref (Λ (2, a, b))), some (.int (nI j))] [] M := by
    intro m
    induction m using Nat.strongRecOn with
    | _ m ih =>
    intro j hm hj hf
    subst hm
    refine r_iload_n (q := 3) dX3_areDistinct_2 rfl rfl ?_
    refine r_bipush (v := nI 7) (q := 5) dX3_areDistinct_3 (by decide) rfl ?_
    refine r_icmp_ge (t := 37) (q := 8) dX3_areDistinct_5 rfl rfl (fun c5 => ?_) (fun c5 => ?_)
    · simp (disch := omega) only [nI_leI, nI_ltI, nI_eq, nI_lt0, nI_ge0, nI_gt0, nI_le0, nI_eq0] at c5
      refine r_iconst (v := nI 1) (q := 38) dX3_areDistinct_37 (by decide) rfl ?_
      refine r_zret dX3_areDistinct_38 rfl ?_
      obtain rfl : j = 7 := by omega
      rw [bI_t (show gDist L = true from all_t hf)] at hQ
      exact hQ
    · simp (disch := omega) only [nI_leI, nI_ltI, nI_eq, nI_lt0, nI_ge0, nI_gt0, nI_le0, nI_eq0] at c5
      have hb1 : L.getD j 0 < 2 ^ 31 := getD_all (by omega) hall j
      refine r_aload_n (q := 9) dX3_areDistinct_8 rfl rfl ?_
      refine r_iload_n (q := 10) dX3_areDistinct_9 rfl rfl ?_
      refine r_invV (q := 13) (As := [.int _]) wc_X3_15 rfl im_X2_at se_X2_at hw.1 rfl rfl (Nat.le_of_ble_eq_true rfl) (Nat.le_of_eq (Nat.zero_add _)) (Nat.le_of_eq (Nat.zero_add _)) dX3_areDistinct_10 rfl rfl (s_X2_at hw ?_)
      rw [rAt_nI (by omega)]
      refine r_if_eq (t := 31) (q := 16) dX3_areDistinct_13 rfl rfl (fun c13 => ?_) (fun c13 => ?_)
      · simp (disch := omega) only [nI_leI, nI_ltI, nI_eq, nI_lt0, nI_ge0, nI_gt0, nI_le0, nI_eq0] at c13
        refine r_inc1 (q := 34) dX3_areDistinct_31 rfl (Nat.le_of_ble_eq_true rfl) rfl rfl ?_
        show AW _ _ _ _ _ _ [some _, some _] _ _
        refine r_goto (t := 2) dX3_areDistinct_34 rfl ?_
        first
          | exact ih (7 - (j + 1)) (by omega) (j + 1) rfl (by omega) (lt_s' hf (by rw [decide_eq_true c13]; rfl))
          | exact ih (7 - (j + 1)) (by omega) (j + 1) rfl (by omega) (lt_s' hf (by rw [decide_eq_true (oI_eq (by omega) c26), Bool.or_true]))
      · simp (disch := omega) only [nI_leI, nI_ltI, nI_eq, nI_lt0, nI_ge0, nI_gt0, nI_le0, nI_eq0] at c13
        refine r_aload_n (q := 17) dX3_areDistinct_16 rfl rfl ?_
        refine r_aload_n (q := 18) dX3_areDistinct_17 rfl rfl ?_
        refine r_iload_n (q := 19) dX3_areDistinct_18 rfl rfl ?_
        refine r_invV (q := 22) (As := [.int _]) wc_X3_15 rfl im_X2_at se_X2_at hw.1 rfl rfl (Nat.le_of_ble_eq_true rfl) (Nat.le_of_eq (Nat.zero_add _)) (Nat.le_of_eq (Nat.zero_add _)) dX3_areDistinct_19 rfl rfl (s_X2_at hw ?_)
        rw [rAt_nI (by omega)]
        refine r_invS (q := 25) (As := [.ref _, .int _]) wc_X3_34 st_X3_owner rfl (Nat.le_of_ble_eq_true rfl) (Nat.le_of_eq (Nat.zero_add _)) (Nat.le_of_eq (Nat.zero_add _)) dX3_areDistinct_22 rfl rfl (s_X3_owner hw (by omega) ?_)
        refine r_iload_n (q := 26) dX3_areDistinct_25 rfl rfl ?_
        refine r_icmp_eq (t := 31) (q := 29) dX3_areDistinct_26 rfl rfl (fun c26 => ?_) (fun c26 => ?_)
        · refine r_inc1 (q := 34) dX3_areDistinct_31 rfl (Nat.le_of_ble_eq_true rfl) rfl rfl ?_
          show AW _ _ _ _ _ _ [some _, some _] _ _
          refine r_goto (t := 2) dX3_areDistinct_34 rfl ?_
          first
            | exact ih (7 - (j + 1)) (by omega) (j + 1) rfl (by omega) (lt_s' hf (by rw [decide_eq_true c13]; rfl))
            | exact ih (7 - (j + 1)) (by omega) (j + 1) rfl (by omega) (lt_s' hf (by rw [decide_eq_true (oI_eq (by omega) c26), Bool.or_true]))
        · refine r_iconst (v := nI 0) (q := 30) dX3_areDistinct_29 (by decide) rfl ?_
          refine r_zret dX3_areDistinct_30 rfl ?_
          rw [bI_f (show gDist L = false from all_f (by omega : j < 7) (by rw [decide_eq_false c13, decide_eq_false (fun z => c26 (by rw [z]; rfl)), Bool.or_false]))] at hQ
          exact hQ
  refine MS.of (by decide) (by simp [Value.category]) (Nat.le_of_ble_eq_true rfl) ?_
  show AW _ _ _ _ _ _ [some _, none] _ _
  refine r_iconst (v := nI 0) (q := 1) dX3_areDistinct_0 (by decide) rfl ?_
  refine r_istore_n (q := 2) dX3_areDistinct_1 (Nat.le_of_ble_eq_true rfl) rfl rfl ?_
  show AW _ _ _ _ _ _ [some _, some _] _ _
  exact loop _ 0 rfl (by omega) (fun l hl => by omega)

theorem s_X3_isFree (hw : RW G Λ a b L M) (hwd : ∀ x ∈ L, x < 448) {w : Nat} (hww : w < 448) (hQ : Q (some (.int (bI (gFree L w)))) M) : MS G yX3_isFree cX3_isFree 4 (some .boolean) (d + 3) 0 0 [.ref (Λ (2, a, b)), .int (nI w)] M Q QX := by
  have loop : ∀ m j (z : Option Value), m = 7 - j → j ≤ 7 → (∀ l, l < j → (decide (L.getD l 0 = 0) || !(wBeg (L.getD l 0) w || wBeg w (L.getD l 0))) = true) → AW G (wX G yX3_isFree cX3_isFree 4 (some .boolean) 0 0 Q QX) (d + 3) 0 0 2 [some (.ref (Λ (2, a, b))), some (.int (nI w)), some (.int (nI j)), z] [] M := by
    intro m
    induction m using Nat.strongRecOn with
    | _ m ih =>
    intro j z hm hj hf
    subst hm
    refine r_iload_n (q := 3) dX3_isFree_2 rfl rfl ?_
    refine r_bipush (v := nI 7) (q := 5) dX3_isFree_3 (by decide) rfl ?_
    refine r_icmp_ge (t := 42) (q := 8) dX3_isFree_5 rfl rfl (fun c5 => ?_) (fun c5 => ?_)
    · simp (disch := omega) only [nI_leI, nI_ltI, nI_eq, nI_lt0, nI_ge0, nI_gt0, nI_le0, nI_eq0] at c5
      refine r_iconst (v := nI 1) (q := 43) dX3_isFree_42 (by decide) rfl ?_
      refine r_zret dX3_isFree_43 rfl ?_
      obtain rfl : j = 7 := by omega
      rw [bI_t (show gFree L w = true from all_t hf)] at hQ
      exact hQ
    · simp (disch := omega) only [nI_leI, nI_ltI, nI_eq, nI_lt0, nI_ge0, nI_gt0, nI_le0, nI_eq0] at c5
      have hgj : L.getD j 0 < 448 := getD_all (by omega) hwd j
      refine r_aload_n (q := 9) dX3_isFree_8 rfl rfl ?_
      refine r_iload_n (q := 10) dX3_isFree_9 rfl rfl ?_
      refine r_invV (q := 13) (As := [.int _]) wc_X3_15 rfl im_X2_at se_X2_at hw.1 rfl rfl (Nat.le_of_ble_eq_true rfl) (Nat.le_of_eq (Nat.zero_add _)) (Nat.le_of_eq (Nat.zero_add _)) dX3_isFree_10 rfl rfl (s_X2_at hw ?_)
      rw [rAt_nI (by omega)]
      refine r_istore_n (q := 14) dX3_isFree_13 (Nat.le_of_ble_eq_true rfl) rfl rfl ?_
      show AW _ _ _ _ _ _ [some _, some _, some _, some _] _ _
      refine r_iload_n (q := 15) dX3_isFree_14 rfl rfl ?_
      refine r_if_eq (t := 36) (q := 18) dX3_isFree_15 rfl rfl (fun c15 => ?_) (fun c15 => ?_)
      · simp (disch := omega) only [nI_leI, nI_ltI, nI_eq, nI_lt0, nI_ge0, nI_gt0, nI_le0, nI_eq0] at c15
        refine r_inc1 (q := 39) dX3_isFree_36 rfl (Nat.le_of_ble_eq_true rfl) rfl rfl ?_
        show AW _ _ _ _ _ _ [some _, some _, some _, some _] _ _
        refine r_goto (t := 2) dX3_isFree_39 rfl ?_
        first
          | exact ih (7 - (j + 1)) (by omega) (j + 1) _ rfl (by omega) (lt_s' hf (by rw [decide_eq_true c15]; rfl))
          | exact ih (7 - (j + 1)) (by omega) (j + 1) _ rfl (by omega) (lt_s' hf (by rw [bI_eq0.mp (Classical.not_not.mp c23), bI_eq0.mp c31]; simp))
          | exact ih (7 - (j + 1)) (by omega) (j + 1) _ rfl (by omega) (lt_s' hf (by rw [bI_eq0.mp c23, bI_eq0.mp c31]; simp))
      · simp (disch := omega) only [nI_leI, nI_ltI, nI_eq, nI_lt0, nI_ge0, nI_gt0, nI_le0, nI_eq0] at c15
        refine r_iload_n (q := 19) dX3_isFree_18 rfl rfl ?_
        refine r_iload_n (q := 20) dX3_isFree_19 rfl rfl ?_
        refine r_invS (q := 23) (As := [.int _, .int _]) wc_X3_24 st_X7_begins rfl (Nat.le_of_ble_eq_true rfl) (Nat.le_of_eq (Nat.zero_add _)) (Nat.le_of_eq (Nat.zero_add _)) dX3_isFree_20 rfl rfl (s_X7_begins (by omega) (by omega) (by omega) ?_)
        refine r_if_ne (t := 34) (q := 26) dX3_isFree_23 rfl rfl (fun c23 => ?_) (fun c23 => ?_)
        · refine r_iconst (v := nI 0) (q := 35) dX3_isFree_34 (by decide) rfl ?_
          refine r_zret dX3_isFree_35 rfl ?_
          first
            | (rw [bI_f (show gFree L w = false from all_f (by omega : j < 7) (by rw [decide_eq_false c15, (bI_ne c23)]; try rfl))] at hQ; exact hQ)
            | (rw [bI_f (show gFree L w = false from all_f (by omega : j < 7) (by rw [decide_eq_false c15, (bI_ne c31), Bool.or_true]; try rfl))] at hQ; exact hQ)
        · refine r_iload_n (q := 27) dX3_isFree_26 rfl rfl ?_
          refine r_iload_n (q := 28) dX3_isFree_27 rfl rfl ?_
          refine r_invS (q := 31) (As := [.int _, .int _]) wc_X3_24 st_X7_begins rfl (Nat.le_of_ble_eq_true rfl) (Nat.le_of_eq (Nat.zero_add _)) (Nat.le_of_eq (Nat.zero_add _)) dX3_isFree_28 rfl rfl (s_X7_begins (by omega) (by omega) (by omega) ?_)
          refine r_if_eq (t := 36) (q := 34) dX3_isFree_31 rfl rfl (fun c31 => ?_) (fun c31 => ?_)
          · refine r_inc1 (q := 39) dX3_isFree_36 rfl (Nat.le_of_ble_eq_true rfl) rfl rfl ?_
            show AW _ _ _ _ _ _ [some _, some _, some _, some _] _ _
            refine r_goto (t := 2) dX3_isFree_39 rfl ?_
            first
              | exact ih (7 - (j + 1)) (by omega) (j + 1) _ rfl (by omega) (lt_s' hf (by rw [decide_eq_true c15]; rfl))
              | exact ih (7 - (j + 1)) (by omega) (j + 1) _ rfl (by omega) (lt_s' hf (by rw [bI_eq0.mp (Classical.not_not.mp c23), bI_eq0.mp c31]; simp))
              | exact ih (7 - (j + 1)) (by omega) (j + 1) _ rfl (by omega) (lt_s' hf (by rw [bI_eq0.mp c23, bI_eq0.mp c31]; simp))
          · refine r_iconst (v := nI 0) (q := 35) dX3_isFree_34 (by decide) rfl ?_
            refine r_zret dX3_isFree_35 rfl ?_
            first
              | (rw [bI_f (show gFree L w = false from all_f (by omega : j < 7) (by rw [decide_eq_false c15, (bI_ne c23)]; try rfl))] at hQ; exact hQ)
              | (rw [bI_f (show gFree L w = false from all_f (by omega : j < 7) (by rw [decide_eq_false c15, (bI_ne c31), Bool.or_true]; try rfl))] at hQ; exact hQ)
  refine MS.of (by decide) (by simp [Value.category]) (Nat.le_of_ble_eq_true rfl) ?_
  show AW _ _ _ _ _ _ [some _, some _, none, none] _ _
  refine r_iconst (v := nI 0) (q := 1) dX3_isFree_0 (by decide) rfl ?_
  refine r_istore_n (q := 2) dX3_isFree_1 (Nat.le_of_ble_eq_true rfl) rfl rfl ?_
  show AW _ _ _ _ _ _ [some _, some _, some _, none] _ _
  exact loop _ 0 _ rfl (by omega) (fun l hl => by omega)

theorem s_X3_freeByWords (hw : RW G Λ a b L M) (hwd : ∀ x ∈ L, x < 448) {n : Nat} (hn : n ≤ 6) (hQ : Q (some (.int (nI (gFreeW L n)))) M) : MS G yX3_freeByWords cX3_freeByWords 5 (some .int) (d + 4) 0 0 [.ref (Λ (2, a, b)), .int (nI n)] M Q QX := by
  have hp : 2 ^ n ≤ 64 := Nat.pow_le_pow_right (by omega : 0 < 2) hn
  have loop : ∀ m j, m = 2 ^ n - j → j ≤ 2 ^ n → AW G (wX G yX3_freeByWords cX3_freeByWords 5 (some .int) 0 0 Q QX) (d + 4) 0 0 9 [some (.ref (Λ (2, a, b))), some (.int (nI n)), some (.int (nI ((List.range j).countP fun x => gFree L (n * 64 + x)))), some (.int (nI (2 ^ n))), some (.int (nI j))] [] M := by
    intro m
    induction m using Nat.strongRecOn with
    | _ m ih =>
    intro j hm hj
    subst hm
    refine r_iload (q := 11) dX3_freeByWords_9 rfl rfl ?_
    refine r_iload_n (q := 12) dX3_freeByWords_11 rfl rfl ?_
    refine r_icmp_ge (t := 37) (q := 15) dX3_freeByWords_12 rfl rfl (fun c12 => ?_) (fun c12 => ?_)
    · simp (disch := omega) only [nI_leI, nI_ltI, nI_eq, nI_lt0, nI_ge0, nI_gt0, nI_le0, nI_eq0] at c12
      refine r_iload_n (q := 38) dX3_freeByWords_37 rfl rfl ?_
      refine r_iret dX3_freeByWords_38 ?_
      obtain rfl : j = 2 ^ n := by omega
      exact hQ
    · simp (disch := omega) only [nI_leI, nI_ltI, nI_eq, nI_lt0, nI_ge0, nI_gt0, nI_le0, nI_eq0] at c12
      refine r_aload_n (q := 16) dX3_freeByWords_15 rfl rfl ?_
      refine r_iload_n (q := 17) dX3_freeByWords_16 rfl rfl ?_
      refine r_iload (q := 19) dX3_freeByWords_17 rfl rfl ?_
      refine r_invS (q := 22) (As := [.int _, .int _]) wc_X3_38 st_X7_of rfl (Nat.le_of_ble_eq_true rfl) (Nat.le_of_eq (Nat.zero_add _)) (Nat.le_of_eq (Nat.zero_add _)) dX3_freeByWords_19 rfl rfl (s_X7_of (by omega) (by omega) ?_)
      refine r_invS (q := 25) (As := [.ref _, .int _]) wc_X3_42 st_X3_isFree rfl (Nat.le_of_ble_eq_true rfl) (Nat.le_of_eq (Nat.zero_add _)) (Nat.le_of_eq (Nat.zero_add _)) dX3_freeByWords_22 rfl rfl (s_X3_isFree hw hwd (by omega) ?_)
      refine r_if_eq (t := 31) (q := 28) dX3_freeByWords_25 rfl rfl (fun c25 => ?_) (fun c25 => ?_)
      · have e := range_count_succ (fun x => gFree L (n * 64 + x)) j
        rw [bI_eq0.mp c25, if_neg (by decide)] at e
        replace e := e.trans (Nat.add_zero _)
        refine r_inc1 (q := 34) dX3_freeByWords_31 rfl (Nat.le_of_ble_eq_true rfl) rfl rfl ?_
        show AW _ _ _ _ _ _ [some _, some _, some _, some _, some _] _ _
        refine r_goto (t := 9) dX3_freeByWords_34 rfl ?_
        rw [← e]
        exact ih (2 ^ n - (j + 1)) (by omega) (j + 1) rfl (by omega)
      · have e := range_count_succ (fun x => gFree L (n * 64 + x)) j
        rw [(bI_ne c25), if_pos rfl] at e
        refine r_inc1 (q := 31) dX3_freeByWords_28 rfl (Nat.le_of_ble_eq_true rfl) rfl rfl ?_
        show AW _ _ _ _ _ _ [some _, some _, some _, some _, some _] _ _
        refine r_inc1 (q := 34) dX3_freeByWords_31 rfl (Nat.le_of_ble_eq_true rfl) rfl rfl ?_
        show AW _ _ _ _ _ _ [some _, some _, some _, some _, some _] _ _
        refine r_goto (t := 9) dX3_freeByWords_34 rfl ?_
        rw [← e]
        exact ih (2 ^ n - (j + 1)) (by omega) (j + 1) rfl (by omega)
  refine MS.of (by decide) (by simp [Value.category]) (Nat.le_of_ble_eq_true rfl) ?_
  show AW _ _ _ _ _ _ [some _, some _, none, none, none] _ _
  refine r_iconst (v := nI 0) (q := 1) dX3_freeByWords_0 (by decide) rfl ?_
  refine r_istore_n (q := 2) dX3_freeByWords_1 (Nat.le_of_ble_eq_true rfl) rfl rfl ?_
  show AW _ _ _ _ _ _ [some _, some _, some _, none, none] _ _
  refine r_iconst (v := nI 1) (q := 3) dX3_freeByWords_2 (by decide) rfl ?_
  refine r_iload_n (q := 4) dX3_freeByWords_3 rfl rfl ?_
  refine r_ishl (q := 5) dX3_freeByWords_4 rfl ?_
  rw [n_shl (by omega) (by omega), Nat.one_mul]
  refine r_istore_n (q := 6) dX3_freeByWords_5 (Nat.le_of_ble_eq_true rfl) rfl rfl ?_
  show AW _ _ _ _ _ _ [some _, some _, some _, some _, none] _ _
  refine r_iconst (v := nI 0) (q := 7) dX3_freeByWords_6 (by decide) rfl ?_
  refine r_istore (q := 9) dX3_freeByWords_7 (Nat.le_of_ble_eq_true rfl) rfl rfl ?_
  show AW _ _ _ _ _ _ [some _, some _, some _, some _, some _] _ _
  exact loop _ 0 rfl (Nat.zero_le _)

theorem s_X3_isBarredByAnother (hw : RW G Λ a b L M) (hwd : ∀ x ∈ L, x < 448) {line n : Nat} (hl : line < 7) (hn : n ≤ 6) (hQ : Q (some (.int (bI (gBar L line n)))) M) : MS G yX3_isBarredByAnother cX3_isBarredByAnother 7 (some .boolean) (d + 3) 0 0 [.ref (Λ (2, a, b)), .int (nI line), .int (nI n)] M Q QX := by
  have hgl : L.getD line 0 < 448 := getD_all (by omega) hwd line
  have hcl := wCut_lt (m := n) (getD_all (by omega) hwd line : L.getD line 0 < 448) hn
  have loop : ∀ m j (z z2 : Option Value), m = 7 - j → j ≤ 7 → (∀ l, l < j → (decide (wCut (L.getD l 0) n ≠ 0) && (decide (wCut (L.getD l 0) n ≠ wCut (L.getD line 0) n) || decide (l < line)) && wBeg (wCut (L.getD l 0) n) (wCut (L.getD line 0) n)) = false) → AW G (wX G yX3_isBarredByAnother cX3_isBarredByAnother 7 (some .boolean) 0 0 Q QX) (d + 3) 0 0 13 [some (.ref (Λ (2, a, b))), some (.int (nI line)), some (.int (nI n)), some (.int (nI (wCut (L.getD line 0) n))), some (.int (nI j)), z, z2] [] M := by
    intro m
    induction m using Nat.strongRecOn with
    | _ m ih =>
    intro j z z2 hm hj hf
    subst hm
    refine r_iload (q := 15) dX3_isBarredByAnother_13 rfl rfl ?_
    refine r_bipush (v := nI 7) (q := 17) dX3_isBarredByAnother_15 (by decide) rfl ?_
    refine r_icmp_ge (t := 78) (q := 20) dX3_isBarredByAnother_17 rfl rfl (fun c17 => ?_) (fun c17 => ?_)
    · simp (disch := omega) only [nI_leI, nI_ltI, nI_eq, nI_lt0, nI_ge0, nI_gt0, nI_le0, nI_eq0] at c17
      refine r_iconst (v := nI 0) (q := 79) dX3_isBarredByAnother_78 (by decide) rfl ?_
      refine r_zret dX3_isBarredByAnother_79 rfl ?_
      obtain rfl : j = 7 := by omega
      rw [bI_f (show gBar L line n = false from any_f hf)] at hQ
      exact hQ
    · simp (disch := omega) only [nI_leI, nI_ltI, nI_eq, nI_lt0, nI_ge0, nI_gt0, nI_le0, nI_eq0] at c17
      have hgj : L.getD j 0 < 448 := getD_all (by omega) hwd j
      have hcj := wCut_lt (m := n) (getD_all (by omega) hwd j : L.getD j 0 < 448) hn
      refine r_aload_n (q := 21) dX3_isBarredByAnother_20 rfl rfl ?_
      refine r_iload (q := 23) dX3_isBarredByAnother_21 rfl rfl ?_
      refine r_invV (q := 26) (As := [.int _]) wc_X3_15 rfl im_X2_at se_X2_at hw.1 rfl rfl (Nat.le_of_ble_eq_true rfl) (Nat.le_of_eq (Nat.zero_add _)) (Nat.le_of_eq (Nat.zero_add _)) dX3_isBarredByAnother_23 rfl rfl (s_X2_at hw ?_)
      rw [rAt_nI (by omega)]
      refine r_iload_n (q := 27) dX3_isBarredByAnother_26 rfl rfl ?_
      refine r_invS (q := 30) (As := [.int _, .int _]) wc_X3_46 st_X7_cut rfl (Nat.le_of_ble_eq_true rfl) (Nat.le_of_eq (Nat.zero_add _)) (Nat.le_of_eq (Nat.zero_add _)) dX3_isBarredByAnother_27 rfl rfl (s_X7_cut (by omega) (by omega) ?_)
      refine r_istore (q := 32) dX3_isBarredByAnother_30 (Nat.le_of_ble_eq_true rfl) rfl rfl ?_
      show AW _ _ _ _ _ _ [some _, some _, some _, some _, some _, some _, _] _ _
      refine r_iload (q := 34) dX3_isBarredByAnother_32 rfl rfl ?_
      refine r_iload_n (q := 35) dX3_isBarredByAnother_34 rfl rfl ?_
      refine r_icmp_ne (t := 44) (q := 38) dX3_isBarredByAnother_35 rfl rfl (fun c35 => ?_) (fun c35 => ?_)
      · simp (disch := omega) only [nI_leI, nI_ltI, nI_eq, nI_lt0, nI_ge0, nI_gt0, nI_le0, nI_eq0] at c35
        refine r_iconst (v := nI 1) (q := 45) dX3_isBarredByAnother_44 (by decide) rfl ?_
        refine r_goto (t := 49) dX3_isBarredByAnother_45 rfl ?_
        refine r_istore (q := 51) dX3_isBarredByAnother_49 (Nat.le_of_ble_eq_true rfl) rfl rfl ?_
        show AW _ _ _ _ _ _ [some _, some _, some _, some _, some _, some _, some _] _ _
        refine r_iload (q := 53) dX3_isBarredByAnother_51 rfl rfl ?_
        refine r_if_eq (t := 72) (q := 56) dX3_isBarredByAnother_53 rfl rfl (fun c53 => ?_) (fun c53 => ?_)
        · simp (disch := omega) only [nI_leI, nI_ltI, nI_eq, nI_lt0, nI_ge0, nI_gt0, nI_le0, nI_eq0] at c53
          refine r_inc1 (q := 75) dX3_isBarredByAnother_72 rfl (Nat.le_of_ble_eq_true rfl) rfl rfl ?_
          show AW _ _ _ _ _ _ [some _, some _, some _, some _, some _, some _, some _] _ _
          refine r_goto (t := 13) dX3_isBarredByAnother_75 rfl ?_
          first
            | exact absurd c58 (by decide)
            | exact ih (7 - (j + 1)) (by omega) (j + 1) _ _ rfl (by omega) (lt_s' hf (by rw [decide_eq_false (Classical.not_not.mpr c53)]; rfl))
            | exact ih (7 - (j + 1)) (by omega) (j + 1) _ _ rfl (by omega) (lt_s' hf (by rw [bI_eq0.mp c67, Bool.and_false]))
            | exact ih (7 - (j + 1)) (by omega) (j + 1) _ _ rfl (by omega) (lt_s' hf (by rw [decide_eq_false (fun z => z c35 : ¬ wCut (L.getD j 0) n ≠ wCut (L.getD line 0) n), decide_eq_false (by omega : ¬ j < line), Bool.or_false, Bool.and_false, Bool.false_and]))
        · simp (disch := omega) only [nI_leI, nI_ltI, nI_eq, nI_lt0, nI_ge0, nI_gt0, nI_le0, nI_eq0] at c53
          refine r_iload (q := 58) dX3_isBarredByAnother_56 rfl rfl ?_
          refine r_if_eq (t := 72) (q := 61) dX3_isBarredByAnother_58 rfl rfl (fun c58 => ?_) (fun c58 => ?_)
          · refine r_inc1 (q := 75) dX3_isBarredByAnother_72 rfl (Nat.le_of_ble_eq_true rfl) rfl rfl ?_
            show AW _ _ _ _ _ _ [some _, some _, some _, some _, some _, some _, some _] _ _
            refine r_goto (t := 13) dX3_isBarredByAnother_75 rfl ?_
            first
              | exact absurd c58 (by decide)
              | exact ih (7 - (j + 1)) (by omega) (j + 1) _ _ rfl (by omega) (lt_s' hf (by rw [decide_eq_false (Classical.not_not.mpr c53)]; rfl))
              | exact ih (7 - (j + 1)) (by omega) (j + 1) _ _ rfl (by omega) (lt_s' hf (by rw [bI_eq0.mp c67, Bool.and_false]))
              | exact ih (7 - (j + 1)) (by omega) (j + 1) _ _ rfl (by omega) (lt_s' hf (by rw [decide_eq_false (fun z => z c35 : ¬ wCut (L.getD j 0) n ≠ wCut (L.getD line 0) n), decide_eq_false (by omega : ¬ j < line), Bool.or_false, Bool.and_false, Bool.false_and]))
          · refine r_iload (q := 63) dX3_isBarredByAnother_61 rfl rfl ?_
            refine r_iload_n (q := 64) dX3_isBarredByAnother_63 rfl rfl ?_
            refine r_invS (q := 67) (As := [.int _, .int _]) wc_X3_24 st_X7_begins rfl (Nat.le_of_ble_eq_true rfl) (Nat.le_of_eq (Nat.zero_add _)) (Nat.le_of_eq (Nat.zero_add _)) dX3_isBarredByAnother_64 rfl rfl (s_X7_begins (by omega) (by omega) (by omega) ?_)
            refine r_if_eq (t := 72) (q := 70) dX3_isBarredByAnother_67 rfl rfl (fun c67 => ?_) (fun c67 => ?_)
            · refine r_inc1 (q := 75) dX3_isBarredByAnother_72 rfl (Nat.le_of_ble_eq_true rfl) rfl rfl ?_
              show AW _ _ _ _ _ _ [some _, some _, some _, some _, some _, some _, some _] _ _
              refine r_goto (t := 13) dX3_isBarredByAnother_75 rfl ?_
              first
                | exact absurd c58 (by decide)
                | exact ih (7 - (j + 1)) (by omega) (j + 1) _ _ rfl (by omega) (lt_s' hf (by rw [decide_eq_false (Classical.not_not.mpr c53)]; rfl))
                | exact ih (7 - (j + 1)) (by omega) (j + 1) _ _ rfl (by omega) (lt_s' hf (by rw [bI_eq0.mp c67, Bool.and_false]))
                | exact ih (7 - (j + 1)) (by omega) (j + 1) _ _ rfl (by omega) (lt_s' hf (by rw [decide_eq_false (fun z => z c35 : ¬ wCut (L.getD j 0) n ≠ wCut (L.getD line 0) n), decide_eq_false (by omega : ¬ j < line), Bool.or_false, Bool.and_false, Bool.false_and]))
            · refine r_iconst (v := nI 1) (q := 71) dX3_isBarredByAnother_70 (by decide) rfl ?_
              refine r_zret dX3_isBarredByAnother_71 rfl ?_
              first
                | exact absurd c58 (by decide)
                | (rw [bI_t (show gBar L line n = true from any_t (by omega : j < 7) (by rw [decide_eq_true c53, (bI_ne c67), decide_eq_true (c35 : wCut (L.getD j 0) n ≠ wCut (L.getD line 0) n)]; try rfl))] at hQ; exact hQ)
                | (rw [bI_t (show gBar L line n = true from any_t (by omega : j < 7) (by rw [decide_eq_true c53, (bI_ne c67), decide_eq_true (by omega : j < line), Bool.or_true]; try rfl))] at hQ; exact hQ)
      · simp (disch := omega) only [nI_leI, nI_ltI, nI_eq, nI_lt0, nI_ge0, nI_gt0, nI_le0, nI_eq0] at c35
        refine r_iload (q := 40) dX3_isBarredByAnother_38 rfl rfl ?_
        refine r_iload_n (q := 41) dX3_isBarredByAnother_40 rfl rfl ?_
        refine r_icmp_ge (t := 48) (q := 44) dX3_isBarredByAnother_41 rfl rfl (fun c41 => ?_) (fun c41 => ?_)
        · simp (disch := omega) only [nI_leI, nI_ltI, nI_eq, nI_lt0, nI_ge0, nI_gt0, nI_le0, nI_eq0] at c41
          refine r_iconst (v := nI 0) (q := 49) dX3_isBarredByAnother_48 (by decide) rfl ?_
          refine r_istore (q := 51) dX3_isBarredByAnother_49 (Nat.le_of_ble_eq_true rfl) rfl rfl ?_
          show AW _ _ _ _ _ _ [some _, some _, some _, some _, some _, some _, some _] _ _
          refine r_iload (q := 53) dX3_isBarredByAnother_51 rfl rfl ?_
          refine r_if_eq (t := 72) (q := 56) dX3_isBarredByAnother_53 rfl rfl (fun c53 => ?_) (fun c53 => ?_)
          · simp (disch := omega) only [nI_leI, nI_ltI, nI_eq, nI_lt0, nI_ge0, nI_gt0, nI_le0, nI_eq0] at c53
            refine r_inc1 (q := 75) dX3_isBarredByAnother_72 rfl (Nat.le_of_ble_eq_true rfl) rfl rfl ?_
            show AW _ _ _ _ _ _ [some _, some _, some _, some _, some _, some _, some _] _ _
            refine r_goto (t := 13) dX3_isBarredByAnother_75 rfl ?_
            first
              | exact absurd c58 (by decide)
              | exact ih (7 - (j + 1)) (by omega) (j + 1) _ _ rfl (by omega) (lt_s' hf (by rw [decide_eq_false (Classical.not_not.mpr c53)]; rfl))
              | exact ih (7 - (j + 1)) (by omega) (j + 1) _ _ rfl (by omega) (lt_s' hf (by rw [bI_eq0.mp c67, Bool.and_false]))
              | exact ih (7 - (j + 1)) (by omega) (j + 1) _ _ rfl (by omega) (lt_s' hf (by rw [decide_eq_false (fun z => z c35 : ¬ wCut (L.getD j 0) n ≠ wCut (L.getD line 0) n), decide_eq_false (by omega : ¬ j < line), Bool.or_false, Bool.and_false, Bool.false_and]))
          · simp (disch := omega) only [nI_leI, nI_ltI, nI_eq, nI_lt0, nI_ge0, nI_gt0, nI_le0, nI_eq0] at c53
            refine r_iload (q := 58) dX3_isBarredByAnother_56 rfl rfl ?_
            refine r_if_eq (t := 72) (q := 61) dX3_isBarredByAnother_58 rfl rfl (fun c58 => ?_) (fun c58 => ?_)
            · refine r_inc1 (q := 75) dX3_isBarredByAnother_72 rfl (Nat.le_of_ble_eq_true rfl) rfl rfl ?_
              show AW _ _ _ _ _ _ [some _, some _, some _, some _, some _, some _, some _] _ _
              refine r_goto (t := 13) dX3_isBarredByAnother_75 rfl ?_
              first
                | exact absurd c58 (by decide)
                | exact ih (7 - (j + 1)) (by omega) (j + 1) _ _ rfl (by omega) (lt_s' hf (by rw [decide_eq_false (Classical.not_not.mpr c53)]; rfl))
                | exact ih (7 - (j + 1)) (by omega) (j + 1) _ _ rfl (by omega) (lt_s' hf (by rw [bI_eq0.mp c67, Bool.and_false]))
                | exact ih (7 - (j + 1)) (by omega) (j + 1) _ _ rfl (by omega) (lt_s' hf (by rw [decide_eq_false (fun z => z c35 : ¬ wCut (L.getD j 0) n ≠ wCut (L.getD line 0) n), decide_eq_false (by omega : ¬ j < line), Bool.or_false, Bool.and_false, Bool.false_and]))
            · refine r_iload (q := 63) dX3_isBarredByAnother_61 rfl rfl ?_
              refine r_iload_n (q := 64) dX3_isBarredByAnother_63 rfl rfl ?_
              refine r_invS (q := 67) (As := [.int _, .int _]) wc_X3_24 st_X7_begins rfl (Nat.le_of_ble_eq_true rfl) (Nat.le_of_eq (Nat.zero_add _)) (Nat.le_of_eq (Nat.zero_add _)) dX3_isBarredByAnother_64 rfl rfl (s_X7_begins (by omega) (by omega) (by omega) ?_)
              refine r_if_eq (t := 72) (q := 70) dX3_isBarredByAnother_67 rfl rfl (fun c67 => ?_) (fun c67 => ?_)
              · refine r_inc1 (q := 75) dX3_isBarredByAnother_72 rfl (Nat.le_of_ble_eq_true rfl) rfl rfl ?_
                show AW _ _ _ _ _ _ [some _, some _, some _, some _, some _, some _, some _] _ _
                refine r_goto (t := 13) dX3_isBarredByAnother_75 rfl ?_
                first
                  | exact absurd c58 (by decide)
                  | exact ih (7 - (j + 1)) (by omega) (j + 1) _ _ rfl (by omega) (lt_s' hf (by rw [decide_eq_false (Classical.not_not.mpr c53)]; rfl))
                  | exact ih (7 - (j + 1)) (by omega) (j + 1) _ _ rfl (by omega) (lt_s' hf (by rw [bI_eq0.mp c67, Bool.and_false]))
                  | exact ih (7 - (j + 1)) (by omega) (j + 1) _ _ rfl (by omega) (lt_s' hf (by rw [decide_eq_false (fun z => z c35 : ¬ wCut (L.getD j 0) n ≠ wCut (L.getD line 0) n), decide_eq_false (by omega : ¬ j < line), Bool.or_false, Bool.and_false, Bool.false_and]))
              · refine r_iconst (v := nI 1) (q := 71) dX3_isBarredByAnother_70 (by decide) rfl ?_
                refine r_zret dX3_isBarredByAnother_71 rfl ?_
                first
                  | exact absurd c58 (by decide)
                  | (rw [bI_t (show gBar L line n = true from any_t (by omega : j < 7) (by rw [decide_eq_true c53, (bI_ne c67), decide_eq_true (c35 : wCut (L.getD j 0) n ≠ wCut (L.getD line 0) n)]; try rfl))] at hQ; exact hQ)
                  | (rw [bI_t (show gBar L line n = true from any_t (by omega : j < 7) (by rw [decide_eq_true c53, (bI_ne c67), decide_eq_true (by omega : j < line), Bool.or_true]; try rfl))] at hQ; exact hQ)
        · simp (disch := omega) only [nI_leI, nI_ltI, nI_eq, nI_lt0, nI_ge0, nI_gt0, nI_le0, nI_eq0] at c41
          refine r_iconst (v := nI 1) (q := 45) dX3_isBarredByAnother_44 (by decide) rfl ?_
          refine r_goto (t := 49) dX3_isBarredByAnother_45 rfl ?_
          refine r_istore (q := 51) dX3_isBarredByAnother_49 (Nat.le_of_ble_eq_true rfl) rfl rfl ?_
          show AW _ _ _ _ _ _ [some _, some _, some _, some _, some _, some _, some _] _ _
          refine r_iload (q := 53) dX3_isBarredByAnother_51 rfl rfl ?_
          refine r_if_eq (t := 72) (q := 56) dX3_isBarredByAnother_53 rfl rfl (fun c53 => ?_) (fun c53 => ?_)
          · simp (disch := omega) only [nI_leI, nI_ltI, nI_eq, nI_lt0, nI_ge0, nI_gt0, nI_le0, nI_eq0] at c53
            refine r_inc1 (q := 75) dX3_isBarredByAnother_72 rfl (Nat.le_of_ble_eq_true rfl) rfl rfl ?_
            show AW _ _ _ _ _ _ [some _, some _, some _, some _, some _, some _, some _] _ _
            refine r_goto (t := 13) dX3_isBarredByAnother_75 rfl ?_
            first
              | exact absurd c58 (by decide)
              | exact ih (7 - (j + 1)) (by omega) (j + 1) _ _ rfl (by omega) (lt_s' hf (by rw [decide_eq_false (Classical.not_not.mpr c53)]; rfl))
              | exact ih (7 - (j + 1)) (by omega) (j + 1) _ _ rfl (by omega) (lt_s' hf (by rw [bI_eq0.mp c67, Bool.and_false]))
              | exact ih (7 - (j + 1)) (by omega) (j + 1) _ _ rfl (by omega) (lt_s' hf (by rw [decide_eq_false (fun z => z c35 : ¬ wCut (L.getD j 0) n ≠ wCut (L.getD line 0) n), decide_eq_false (by omega : ¬ j < line), Bool.or_false, Bool.and_false, Bool.false_and]))
          · simp (disch := omega) only [nI_leI, nI_ltI, nI_eq, nI_lt0, nI_ge0, nI_gt0, nI_le0, nI_eq0] at c53
            refine r_iload (q := 58) dX3_isBarredByAnother_56 rfl rfl ?_
            refine r_if_eq (t := 72) (q := 61) dX3_isBarredByAnother_58 rfl rfl (fun c58 => ?_) (fun c58 => ?_)
            · refine r_inc1 (q := 75) dX3_isBarredByAnother_72 rfl (Nat.le_of_ble_eq_true rfl) rfl rfl ?_
              show AW _ _ _ _ _ _ [some _, some _, some _, some _, some _, some _, some _] _ _
              refine r_goto (t := 13) dX3_isBarredByAnother_75 rfl ?_
              first
                | exact absurd c58 (by decide)
                | exact ih (7 - (j + 1)) (by omega) (j + 1) _ _ rfl (by omega) (lt_s' hf (by rw [decide_eq_false (Classical.not_not.mpr c53)]; rfl))
                | exact ih (7 - (j + 1)) (by omega) (j + 1) _ _ rfl (by omega) (lt_s' hf (by rw [bI_eq0.mp c67, Bool.and_false]))
                | exact ih (7 - (j + 1)) (by omega) (j + 1) _ _ rfl (by omega) (lt_s' hf (by rw [decide_eq_false (fun z => z c35 : ¬ wCut (L.getD j 0) n ≠ wCut (L.getD line 0) n), decide_eq_false (by omega : ¬ j < line), Bool.or_false, Bool.and_false, Bool.false_and]))
            · refine r_iload (q := 63) dX3_isBarredByAnother_61 rfl rfl ?_
              refine r_iload_n (q := 64) dX3_isBarredByAnother_63 rfl rfl ?_
              refine r_invS (q := 67) (As := [.int _, .int _]) wc_X3_24 st_X7_begins rfl (Nat.le_of_ble_eq_true rfl) (Nat.le_of_eq (Nat.zero_add _)) (Nat.le_of_eq (Nat.zero_add _)) dX3_isBarredByAnother_64 rfl rfl (s_X7_begins (by omega) (by omega) (by omega) ?_)
              refine r_if_eq (t := 72) (q := 70) dX3_isBarredByAnother_67 rfl rfl (fun c67 => ?_) (fun c67 => ?_)
              · refine r_inc1 (q := 75) dX3_isBarredByAnother_72 rfl (Nat.le_of_ble_eq_true rfl) rfl rfl ?_
                show AW _ _ _ _ _ _ [some _, some _, some _, some _, some _, some _, some _] _ _
                refine r_goto (t := 13) dX3_isBarredByAnother_75 rfl ?_
                first
                  | exact absurd c58 (by decide)
                  | exact ih (7 - (j + 1)) (by omega) (j + 1) _ _ rfl (by omega) (lt_s' hf (by rw [decide_eq_false (Classical.not_not.mpr c53)]; rfl))
                  | exact ih (7 - (j + 1)) (by omega) (j + 1) _ _ rfl (by omega) (lt_s' hf (by rw [bI_eq0.mp c67, Bool.and_false]))
                  | exact ih (7 - (j + 1)) (by omega) (j + 1) _ _ rfl (by omega) (lt_s' hf (by rw [decide_eq_false (fun z => z c35 : ¬ wCut (L.getD j 0) n ≠ wCut (L.getD line 0) n), decide_eq_false (by omega : ¬ j < line), Bool.or_false, Bool.and_false, Bool.false_and]))
              · refine r_iconst (v := nI 1) (q := 71) dX3_isBarredByAnother_70 (by decide) rfl ?_
                refine r_zret dX3_isBarredByAnother_71 rfl ?_
                first
                  | exact absurd c58 (by decide)
                  | (rw [bI_t (show gBar L line n = true from any_t (by omega : j < 7) (by rw [decide_eq_true c53, (bI_ne c67), decide_eq_true (c35 : wCut (L.getD j 0) n ≠ wCut (L.getD line 0) n)]; try rfl))] at hQ; exact hQ)
                  | (rw [bI_t (show gBar L line n = true from any_t (by omega : j < 7) (by rw [decide_eq_true c53, (bI_ne c67), decide_eq_true (by omega : j < line), Bool.or_true]; try rfl))] at hQ; exact hQ)
  refine MS.of (by decide) (by simp [Value.category]) (Nat.le_of_ble_eq_true rfl) ?_
  show AW _ _ _ _ _ _ [some _, some _, some _, none, none, none, none] _ _
  refine r_aload_n (q := 1) dX3_isBarredByAnother_0 rfl rfl ?_
  refine r_iload_n (q := 2) dX3_isBarredByAnother_1 rfl rfl ?_
  refine r_invV (q := 5) (As := [.int _]) wc_X3_15 rfl im_X2_at se_X2_at hw.1 rfl rfl (Nat.le_of_ble_eq_true rfl) (Nat.le_of_eq (Nat.zero_add _)) (Nat.le_of_eq (Nat.zero_add _)) dX3_isBarredByAnother_2 rfl rfl (s_X2_at hw ?_)
  rw [rAt_nI (by omega)]
  refine r_iload_n (q := 6) dX3_isBarredByAnother_5 rfl rfl ?_
  refine r_invS (q := 9) (As := [.int _, .int _]) wc_X3_46 st_X7_cut rfl (Nat.le_of_ble_eq_true rfl) (Nat.le_of_eq (Nat.zero_add _)) (Nat.le_of_eq (Nat.zero_add _)) dX3_isBarredByAnother_6 rfl rfl (s_X7_cut (by omega) (by omega) ?_)
  refine r_istore_n (q := 10) dX3_isBarredByAnother_9 (Nat.le_of_ble_eq_true rfl) rfl rfl ?_
  show AW _ _ _ _ _ _ [some _, some _, some _, some _, none, none, none] _ _
  refine r_iconst (v := nI 0) (q := 11) dX3_isBarredByAnother_10 (by decide) rfl ?_
  refine r_istore (q := 13) dX3_isBarredByAnother_11 (Nat.le_of_ble_eq_true rfl) rfl rfl ?_
  show AW _ _ _ _ _ _ [some _, some _, some _, some _, some _, none, none] _ _
  exact loop _ 0 _ _ rfl (by omega) (fun l hl => by omega)

theorem sub_sub_nI (x : Int32) (a b : Nat) : x - nI a - nI b = x - nI (a + b) := by
  rw [← nI_add, Int32.sub_eq_add_neg, Int32.sub_eq_add_neg, Int32.sub_eq_add_neg, Int32.neg_add, Int32.add_assoc]
  try rw [← Int32.sub_eq_add_neg]
theorem s_X3_freeByBars (hw : RW G Λ a b L M) (hwd : ∀ x ∈ L, x < 448) {n : Nat} (hn : n ≤ 6) (hQ : Q (some (.int (nI (2 ^ n) - nI (gBars L n 7)))) M) : MS G yX3_freeByBars cX3_freeByBars 5 (some .int) (d + 4) 0 0 [.ref (Λ (2, a, b)), .int (nI n)] M Q QX := by
  have loop : ∀ m j (z : Option Value), m = 7 - j → j ≤ 7 → AW G (wX G yX3_freeByBars cX3_freeByBars 5 (some .int) 0 0 Q QX) (d + 4) 0 0 6 [some (.ref (Λ (2, a, b))), some (.int (nI n)), some (.int (nI (2 ^ n) - nI (gBars L n j))), some (.int (nI j)), z] [] M := by
    intro m
    induction m using Nat.strongRecOn with
    | _ m ih =>
    intro j z hm hj
    subst hm
    refine r_iload_n (q := 7) dX3_freeByBars_6 rfl rfl ?_
    refine r_bipush (v := nI 7) (q := 9) dX3_freeByBars_7 (by decide) rfl ?_
    refine r_icmp_ge (t := 55) (q := 12) dX3_freeByBars_9 rfl rfl (fun c9 => ?_) (fun c9 => ?_)
    · simp (disch := omega) only [nI_leI, nI_ltI, nI_eq, nI_lt0, nI_ge0, nI_gt0, nI_le0, nI_eq0] at c9
      refine r_iload_n (q := 56) dX3_freeByBars_55 rfl rfl ?_
      refine r_iret dX3_freeByBars_56 ?_
      obtain rfl : j = 7 := by omega
      exact hQ
    · simp (disch := omega) only [nI_leI, nI_ltI, nI_eq, nI_lt0, nI_ge0, nI_gt0, nI_le0, nI_eq0] at c9
      have hgj : L.getD j 0 < 448 := getD_all (by omega) hwd j
      have hcj := wCut_lt (m := n) (getD_all (by omega) hwd j : L.getD j 0 < 448) hn
      refine r_aload_n (q := 13) dX3_freeByBars_12 rfl rfl ?_
      refine r_iload_n (q := 14) dX3_freeByBars_13 rfl rfl ?_
      refine r_invV (q := 17) (As := [.int _]) wc_X3_15 rfl im_X2_at se_X2_at hw.1 rfl rfl (Nat.le_of_ble_eq_true rfl) (Nat.le_of_eq (Nat.zero_add _)) (Nat.le_of_eq (Nat.zero_add _)) dX3_freeByBars_14 rfl rfl (s_X2_at hw ?_)
      rw [rAt_nI (by omega)]
      refine r_iload_n (q := 18) dX3_freeByBars_17 rfl rfl ?_
      refine r_invS (q := 21) (As := [.int _, .int _]) wc_X3_46 st_X7_cut rfl (Nat.le_of_ble_eq_true rfl) (Nat.le_of_eq (Nat.zero_add _)) (Nat.le_of_eq (Nat.zero_add _)) dX3_freeByBars_18 rfl rfl (s_X7_cut (by omega) (by omega) ?_)
      refine r_istore (q := 23) dX3_freeByBars_21 (Nat.le_of_ble_eq_true rfl) rfl rfl ?_
      show AW _ _ _ _ _ _ [some _, some _, some _, some _, some _] _ _
      refine r_iload (q := 25) dX3_freeByBars_23 rfl rfl ?_
      refine r_if_eq (t := 49) (q := 28) dX3_freeByBars_25 rfl rfl (fun c25 => ?_) (fun c25 => ?_)
      · simp (disch := omega) only [nI_leI, nI_ltI, nI_eq, nI_lt0, nI_ge0, nI_gt0, nI_le0, nI_eq0] at c25
        rw [← gBars_no (fun z => z.1 c25)]
        refine r_inc1 (q := 52) dX3_freeByBars_49 rfl (Nat.le_of_ble_eq_true rfl) rfl rfl ?_
        show AW _ _ _ _ _ _ [some _, some _, some _, some _, some _] _ _
        refine r_goto (t := 6) dX3_freeByBars_52 rfl ?_
        exact ih (7 - (j + 1)) (by omega) (j + 1) _ rfl (by omega)
      · simp (disch := omega) only [nI_leI, nI_ltI, nI_eq, nI_lt0, nI_ge0, nI_gt0, nI_le0, nI_eq0] at c25
        refine r_aload_n (q := 29) dX3_freeByBars_28 rfl rfl ?_
        refine r_iload_n (q := 30) dX3_freeByBars_29 rfl rfl ?_
        refine r_iload_n (q := 31) dX3_freeByBars_30 rfl rfl ?_
        refine r_invS (q := 34) (As := [.ref _, .int _, .int _]) wc_X3_49 st_X3_isBarredByAnother rfl (Nat.le_of_ble_eq_true rfl) (Nat.le_of_eq (Nat.zero_add _)) (Nat.le_of_eq (Nat.zero_add _)) dX3_freeByBars_31 rfl rfl (s_X3_isBarredByAnother hw hwd (by omega) (by omega) ?_)
        refine r_if_ne (t := 49) (q := 37) dX3_freeByBars_34 rfl rfl (fun c34 => ?_) (fun c34 => ?_)
        · rw [← gBars_no (fun z => c34 (bI_eq0.mpr z.2))]
          refine r_inc1 (q := 52) dX3_freeByBars_49 rfl (Nat.le_of_ble_eq_true rfl) rfl rfl ?_
          show AW _ _ _ _ _ _ [some _, some _, some _, some _, some _] _ _
          refine r_goto (t := 6) dX3_freeByBars_52 rfl ?_
          exact ih (7 - (j + 1)) (by omega) (j + 1) _ rfl (by omega)
        · refine r_iload_n (q := 38) dX3_freeByBars_37 rfl rfl ?_
          refine r_iconst (v := nI 1) (q := 39) dX3_freeByBars_38 (by decide) rfl ?_
          refine r_iload_n (q := 40) dX3_freeByBars_39 rfl rfl ?_
          refine r_iload (q := 42) dX3_freeByBars_40 rfl rfl ?_
          refine r_invS (q := 45) (As := [.int _]) wc_X3_19 st_X7_length rfl (Nat.le_of_ble_eq_true rfl) (Nat.le_of_eq (Nat.zero_add _)) (Nat.le_of_eq (Nat.zero_add _)) dX3_freeByBars_42 rfl rfl (s_X7_length (by omega) ?_)
          refine r_isub (q := 46) dX3_freeByBars_45 rfl ?_
          rw [n_sub (a := n) (b := wCut (L.getD j 0) n / 64) (by omega)]
          refine r_ishl (q := 47) dX3_freeByBars_46 rfl ?_
          rw [n_shl (w := 1) (k := n - wCut (L.getD j 0) n / 64) (by omega) (by rw [Nat.one_mul]; exact Nat.pow_lt_pow_right (by omega) (by omega)), Nat.one_mul]
          refine r_isub (q := 48) dX3_freeByBars_47 rfl ?_
          rw [sub_sub_nI, show gBars L n j + 2 ^ (n - wCut (L.getD j 0) n / 64) = gBars L n (j + 1) from by rw [gBars, gBars, range_sum_succ, gBarV, if_pos ⟨c25, bI_eq0.mp c34⟩]]
          refine r_istore_n (q := 49) dX3_freeByBars_48 (Nat.le_of_ble_eq_true rfl) rfl rfl ?_
          show AW _ _ _ _ _ _ [some _, some _, some _, some _, some _] _ _
          refine r_inc1 (q := 52) dX3_freeByBars_49 rfl (Nat.le_of_ble_eq_true rfl) rfl rfl ?_
          show AW _ _ _ _ _ _ [some _, some _, some _, some _, some _] _ _
          refine r_goto (t := 6) dX3_freeByBars_52 rfl ?_
          exact ih (7 - (j + 1)) (by omega) (j + 1) _ rfl (by omega)
  refine MS.of (by decide) (by simp [Value.category]) (Nat.le_of_ble_eq_true rfl) ?_
  show AW _ _ _ _ _ _ [some _, some _, none, none, none] _ _
  refine r_iconst (v := nI 1) (q := 1) dX3_freeByBars_0 (by decide) rfl ?_
  refine r_iload_n (q := 2) dX3_freeByBars_1 rfl rfl ?_
  refine r_ishl (q := 3) dX3_freeByBars_2 rfl ?_
  rw [n_shl (by omega) (by rw [Nat.one_mul]; exact Nat.pow_lt_pow_right (by omega) (by omega)), Nat.one_mul]
  refine r_istore_n (q := 4) dX3_freeByBars_3 (Nat.le_of_ble_eq_true rfl) rfl rfl ?_
  show AW _ _ _ _ _ _ [some _, some _, some _, none, none] _ _
  refine r_iconst (v := nI 0) (q := 5) dX3_freeByBars_4 (by decide) rfl ?_
  refine r_istore_n (q := 6) dX3_freeByBars_5 (Nat.le_of_ble_eq_true rfl) rfl rfl ?_
  show AW _ _ _ _ _ _ [some _, some _, some _, some _, none] _ _
  rw [show nI (2 ^ n) = nI (2 ^ n) - nI (gBars L n 0) from by rw [show gBars L n 0 = 0 from rfl, n_sub (Nat.zero_le _)]; rfl]
  exact loop _ 0 _ rfl (by omega)

end W23
