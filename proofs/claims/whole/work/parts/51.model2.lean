/-! THE MODEL: small methods -/
section W51
variable {G : En} {Λ : Ob → Nat} {ρ : Me} {μ : Mg} {M : Me} {d : Nat} {Q : Option Value → Me → Prop} {QX : String → Me → Prop} {S : St}
def inI (v lo hi : Int32) : Bool := decide (¬ v < lo) && decide (¬ hi < v)
theorem inI_L (l : Int32) : inI l (nI 0) (nI 6) = isL l := by
  have e : (¬ nI 6 < l) ↔ ¬ nI 7 ≤ l := by
    rw [Int32.lt_iff_toInt_lt, Int32.le_iff_toInt_le, show (nI 6).toInt = 6 from rfl, show (nI 7).toInt = 7 from rfl]; omega
  simp only [inI, isL, e]; rfl
theorem inI_P (l : Int32) : inI l (nI 0) (nI 3) = isP l := by
  have e : (¬ nI 3 < l) ↔ ¬ nI 4 ≤ l := by
    rw [Int32.lt_iff_toInt_lt, Int32.le_iff_toInt_le, show (nI 3).toInt = 3 from rfl, show (nI 4).toInt = 4 from rfl]; omega
  simp only [inI, isP, e]; rfl
theorem inI_N (l : Int32) : inI l (nI 1) (nI 6) = isN l := rfl
theorem s_X9_in {v lo hi : Int32} (hQ : Q (some (.int (bI (inI v lo hi)))) M)  : MS G yX9_in cX9_in 3 (some .boolean) d 0 0 [.int v, .int lo, .int hi] M Q QX := by
  refine MS.of (by decide) (by simp [Value.category]) (Nat.le_of_ble_eq_true rfl) ?_
  show AW _ (_, _, _, _, _, _, _, _, _) _ _ _ _ [some _, some _, some _] _ _
  refine r_iload_n (q := 1) dX9_in_0 rfl rfl ?_
  refine r_iload_n (q := 2) dX9_in_1 rfl rfl ?_
  refine r_icmp_lt (t := 14) (q := 5) dX9_in_2 rfl rfl (fun c2 => ?_) (fun c2 => ?_)
  · rw [show inI v lo hi = false by rw [inI, decide_eq_false (not_not_intro c2)]; rfl] at hQ
    refine r_iconst (v := nI 0) (q := 15) dX9_in_14 (by decide) rfl ?_
    refine r_zret dX9_in_15 (by first | rfl | exact narrow_bI _) ?_
    exact hQ
  · refine r_iload_n (q := 6) dX9_in_5 rfl rfl ?_
    refine r_iload_n (q := 7) dX9_in_6 rfl rfl ?_
    refine r_icmp_gt (t := 14) (q := 10) dX9_in_7 rfl rfl (fun c7 => ?_) (fun c7 => ?_)
    · rw [show inI v lo hi = false by rw [inI, decide_eq_false (not_not_intro c7), Bool.and_false]] at hQ
      refine r_iconst (v := nI 0) (q := 15) dX9_in_14 (by decide) rfl ?_
      refine r_zret dX9_in_15 (by first | rfl | exact narrow_bI _) ?_
      exact hQ
    · rw [show inI v lo hi = true by rw [inI, decide_eq_true c2, decide_eq_true c7]; rfl] at hQ
      refine r_iconst (v := nI 1) (q := 11) dX9_in_10 (by decide) rfl ?_
      refine r_goto (t := 15) dX9_in_11 rfl ?_
      refine r_zret dX9_in_15 (by first | rfl | exact narrow_bI _) ?_
      exact hQ
theorem s_X9_isLine {l : Int32} (hQ : Q (some (.int (bI (isL l)))) M)  : MS G yX9_isLine cX9_isLine 1 (some .boolean) (d + 1) 0 0 [.int l] M Q QX := by
  refine MS.of (by decide) (by simp [Value.category]) (Nat.le_of_ble_eq_true rfl) ?_
  show AW _ (_, _, _, _, _, _, _, _, _) _ _ _ _ [some _] _ _
  refine r_iload_n (q := 1) dX9_isLine_0 rfl rfl ?_
  refine r_iconst (v := nI 0) (q := 2) dX9_isLine_1 (by decide) rfl ?_
  refine r_bipush (v := nI 6) (q := 4) dX9_isLine_2 (by decide) rfl ?_
  refine r_cS (q := 7) (As := [.int _, .int _, .int _]) wc_X9_116 st_X9_in rfl (Nat.le_of_ble_eq_true rfl) (Nat.le_of_eq (Nat.zero_add _)) (Nat.le_of_eq (Nat.zero_add _)) dX9_isLine_4 rfl rfl (s_X9_in ?_)
  refine r_zret dX9_isLine_7 (narrow_bI _) ?_
  rw [← inI_L l] at hQ
  exact hQ
theorem s_X9_isPlatform {l : Int32} (hQ : Q (some (.int (bI (isP l)))) M)  : MS G yX9_isPlatform cX9_isPlatform 1 (some .boolean) (d + 1) 0 0 [.int l] M Q QX := by
  refine MS.of (by decide) (by simp [Value.category]) (Nat.le_of_ble_eq_true rfl) ?_
  show AW _ (_, _, _, _, _, _, _, _, _) _ _ _ _ [some _] _ _
  refine r_iload_n (q := 1) dX9_isPlatform_0 rfl rfl ?_
  refine r_iconst (v := nI 0) (q := 2) dX9_isPlatform_1 (by decide) rfl ?_
  refine r_iconst (v := nI 3) (q := 3) dX9_isPlatform_2 (by decide) rfl ?_
  refine r_cS (q := 6) (As := [.int _, .int _, .int _]) wc_X9_116 st_X9_in rfl (Nat.le_of_ble_eq_true rfl) (Nat.le_of_eq (Nat.zero_add _)) (Nat.le_of_eq (Nat.zero_add _)) dX9_isPlatform_3 rfl rfl (s_X9_in ?_)
  refine r_zret dX9_isPlatform_6 (narrow_bI _) ?_
  rw [← inI_P l] at hQ
  exact hQ
theorem s_X9_isPriority {l : Int32} (hQ : Q (some (.int (bI (inI l (nI 0) (nI 9))))) M)  : MS G yX9_isPriority cX9_isPriority 1 (some .boolean) (d + 1) 0 0 [.int l] M Q QX := by
  refine MS.of (by decide) (by simp [Value.category]) (Nat.le_of_ble_eq_true rfl) ?_
  show AW _ (_, _, _, _, _, _, _, _, _) _ _ _ _ [some _] _ _
  refine r_iload_n (q := 1) dX9_isPriority_0 rfl rfl ?_
  refine r_iconst (v := nI 0) (q := 2) dX9_isPriority_1 (by decide) rfl ?_
  refine r_bipush (v := nI 9) (q := 4) dX9_isPriority_2 (by decide) rfl ?_
  refine r_cS (q := 7) (As := [.int _, .int _, .int _]) wc_X9_116 st_X9_in rfl (Nat.le_of_ble_eq_true rfl) (Nat.le_of_eq (Nat.zero_add _)) (Nat.le_of_eq (Nat.zero_add _)) dX9_isPriority_4 rfl rfl (s_X9_in ?_)
  refine r_zret dX9_isPriority_7 (narrow_bI _) ?_
  exact hQ
theorem s_X9_areHours {l : Int32} (hQ : Q (some (.int (bI (inI l (nI 1) (nI 9))))) M)  : MS G yX9_areHours cX9_areHours 1 (some .boolean) (d + 1) 0 0 [.int l] M Q QX := by
  refine MS.of (by decide) (by simp [Value.category]) (Nat.le_of_ble_eq_true rfl) ?_
  show AW _ (_, _, _, _, _, _, _, _, _) _ _ _ _ [some _] _ _
  refine r_iload_n (q := 1) dX9_areHours_0 rfl rfl ?_
  refine r_iconst (v := nI 1) (q := 2) dX9_areHours_1 (by decide) rfl ?_
  refine r_bipush (v := nI 9) (q := 4) dX9_areHours_2 (by decide) rfl ?_
  refine r_cS (q := 7) (As := [.int _, .int _, .int _]) wc_X9_116 st_X9_in rfl (Nat.le_of_ble_eq_true rfl) (Nat.le_of_eq (Nat.zero_add _)) (Nat.le_of_eq (Nat.zero_add _)) dX9_areHours_4 rfl rfl (s_X9_in ?_)
  refine r_zret dX9_areHours_7 (narrow_bI _) ?_
  exact hQ
def isWd (n b : Int32) : Bool := isN n && inI b (nI 0) (nI (2 ^ n.toNatClampNeg - 1))
theorem shl1 {m : Nat} (h : m ≤ 6) : nI 1 <<< (nI m &&& 31) - nI 1 = nI (2 ^ m - 1) := by
  have e : ∀ m : Nat, m ≤ 6 → nI 1 <<< (nI m &&& 31) - nI 1 = nI (2 ^ m - 1) := by decide
  exact e m h
theorem s_X9_isWord {n b : Int32} (hQ : Q (some (.int (bI (isWd n b)))) M)  : MS G yX9_isWord cX9_isWord 2 (some .boolean) (d + 1) 0 0 [.int n, .int b] M Q QX := by
  refine MS.of (by decide) (by simp [Value.category]) (Nat.le_of_ble_eq_true rfl) ?_
  show AW _ (_, _, _, _, _, _, _, _, _) _ _ _ _ [some _, some _] _ _
  refine r_iload_n (q := 1) dX9_isWord_0 rfl rfl ?_
  refine r_iconst (v := nI 1) (q := 2) dX9_isWord_1 (by decide) rfl ?_
  refine r_bipush (v := nI 6) (q := 4) dX9_isWord_2 (by decide) rfl ?_
  refine r_cS (q := 7) (As := [.int _, .int _, .int _]) wc_X9_116 st_X9_in rfl (Nat.le_of_ble_eq_true rfl) (Nat.le_of_eq (Nat.zero_add _)) (Nat.le_of_eq (Nat.zero_add _)) dX9_isWord_4 rfl rfl (s_X9_in ?_)
  refine r_if_eq (t := 27) (q := 10) dX9_isWord_7 rfl rfl (fun c7 => ?_) (fun c7 => ?_)
  · rw [show isWd n b = false by rw [isWd, ← inI_N, bI_eq0.mp c7]; rfl] at hQ
    refine r_iconst (v := nI 0) (q := 28) dX9_isWord_27 (by decide) rfl ?_
    refine r_zret dX9_isWord_28 (by first | rfl | exact narrow_bI _) ?_
    exact hQ
  · obtain ⟨m, hm1, hm6, rfl⟩ := isN_t (bI_ne c7)
    refine r_iload_n (q := 11) dX9_isWord_10 rfl rfl ?_
    refine r_iconst (v := nI 0) (q := 12) dX9_isWord_11 (by decide) rfl ?_
    refine r_iconst (v := nI 1) (q := 13) dX9_isWord_12 (by decide) rfl ?_
    refine r_iload_n (q := 14) dX9_isWord_13 rfl rfl ?_
    refine r_ishl (q := 15) dX9_isWord_14 rfl ?_
    refine r_iconst (v := nI 1) (q := 16) dX9_isWord_15 (by decide) rfl ?_
    refine r_isub (q := 17) dX9_isWord_16 rfl ?_
    rw [shl1 hm6]
    refine r_cS (q := 20) (As := [.int _, .int _, .int _]) wc_X9_116 st_X9_in rfl (Nat.le_of_ble_eq_true rfl) (Nat.le_of_eq (Nat.zero_add _)) (Nat.le_of_eq (Nat.zero_add _)) dX9_isWord_17 rfl rfl (s_X9_in ?_)
    refine r_if_eq (t := 27) (q := 23) dX9_isWord_20 rfl rfl (fun c20 => ?_) (fun c20 => ?_)
    · rw [show isWd (nI m) b = false by rw [isWd, nI_c7 (by omega), bI_eq0.mp c20, Bool.and_false]] at hQ
      refine r_iconst (v := nI 0) (q := 28) dX9_isWord_27 (by decide) rfl ?_
      refine r_zret dX9_isWord_28 (by first | rfl | exact narrow_bI _) ?_
      exact hQ
    · rw [show isWd (nI m) b = true by rw [isWd, nI_c7 (by omega), bI_ne c20, ← inI_N, bI_ne c7]; rfl] at hQ
      refine r_iconst (v := nI 1) (q := 24) dX9_isWord_23 (by decide) rfl ?_
      refine r_goto (t := 28) dX9_isWord_24 rfl ?_
      refine r_zret dX9_isWord_28 (by first | rfl | exact narrow_bI _) ?_
      exact hQ
def popN (b n : Nat) : Nat := ((List.range n).map fun k => b / 2 ^ k % 2).sum
theorem popN_6 : ∀ n : Nat, n ≤ 6 → ∀ b : Nat, b < 64 → b < 2 ^ n → popN b n = pop6 b := by decide +kernel
theorem s_X9_steamOf {n b : Nat} (hn : n ≤ 6) (hb : b < 64) (hQ : Q (some (.int (nI (n + popN b n)))) M)  : MS G yX9_steamOf cX9_steamOf 4 (some .int) d 0 0 [.int (nI n), .int (nI b)] M Q QX := by
  have loop : ∀ (m : Nat) j, m = n - j → j ≤ n → AW G (wX G yX9_steamOf cX9_steamOf 4 (some .int) 0 0 Q QX) (d) 0 0 4 [some (.int (nI n)), some (.int (nI b)), some (.int (nI (n + popN b j))), some (.int (nI j))] [] M := by
    intro m
    induction m using Nat.strongRecOn with
    | _ m ih =>
    intro j hm hj
    subst hm
    have hbj : b / 2 ^ j ≤ b := Nat.div_le_self _ _
    refine r_iload_n (q := 5) dX9_steamOf_4 rfl rfl ?_
    refine r_iload_n (q := 6) dX9_steamOf_5 rfl rfl ?_
    refine r_icmp_ge (t := 23) (q := 9) dX9_steamOf_6 rfl rfl (fun c6 => ?_) (fun c6 => ?_)
    · simp (disch := omega) only [nI_leI, nI_ltI, nI_eq, nI_lt0, nI_ge0, nI_gt0, nI_le0, nI_eq0] at c6
      obtain rfl : j = n := by omega
      refine r_iload_n (q := 24) dX9_steamOf_23 rfl rfl ?_
      refine r_iret dX9_steamOf_24 ?_
      exact hQ
    · simp (disch := omega) only [nI_leI, nI_ltI, nI_eq, nI_lt0, nI_ge0, nI_gt0, nI_le0, nI_eq0] at c6
      refine r_iload_n (q := 10) dX9_steamOf_9 rfl rfl ?_
      refine r_iload_n (q := 11) dX9_steamOf_10 rfl rfl ?_
      refine r_iload_n (q := 12) dX9_steamOf_11 rfl rfl ?_
      refine r_ishr (q := 13) dX9_steamOf_12 rfl ?_
      rw [n_shr (by omega) (by omega)]
      refine r_iconst (v := nI 1) (q := 14) dX9_steamOf_13 (by decide) rfl ?_
      refine r_iand (q := 15) dX9_steamOf_14 rfl ?_
      rw [n_and (w := b / 2 ^ j) (by omega) 1 1 (by decide)]
      refine r_iadd (q := 16) dX9_steamOf_15 rfl ?_
      rw [n_add]
      refine r_istore_n (q := 17) dX9_steamOf_16 (Nat.le_of_ble_eq_true rfl) rfl rfl ?_
      show AW _ (_, _, _, _, _, _, _, _, _) _ _ _ _ [some _, some _, some _, some _] _ _
      refine r_inc1 (q := 20) dX9_steamOf_17 rfl (Nat.le_of_ble_eq_true rfl) rfl rfl ?_
      show AW _ (_, _, _, _, _, _, _, _, _) _ _ _ _ [some _, some _, some _, some _] _ _
      refine r_goto (t := 4) dX9_steamOf_20 rfl ?_
      rw [show n + popN b j + b / 2 ^ j % 2 ^ 1 = n + popN b (j + 1) by rw [popN, popN, range_sum_succ]; omega]
      exact ih (n - (j + 1)) (by omega) (j + 1) rfl (by omega)
  refine MS.of (by decide) (by simp [Value.category]) (Nat.le_of_ble_eq_true rfl) ?_
  show AW _ (_, _, _, _, _, _, _, _, _) _ _ _ _ [some _, some _, _, _] _ _
  refine r_iload_n (q := 1) dX9_steamOf_0 rfl rfl ?_
  refine r_istore_n (q := 2) dX9_steamOf_1 (Nat.le_of_ble_eq_true rfl) rfl rfl ?_
  show AW _ (_, _, _, _, _, _, _, _, _) _ _ _ _ [some _, some _, some _, _] _ _
  refine r_iconst (v := nI 0) (q := 3) dX9_steamOf_2 (by decide) rfl ?_
  refine r_istore_n (q := 4) dX9_steamOf_3 (Nat.le_of_ble_eq_true rfl) rfl rfl ?_
  show AW _ (_, _, _, _, _, _, _, _, _) _ _ _ _ [some _, some _, some _, some _] _ _
  exact loop _ 0 rfl (Nat.zero_le _)
def cv (t b e w : Nat) : Nat := (((t * 8 + b) * 8 + e) * 8 + w / 64) * 64 + w % 64
theorem cv_eq (t b e w : Nat) : cv t b e w = ((t * 8 + b) * 8 + e) * 512 + w := by unfold cv; omega
theorem n_div {a b : Nat} (hb0 : 0 < b) (ha : a < 2 ^ 31) (hb : b < 2 ^ 31) : nI a / nI b = nI (a / b) := pk_div ha hb0 hb
theorem n_rem {a b : Nat} (hb0 : 0 < b) (ha : a < 2 ^ 31) (hb : b < 2 ^ 31) : nI a - nI a / nI b * nI b = nI (a % b) := pk_rem ha hb0 hb
theorem eI_1 (x e : Nat) : nI x + eI e + nI 1 = nI (x + e) := by
  rw [eI, Int32.add_assoc, Int32.sub_add_cancel, n_add]
theorem s_X9_sound {t b e l w : Nat} {p : Int32} (hp : p = eI e) (hQ : Q (some (.int (nI ((((t * 8 + b) * 8 + e) * 8 + l) * 64 + w)))) M)  : MS G yX9_sound cX9_sound 5 (some .int) d 0 0 [.int (nI t), .int (nI b), .int p, .int (nI l), .int (nI w)] M Q QX := by
  subst hp
  refine MS.of (by decide) (by simp [Value.category]) (Nat.le_of_ble_eq_true rfl) ?_
  show AW _ (_, _, _, _, _, _, _, _, _) _ _ _ _ [some _, some _, some _, some _, some _] _ _
  refine r_iload_n (q := 1) dX9_sound_0 rfl rfl ?_
  refine r_bipush (v := nI 8) (q := 3) dX9_sound_1 (by decide) rfl ?_
  refine r_imul (q := 4) dX9_sound_3 rfl ?_
  rw [n_mul]
  refine r_iload_n (q := 5) dX9_sound_4 rfl rfl ?_
  refine r_iadd (q := 6) dX9_sound_5 rfl ?_
  rw [n_add]
  refine r_bipush (v := nI 8) (q := 8) dX9_sound_6 (by decide) rfl ?_
  refine r_imul (q := 9) dX9_sound_8 rfl ?_
  rw [n_mul]
  refine r_iload_n (q := 10) dX9_sound_9 rfl rfl ?_
  refine r_iadd (q := 11) dX9_sound_10 rfl ?_
  refine r_iconst (v := nI 1) (q := 12) dX9_sound_11 (by decide) rfl ?_
  refine r_iadd (q := 13) dX9_sound_12 rfl ?_
  rw [eI_1]
  refine r_bipush (v := nI 8) (q := 15) dX9_sound_13 (by decide) rfl ?_
  refine r_imul (q := 16) dX9_sound_15 rfl ?_
  rw [n_mul]
  refine r_iload_n (q := 17) dX9_sound_16 rfl rfl ?_
  refine r_iadd (q := 18) dX9_sound_17 rfl ?_
  rw [n_add]
  refine r_bipush (v := nI 64) (q := 20) dX9_sound_18 (by decide) rfl ?_
  refine r_imul (q := 21) dX9_sound_20 rfl ?_
  rw [n_mul]
  refine r_iload (q := 23) dX9_sound_21 rfl rfl ?_
  refine r_iadd (q := 24) dX9_sound_23 rfl ?_
  rw [n_add]
  refine r_iret dX9_sound_24 ?_
  exact hQ
theorem s_X9_bitsIn {s : Nat} (hs : s < 2 ^ 31) (hQ : Q (some (.int (nI (s % 64)))) M)  : MS G yX9_bitsIn cX9_bitsIn 1 (some .int) d 0 0 [.int (nI s)] M Q QX := by
  refine MS.of (by decide) (by simp [Value.category]) (Nat.le_of_ble_eq_true rfl) ?_
  show AW _ (_, _, _, _, _, _, _, _, _) _ _ _ _ [some _] _ _
  refine r_iload_n (q := 1) dX9_bitsIn_0 rfl rfl ?_
  refine r_bipush (v := nI 64) (q := 3) dX9_bitsIn_1 (by decide) rfl ?_
  refine r_irem (q := 4) dX9_bitsIn_3 (by decide) rfl ?_
  rw [n_rem (by decide) (by omega) (by decide)]
  refine r_iret dX9_bitsIn_4 ?_
  exact hQ
theorem s_X9_lengthIn {s : Nat} (hs : s < 2 ^ 31) (hQ : Q (some (.int (nI (s / 64 % 8)))) M)  : MS G yX9_lengthIn cX9_lengthIn 1 (some .int) d 0 0 [.int (nI s)] M Q QX := by
  refine MS.of (by decide) (by simp [Value.category]) (Nat.le_of_ble_eq_true rfl) ?_
  show AW _ (_, _, _, _, _, _, _, _, _) _ _ _ _ [some _] _ _
  refine r_iload_n (q := 1) dX9_lengthIn_0 rfl rfl ?_
  refine r_bipush (v := nI 64) (q := 3) dX9_lengthIn_1 (by decide) rfl ?_
  refine r_idiv (q := 4) dX9_lengthIn_3 (by decide) rfl ?_
  rw [n_div (by decide) (by omega) (by decide)]
  refine r_bipush (v := nI 8) (q := 6) dX9_lengthIn_4 (by decide) rfl ?_
  refine r_irem (q := 7) dX9_lengthIn_6 (by decide) rfl ?_
  rw [n_rem (by decide) (by omega) (by decide)]
  refine r_iret dX9_lengthIn_7 ?_
  exact hQ
theorem s_X9_platformIn {s : Nat} (hs : s < 2 ^ 31) (hQ : Q (some (.int (eI (s / 512 % 8)))) M)  : MS G yX9_platformIn cX9_platformIn 1 (some .int) d 0 0 [.int (nI s)] M Q QX := by
  refine MS.of (by decide) (by simp [Value.category]) (Nat.le_of_ble_eq_true rfl) ?_
  show AW _ (_, _, _, _, _, _, _, _, _) _ _ _ _ [some _] _ _
  refine r_iload_n (q := 1) dX9_platformIn_0 rfl rfl ?_
  refine r_sipush (v := nI 512) (q := 4) dX9_platformIn_1 (by decide) rfl ?_
  refine r_idiv (q := 5) dX9_platformIn_4 (by decide) rfl ?_
  rw [n_div (by decide) (by omega) (by decide)]
  refine r_bipush (v := nI 8) (q := 7) dX9_platformIn_5 (by decide) rfl ?_
  refine r_irem (q := 8) dX9_platformIn_7 (by decide) rfl ?_
  rw [n_rem (by decide) (by omega) (by decide)]
  refine r_iconst (v := nI 1) (q := 9) dX9_platformIn_8 (by decide) rfl ?_
  refine r_isub (q := 10) dX9_platformIn_9 rfl ?_
  refine r_iret dX9_platformIn_10 ?_
  exact hQ
theorem s_X9_byIn {s : Nat} (hs : s < 2 ^ 31) (hQ : Q (some (.int (nI (s / 4096 % 8)))) M)  : MS G yX9_byIn cX9_byIn 1 (some .int) d 0 0 [.int (nI s)] M Q QX := by
  refine MS.of (by decide) (by simp [Value.category]) (Nat.le_of_ble_eq_true rfl) ?_
  show AW _ (_, _, _, _, _, _, _, _, _) _ _ _ _ [some _] _ _
  refine r_iload_n (q := 1) dX9_byIn_0 rfl rfl ?_
  refine r_sipush (v := nI 4096) (q := 4) dX9_byIn_1 (by decide) rfl ?_
  refine r_idiv (q := 5) dX9_byIn_4 (by decide) rfl ?_
  rw [n_div (by decide) (by omega) (by decide)]
  refine r_bipush (v := nI 8) (q := 7) dX9_byIn_5 (by decide) rfl ?_
  refine r_irem (q := 8) dX9_byIn_7 (by decide) rfl ?_
  rw [n_rem (by decide) (by omega) (by decide)]
  refine r_iret dX9_byIn_8 ?_
  exact hQ
theorem s_X9_toldIn {s : Nat} (hs : s < 2 ^ 31) (hQ : Q (some (.int (nI (s / 32768 % 8)))) M)  : MS G yX9_toldIn cX9_toldIn 1 (some .int) d 0 0 [.int (nI s)] M Q QX := by
  refine MS.of (by decide) (by simp [Value.category]) (Nat.le_of_ble_eq_true rfl) ?_
  show AW _ (_, _, _, _, _, _, _, _, _) _ _ _ _ [some _] _ _
  refine r_iload_n (q := 1) dX9_toldIn_0 rfl rfl ?_
  refine r_ldc (q := 3) dX9_toldIn_1 kc_X9_177 rfl ?_
  refine r_idiv (q := 4) dX9_toldIn_3 (by decide) rfl ?_
  rw [show (32768 : Int32) = nI 32768 from rfl]
  rw [n_div (by decide) (by omega) (by decide)]
  refine r_bipush (v := nI 8) (q := 6) dX9_toldIn_4 (by decide) rfl ?_
  refine r_irem (q := 7) dX9_toldIn_6 (by decide) rfl ?_
  rw [n_rem (by decide) (by omega) (by decide)]
  refine r_iret dX9_toldIn_7 ?_
  exact hQ
theorem s_X9_lv (h : RM G Λ ρ μ M) {l w : Nat} (hl : l < 7) (hw : w < 10) (hQ : Q (some (.int (nI (gA μ 0 (16 + 10 * l + w))))) M)  : MS G yX9_lv cX9_lv 3 (some .int) d 0 0 [.ref (Λ (10, 0, 0)), .int (nI l), .int (nI w)] M Q QX := by
  refine MS.of (by decide) (by simp [Value.category]) (Nat.le_of_ble_eq_true rfl) ?_
  show AW _ (_, _, _, _, _, _, _, _, _) _ _ _ _ [some _, some _, some _] _ _
  refine r_aload_n (q := 1) dX9_lv_0 rfl rfl ?_
  refine r_get (q := 4) (kk := 0) h.m rfl wi_RX9 (by decide) rfl fk_X9_7 rfl dX9_lv_1 rfl ?_
  refine r_bipush (v := nI 16) (q := 6) dX9_lv_4 (by decide) rfl ?_
  refine r_bipush (v := nI 10) (q := 8) dX9_lv_6 (by decide) rfl ?_
  refine r_iload_n (q := 9) dX9_lv_8 rfl rfl ?_
  refine r_imul (q := 10) dX9_lv_9 rfl ?_
  rw [n_mul]
  refine r_iadd (q := 11) dX9_lv_10 rfl ?_
  rw [n_add]
  refine r_iload_n (q := 12) dX9_lv_11 rfl rfl ?_
  refine r_iadd (q := 13) dX9_lv_12 rfl ?_
  rw [n_add]
  refine r_ialdM (q := 14) h (by decide) (by simp only [mLen]; omega) dX9_lv_13 rfl ?_
  refine r_iret dX9_lv_14 ?_
  exact hQ
theorem s_X9_ll (h : RM G Λ ρ μ M) {l w x : Nat} {v : Int32} (hv : v = nI x) (hl : l < 7) (hw : w < 10) (hx : x < 2 ^ 31) (hQ : ∀ M', RM G Λ ρ (sA μ 0 (uN (gA μ 0) (16 + 10 * l + w) x)) M' → Q none M')  : MS G yX9_ll cX9_ll 4 none d 0 0 [.ref (Λ (10, 0, 0)), .int (nI l), .int (nI w), .int v] M Q QX := by
  subst hv
  refine MS.of (by decide) (by simp [Value.category]) (Nat.le_of_ble_eq_true rfl) ?_
  show AW _ (_, _, _, _, _, _, _, _, _) _ _ _ _ [some _, some _, some _, some _] _ _
  refine r_aload_n (q := 1) dX9_ll_0 rfl rfl ?_
  refine r_get (q := 4) (kk := 0) h.m rfl wi_RX9 (by decide) rfl fk_X9_7 rfl dX9_ll_1 rfl ?_
  refine r_bipush (v := nI 16) (q := 6) dX9_ll_4 (by decide) rfl ?_
  refine r_bipush (v := nI 10) (q := 8) dX9_ll_6 (by decide) rfl ?_
  refine r_iload_n (q := 9) dX9_ll_8 rfl rfl ?_
  refine r_imul (q := 10) dX9_ll_9 rfl ?_
  rw [n_mul]
  refine r_iadd (q := 11) dX9_ll_10 rfl ?_
  rw [n_add]
  refine r_iload_n (q := 12) dX9_ll_11 rfl rfl ?_
  refine r_iadd (q := 13) dX9_ll_12 rfl ?_
  rw [n_add]
  refine r_iload_n (q := 14) dX9_ll_13 rfl rfl ?_
  refine r_iastM (q := 15) h (by decide) (by simp only [mLen]; omega) hx dX9_ll_14 rfl fun M_14 h_14 => ?_
  refine r_vret dX9_ll_15 ?_
  exact hQ _ h_14
theorem s_X9_pv (h : RM G Λ ρ μ M) {p w : Nat} (hp : p < 4) (hw : w < 3) (hQ : Q (some (.int (nI (gA μ 0 (92 + 3 * p + w))))) M)  : MS G yX9_pv cX9_pv 3 (some .int) d 0 0 [.ref (Λ (10, 0, 0)), .int (nI p), .int (nI w)] M Q QX := by
  refine MS.of (by decide) (by simp [Value.category]) (Nat.le_of_ble_eq_true rfl) ?_
  show AW _ (_, _, _, _, _, _, _, _, _) _ _ _ _ [some _, some _, some _] _ _
  refine r_aload_n (q := 1) dX9_pv_0 rfl rfl ?_
  refine r_get (q := 4) (kk := 0) h.m rfl wi_RX9 (by decide) rfl fk_X9_7 rfl dX9_pv_1 rfl ?_
  refine r_bipush (v := nI 92) (q := 6) dX9_pv_4 (by decide) rfl ?_
  refine r_iconst (v := nI 3) (q := 7) dX9_pv_6 (by decide) rfl ?_
  refine r_iload_n (q := 8) dX9_pv_7 rfl rfl ?_
  refine r_imul (q := 9) dX9_pv_8 rfl ?_
  rw [n_mul]
  refine r_iadd (q := 10) dX9_pv_9 rfl ?_
  rw [n_add]
  refine r_iload_n (q := 11) dX9_pv_10 rfl rfl ?_
  refine r_iadd (q := 12) dX9_pv_11 rfl ?_
  rw [n_add]
  refine r_ialdM (q := 13) h (by decide) (by simp only [mLen]; omega) dX9_pv_12 rfl ?_
  refine r_iret dX9_pv_13 ?_
  exact hQ
theorem s_X9_thrown (h : RM G Λ ρ μ M) (hQ : Q (some (.int (gN μ 4))) M)  : MS G yX9_thrown cX9_thrown 1 (some .int) d 0 0 [.ref (Λ (10, 0, 0))] M Q QX := by
  refine MS.of (by decide) (by simp [Value.category]) (Nat.le_of_ble_eq_true rfl) ?_
  show AW _ (_, _, _, _, _, _, _, _, _) _ _ _ _ [some _] _ _
  refine r_aload_n (q := 1) dX9_thrown_0 rfl rfl ?_
  refine r_get (q := 4) (kk := 4) h.m rfl wi_RX9 (by decide) rfl fk_X9_22 rfl dX9_thrown_1 rfl ?_
  refine r_iret dX9_thrown_4 ?_
  exact hQ
theorem s_X9_no (h : RM G Λ ρ μ M) {v : Int32} (hQ : ∀ M', RM G Λ ρ (sN μ 4 v) M' → Q (some (.int (nI 0))) M')  : MS G yX9_no cX9_no 2 (some .int) d 0 0 [.ref (Λ (10, 0, 0)), .int v] M Q QX := by
  refine MS.of (by decide) (by simp [Value.category]) (Nat.le_of_ble_eq_true rfl) ?_
  show AW _ (_, _, _, _, _, _, _, _, _) _ _ _ _ [some _, some _] _ _
  refine r_aload_n (q := 1) dX9_no_0 rfl rfl ?_
  refine r_iload_n (q := 2) dX9_no_1 rfl rfl ?_
  refine r_p9 (q := 5) (kk := 4) (j := 4) h (by decide) rfl fk_X9_22 dX9_no_2 rfl fun M_2 h_2 => ?_
  refine r_iconst (v := nI 0) (q := 6) dX9_no_5 (by decide) rfl ?_
  refine r_iret dX9_no_6 ?_
  exact hQ _ h_2
theorem s_X9_isBad (h : RM G Λ ρ μ M) {u v : Int32} (hQ : ∀ M', RM G Λ ρ (sN (sN μ 6 u) 7 v) M' → Q (some (.int (nI 1))) M')  : MS G yX9_isBad cX9_isBad 3 (some .boolean) d 0 0 [.ref (Λ (10, 0, 0)), .int u, .int v] M Q QX := by
  refine MS.of (by decide) (by simp [Value.category]) (Nat.le_of_ble_eq_true rfl) ?_
  show AW _ (_, _, _, _, _, _, _, _, _) _ _ _ _ [some _, some _, some _] _ _
  refine r_aload_n (q := 1) dX9_isBad_0 rfl rfl ?_
  refine r_iload_n (q := 2) dX9_isBad_1 rfl rfl ?_
  refine r_p9 (q := 5) (kk := 6) (j := 6) h (by decide) rfl fk_X9_29 dX9_isBad_2 rfl fun M_2 h_2 => ?_
  refine r_aload_n (q := 6) dX9_isBad_5 rfl rfl ?_
  refine r_iload_n (q := 7) dX9_isBad_6 rfl rfl ?_
  refine r_p9 (q := 10) (kk := 7) (j := 7) h_2 (by decide) rfl fk_X9_32 dX9_isBad_7 rfl fun M_7 h_7 => ?_
  refine r_iconst (v := nI 1) (q := 11) dX9_isBad_10 (by decide) rfl ?_
  refine r_zret dX9_isBad_11 (by first | rfl | exact narrow_bI _) ?_
  exact hQ _ h_7
theorem s_X9_refused (h : RM G Λ ρ μ M) {v : Int32} (hQ : ∀ M', RM G Λ ρ (sN (sN (sN μ 8 (gN μ 6)) 9 (gN μ 7)) 4 v) M' → Q (some (.int (nI 0))) M')  : MS G yX9_refused cX9_refused 2 (some .int) (d + 1) 0 0 [.ref (Λ (10, 0, 0)), .int v] M Q QX := by
  refine MS.of (by decide) (by simp [Value.category]) (Nat.le_of_ble_eq_true rfl) ?_
  show AW _ (_, _, _, _, _, _, _, _, _) _ _ _ _ [some _, some _] _ _
  refine r_aload_n (q := 1) dX9_refused_0 rfl rfl ?_
  refine r_aload_n (q := 2) dX9_refused_1 rfl rfl ?_
  refine r_get (q := 5) (kk := 6) h.m rfl wi_RX9 (by decide) rfl fk_X9_29 rfl dX9_refused_2 rfl ?_
  refine r_p9 (q := 8) (kk := 8) (j := 8) h (by decide) rfl fk_X9_35 dX9_refused_5 rfl fun M_5 h_5 => ?_
  refine r_aload_n (q := 9) dX9_refused_8 rfl rfl ?_
  refine r_aload_n (q := 10) dX9_refused_9 rfl rfl ?_
  refine r_get (q := 13) (kk := 7) h_5.m rfl wi_RX9 (by decide) rfl fk_X9_32 rfl dX9_refused_10 rfl ?_
  refine r_p9 (q := 16) (kk := 9) (j := 9) h_5 (by decide) rfl fk_X9_38 dX9_refused_13 rfl fun M_13 h_13 => ?_
  refine r_aload_n (q := 17) dX9_refused_16 rfl rfl ?_
  refine r_iload_n (q := 18) dX9_refused_17 rfl rfl ?_
  refine r_cV (q := 21) (As := [.int _]) wc_X9_96 rfl im_X9_no se_X9_no h_13.m rfl rfl (Nat.le_of_ble_eq_true rfl) (Nat.le_of_eq (Nat.zero_add _)) (Nat.le_of_eq (Nat.zero_add _)) dX9_refused_18 rfl rfl (s_X9_no h_13 fun M_18 h_18 => ?_)
  refine r_iret dX9_refused_21 ?_
  exact hQ _ h_18
def cpF (F T : Nat → Nat) (a b n : Nat) : Nat → Nat := fun k => if b ≤ k ∧ k < b + n then F (a + (k - b)) else T k
theorem cpF_0 {F T : Nat → Nat} {a b : Nat} : cpF F T a b 0 = T := by
  funext k; unfold cpF; rw [if_neg (by omega)]
theorem cpF_s {F T : Nat → Nat} {a b n : Nat} : uN (cpF F T a b n) (b + n) (F (a + n)) = cpF F T a b (n + 1) := by
  funext k
  unfold uN cpF
  by_cases h : k = b + n
  · rw [if_pos h, if_pos (by omega), h]; congr 1; omega
  · rw [if_neg h]
    by_cases h2 : b ≤ k ∧ k < b + n
    · rw [if_pos h2, if_pos (by omega)]
    · rw [if_neg h2, if_neg (by omega)]
theorem s_X9_copies (h : RM G Λ ρ μ M) {i1 i2 a b : Nat} (h1i : i1 < 10) (h2i : i2 < 10) (ha : a + 640 ≤ mLen i1) (hb : b + 640 ≤ mLen i2) (hne : i1 ≠ i2 ∨ b + 640 ≤ a) (hQ : ∀ M', RM G Λ ρ (sA μ i2 (cpF (gA μ i1) (gA μ i2) a b 640)) M' → Q none M')  : MS G yX9_copies cX9_copies 5 none d 0 0 [.ref (Λ (11, i1, 0)), .int (nI a), .ref (Λ (11, i2, 0)), .int (nI b)] M Q QX := by
  have hL1 := mLen_lt i1
  have hL2 := mLen_lt i2
  have hsrc : ∀ j, j < 640 → gA (sA μ i2 (cpF (gA μ i1) (gA μ i2) a b j)) i1 (a + j) = gA μ i1 (a + j) := by
    intro j hj
    by_cases e : i1 = i2
    · subst e
      rw [gA_s, cpF, if_neg (by omega)]
    · rw [gA_n e]
  have loop : ∀ (m : Nat) j (M1 : Me), m = 640 - j → j ≤ 640 → RM G Λ ρ (sA μ i2 (cpF (gA μ i1) (gA μ i2) a b j)) M1 → AW G (wX G yX9_copies cX9_copies 5 none 0 0 Q QX) (d) 0 0 3 [some (.ref (Λ (11, i1, 0))), some (.int (nI a)), some (.ref (Λ (11, i2, 0))), some (.int (nI b)), some (.int (nI j))] [] M1 := by
    intro m
    induction m using Nat.strongRecOn with
    | _ m ih =>
    intro j M1 hm hj h1
    subst hm
    refine r_iload (q := 5) dX9_copies_3 rfl rfl ?_
    refine r_sipush (v := nI 640) (q := 8) dX9_copies_5 (by decide) rfl ?_
    refine r_icmp_ge (t := 29) (q := 11) dX9_copies_8 rfl rfl (fun c8 => ?_) (fun c8 => ?_)
    · simp (disch := omega) only [nI_leI, nI_ltI, nI_eq, nI_lt0, nI_ge0, nI_gt0, nI_le0, nI_eq0] at c8
      obtain rfl : j = 640 := by omega
      refine r_vret dX9_copies_29 ?_
      exact hQ _ h1
    · simp (disch := omega) only [nI_leI, nI_ltI, nI_eq, nI_lt0, nI_ge0, nI_gt0, nI_le0, nI_eq0] at c8
      refine r_aload_n (q := 12) dX9_copies_11 rfl rfl ?_
      refine r_iload_n (q := 13) dX9_copies_12 rfl rfl ?_
      refine r_iload (q := 15) dX9_copies_13 rfl rfl ?_
      refine r_iadd (q := 16) dX9_copies_15 rfl ?_
      rw [n_add]
      refine r_aload_n (q := 17) dX9_copies_16 rfl rfl ?_
      refine r_iload_n (q := 18) dX9_copies_17 rfl rfl ?_
      refine r_iload (q := 20) dX9_copies_18 rfl rfl ?_
      refine r_iadd (q := 21) dX9_copies_20 rfl ?_
      rw [n_add]
      refine r_ialdM (q := 22) h1 h1i (by omega) dX9_copies_21 rfl ?_
      rw [show gA (sA μ i2 (cpF (gA μ i1) (gA μ i2) a b j)) i1 (a + j) = gA μ i1 (a + j) from hsrc j (by omega)]
      refine r_iastM (q := 23) h1 h2i (by omega) (h.lt h1i (by omega)) dX9_copies_22 rfl fun M_22 h1_22 => ?_
      rw [sA_sA, gA_s, cpF_s] at h1_22
      refine r_inc1 (q := 26) dX9_copies_23 rfl (Nat.le_of_ble_eq_true rfl) rfl rfl ?_
      show AW _ (_, _, _, _, _, _, _, _, _) _ _ _ _ [some _, some _, some _, some _, some _] _ _
      refine r_goto (t := 3) dX9_copies_26 rfl ?_
      exact ih (640 - (j + 1)) (by omega) (j + 1) M_22 rfl (by omega) h1_22
  refine MS.of (by decide) (by simp [Value.category]) (Nat.le_of_ble_eq_true rfl) ?_
  show AW _ (_, _, _, _, _, _, _, _, _) _ _ _ _ [some _, some _, some _, some _, _] _ _
  refine r_iconst (v := nI 0) (q := 1) dX9_copies_0 (by decide) rfl ?_
  refine r_istore (q := 3) dX9_copies_1 (Nat.le_of_ble_eq_true rfl) rfl rfl ?_
  show AW _ (_, _, _, _, _, _, _, _, _) _ _ _ _ [some _, some _, some _, some _, some _] _ _
  exact loop _ 0 M rfl (Nat.zero_le _) (by rw [cpF_0, sA_self]; exact h)
theorem s_X9_begins (h : RM G Λ ρ μ M) (hQ : ∀ M', RM G Λ ρ (sA (sN μ 4 (nI 0)) 1 (cpF (gA μ 0) (gA μ 1) 0 0 640)) M' → Q none M')  : MS G yX9_begins cX9_begins 1 none (d + 1) 0 0 [.ref (Λ (10, 0, 0))] M Q QX := by
  refine MS.of (by decide) (by simp [Value.category]) (Nat.le_of_ble_eq_true rfl) ?_
  show AW _ (_, _, _, _, _, _, _, _, _) _ _ _ _ [some _] _ _
  refine r_aload_n (q := 1) dX9_begins_0 rfl rfl ?_
  refine r_iconst (v := nI 0) (q := 2) dX9_begins_1 (by decide) rfl ?_
  refine r_p9 (q := 5) (kk := 4) (j := 4) h (by decide) rfl fk_X9_22 dX9_begins_2 rfl fun M_2 h_2 => ?_
  refine r_aload_n (q := 6) dX9_begins_5 rfl rfl ?_
  refine r_get (q := 9) (kk := 0) h_2.m rfl wi_RX9 (by decide) rfl fk_X9_7 rfl dX9_begins_6 rfl ?_
  refine r_iconst (v := nI 0) (q := 10) dX9_begins_9 (by decide) rfl ?_
  refine r_aload_n (q := 11) dX9_begins_10 rfl rfl ?_
  refine r_get (q := 14) (kk := 1) h_2.m rfl wi_RX9 (by decide) rfl fk_X9_13 rfl dX9_begins_11 rfl ?_
  refine r_iconst (v := nI 0) (q := 15) dX9_begins_14 (by decide) rfl ?_
  refine r_cS (q := 18) (As := [.ref _, .int _, .ref _, .int _]) wc_X9_100 st_X9_copies rfl (Nat.le_of_ble_eq_true rfl) (Nat.le_of_eq (Nat.zero_add _)) (Nat.le_of_eq (Nat.zero_add _)) dX9_begins_15 rfl rfl (s_X9_copies h_2 (by decide) (by decide) (by decide) (by decide) (Or.inl (by decide)) fun M_15 h_15 => ?_)
  refine r_vret dX9_begins_18 ?_
  exact hQ _ h_15
end W51
