/-! THE MODEL: the calls that change -/
section W56
variable {G : En} {Λ : Ob → Nat} {ρ : Me} {μ : Mg} {M : Me} {d : Nat} {Q : Option Value → Me → Prop} {QX : String → Me → Prop} {S : St} {F : Nat → Nat} {z : Nat}
def bgM (μ : Mg) : Mg := sA (sN μ 4 (nI 0)) 1 (gA μ 0)
theorem gA_bg : gA (bgM μ) 0 = gA μ 0 := gA_n (by decide)
theorem x_begins (h : RM G Λ ρ μ M) (hQ : ∀ M', RM G Λ ρ (bgM μ) M' → Q none M') : MS G yX9_begins cX9_begins 1 none (d + 1) 0 0 [.ref (Λ (10, 0, 0))] M Q QX := s_X9_begins h fun M' h1 => hQ M' (h1.extA fun j hj => by rw [cpF, if_pos ⟨Nat.zero_le _, (show j < 640 from hj)⟩, Nat.sub_zero, Nat.zero_add])
def mNo (μ : Mg) (c : Nat) : Mg := sN (bgM μ) 4 (nI c)
def mRf (μ : Mg) (x : Int32 × Int32) (c : Nat) : Mg := sN (sN (sN (sN (sN (bgM μ) 6 x.1) 7 x.2) 8 x.1) 9 x.2) 4 (nI c)
def mOk (μ : Mg) (F : Nat → Nat) (z : Nat) : Mg := kpM (sA (bgM μ) 0 F) z
def mRes (μ : Mg) (f : Fl) (c3 : Nat) (F : Nat → Nat) (z : Nat) : Mg := match f.2 with
  | some x => mRf μ x c3
  | none => if f.1 = 0 then mOk μ F z else mNo μ f.1
def mVal (f : Fl) (v : Int32) : Int32 := if f.1 = 0 then v else 0
def mFl (o : Option (Int32 × Int32)) : Fl := match o with
  | some x => (3, some x)
  | none => no
theorem none_of {α : Type} {o : Option α} (h : bI o.isSome = 0) : o = none := by
  cases o with
  | none => rfl
  | some x => exact absurd h (show ¬ bI true = 0 by decide)
theorem some_of {α : Type} {o : Option α} (h : ¬ bI o.isSome = 0) : ∃ x, o = some x := by
  cases o with
  | none => exact absurd rfl h
  | some x => exact ⟨x, rfl⟩
theorem isWd_t {n b : Int32} (h : isWd n b = true) : ∃ m k, 1 ≤ m ∧ m ≤ 6 ∧ k < 2 ^ m ∧ k < 64 ∧ n = nI m ∧ b = nI k := by
  rw [isWd, Bool.and_eq_true] at h
  obtain ⟨m, hm1, hm6, rfl⟩ := isN_t h.1
  have h2 := h.2
  rw [nI_c7 (by omega), inI, Bool.and_eq_true, decide_eq_true_eq, decide_eq_true_eq] at h2
  obtain ⟨k, hk, rfl⟩ := nI_nat h2.1
  have hp : 2 ^ m ≤ 64 := Nat.pow_le_pow_right (n := 2) (by decide) hm6
  have hp1 : 1 ≤ 2 ^ m := Nat.one_le_two_pow
  have h3 := h2.2
  rw [nI_ltI (by omega) hk] at h3
  exact ⟨m, k, hm1, hm6, by omega, by omega, rfl, rfl⟩
def BW (F : Nat → Nat) : Prop := ∀ l, l < 7 → WN F l
theorem inI_t {v : Int32} {a b : Nat} (ha : a < 2 ^ 31) (hb : b < 2 ^ 31) (h : inI v (nI a) (nI b) = true) : ∃ k, a ≤ k ∧ k ≤ b ∧ v = nI k := by
  rw [inI, Bool.and_eq_true, decide_eq_true_eq, decide_eq_true_eq] at h
  have h0 : ¬ v < 0 := fun g => h.1 (Int32.lt_of_lt_of_le g (by rw [show (0 : Int32) = nI 0 from rfl, nI_leI (by decide) ha]; omega))
  obtain ⟨k, hk, rfl⟩ := nI_nat h0
  rw [nI_ltI hk ha, nI_ltI hb hk] at h
  exact ⟨k, by omega, by omega, rfl⟩
def oSign (F : Nat → Nat) (l n b : Int32) : Fl := if isL l = false then (1, none) else if isWd n b = false then (2, none) else mFl (mrSign F n.toNatClampNeg b.toNatClampNeg)
def oUns (F : Nat → Nat) (l : Int32) : Fl := if isL l = false then (1, none) else mFl (mrNo F l.toNatClampNeg)
def oPri (F : Nat → Nat) (l p : Int32) : Fl := if isL l = false then (1, none) else if inI p (nI 0) (nI 9) = false then (2, none) else mFl (mrPri F l.toNatClampNeg p.toNatClampNeg)
def oPla (p dl m : Int32) : Fl := if isP p = false then (1, none) else if inI dl (nI 0) (nI 5) = false then (2, none) else if inI m (nI 0) (nI 127) = false then (2, none) else no
def oWhi (F : Nat → Nat) (l : Int32) : Fl := if isL l = false then (1, none) else mFl (mrHu F l.toNatClampNeg l.toNatClampNeg 1)
def oLi (F : Nat → Nat) (l t : Int32) : Fl := if isL l = false then (1, none) else if isL t = false then (1, none) else if l = t then (2, none) else mFl (mrHu F l.toNatClampNeg t.toNatClampNeg 2)
def oXp (F : Nat → Nat) (l : Int32) : Fl := if isL l = false then (1, none) else mFl (mrXp F l.toNatClampNeg)
def oMu (F : Nat → Nat) (l k : Int32) : Fl := if isL l = false then (1, none) else if inI k (nI 1) (nI 9) = false then (2, none) else mFl (mrMu F l.toNatClampNeg)
def oFi (F : Nat → Nat) (l : Int32) : Fl := if isL l = false then (1, none) else mFl (mrFi F l.toNatClampNeg)
theorem s_X9_sign (h : RM G Λ ρ μ M) (hz : gN μ 5 = nI z) (hz8 : z ≤ 8) {l n b : Int32} (hQ : ∀ M', RM G Λ ρ (mRes μ (oSign (gA μ 0) l n b) 3 (tellF (gA μ 0) l.toNatClampNeg n.toNatClampNeg b.toNatClampNeg) z) M' → Q (some (.int (mVal (oSign (gA μ 0) l n b) (nI (mSt (tellF (gA μ 0) l.toNatClampNeg n.toNatClampNeg b.toNatClampNeg) l.toNatClampNeg))))) M')  : MS G yX9_sign cX9_sign 4 (some .int) (d + 3) 0 0 [.ref (Λ (10, 0, 0)), .int l, .int n, .int b] M Q QX := by
  refine MS.of (by decide) (by simp [Value.category]) (Nat.le_of_ble_eq_true rfl) ?_
  show AW _ (_, _, _, _, _, _, _, _, _) _ _ _ _ [some _, some _, some _, some _] _ _
  refine r_aload_n (q := 1) dX9_sign_0 rfl rfl ?_
  refine r_cV (q := 4) (As := []) wc_X9_130 rfl im_X9_begins se_X9_begins h.m rfl rfl (Nat.le_of_ble_eq_true rfl) (Nat.le_of_eq (Nat.zero_add _)) (Nat.le_of_eq (Nat.zero_add _)) dX9_sign_1 rfl rfl (x_begins h fun M_1 h_1 => ?_)
  refine r_iload_n (q := 5) dX9_sign_4 rfl rfl ?_
  refine r_cS (q := 8) (As := [.int _]) wc_X9_133 st_X9_isLine rfl (Nat.le_of_ble_eq_true rfl) (Nat.le_of_eq (Nat.zero_add _)) (Nat.le_of_eq (Nat.zero_add _)) dX9_sign_5 rfl rfl (s_X9_isLine ?_)
  refine r_if_ne (t := 17) (q := 11) dX9_sign_8 rfl rfl (fun c8 => ?_) (fun c8 => ?_)
  · obtain ⟨j, hj, rfl⟩ := isL_t (bI_ne c8)
    have ij : ¬ isL (nI j) = false := by rw [isL_n hj]; decide
    refine r_iload_n (q := 18) dX9_sign_17 rfl rfl ?_
    refine r_iload_n (q := 19) dX9_sign_18 rfl rfl ?_
    refine r_cS (q := 22) (As := [.int _, .int _]) wc_X9_137 st_X9_isWord rfl (Nat.le_of_ble_eq_true rfl) (Nat.le_of_eq (Nat.zero_add _)) (Nat.le_of_eq (Nat.zero_add _)) dX9_sign_19 rfl rfl (s_X9_isWord ?_)
    refine r_if_ne (t := 31) (q := 25) dX9_sign_22 rfl rfl (fun c22 => ?_) (fun c22 => ?_)
    · obtain ⟨m, k, hm1, hm6, hk, hk64, rfl, rfl⟩ := isWd_t (bI_ne c22)
      have iw : ¬ isWd (nI m) (nI k) = false := fun g => c22 (bI_eq0.mpr g)
      have e : oSign (gA μ 0) (nI j) (nI m) (nI k) = mFl (mrSign (gA μ 0) m k) := by rw [oSign, if_neg ij, if_neg iw, nI_c7 (by omega), nI_c7 (by omega)]
      rw [e, nI_c7 (show j < 2 ^ 31 by omega), nI_c7 (show m < 2 ^ 31 by omega), nI_c7 (show k < 2 ^ 31 by omega)] at hQ
      refine r_aload_n (q := 32) dX9_sign_31 rfl rfl ?_
      refine r_iload_n (q := 33) dX9_sign_32 rfl rfl ?_
      refine r_iload_n (q := 34) dX9_sign_33 rfl rfl ?_
      refine r_cV (q := 37) (As := [.int _, .int _]) wc_X9_140 rfl im_X9_isRefusedSign se_X9_isRefusedSign h_1.m rfl rfl (Nat.le_of_ble_eq_true rfl) (Nat.le_of_eq (Nat.zero_add _)) (Nat.le_of_eq (Nat.zero_add _)) dX9_sign_34 rfl rfl (s_X9_isRefusedSign h_1 (by omega) (by omega) fun M_34 h_34 => ?_)
      rw [gA_bg] at h_34 ⊢
      refine r_if_eq (t := 48) (q := 40) dX9_sign_37 rfl rfl (fun c37 => ?_) (fun c37 => ?_)
      · have e0 := none_of c37
        rw [e0] at h_34 hQ
        refine r_aload_n (q := 49) dX9_sign_48 rfl rfl ?_
        refine r_aload_n (q := 50) dX9_sign_49 rfl rfl ?_
        refine r_iload_n (q := 51) dX9_sign_50 rfl rfl ?_
        refine r_iload_n (q := 52) dX9_sign_51 rfl rfl ?_
        refine r_iload_n (q := 53) dX9_sign_52 rfl rfl ?_
        refine r_cV (q := 56) (As := [.int _, .int _, .int _]) wc_X9_146 rfl im_X9_tells se_X9_tells h_34.m rfl rfl (Nat.le_of_ble_eq_true rfl) (Nat.le_of_eq (Nat.zero_add _)) (Nat.le_of_eq (Nat.zero_add _)) dX9_sign_53 rfl rfl (s_X9_tells (RM.toA h_34 0) hj hm6 hk64 fun M_53 h_53 => ?_)
        rw [show gA (rfM (bgM μ) none) 0 = gA μ 0 from gA_bg] at h_53 ⊢
        refine r_cV (q := 59) (As := [.int _]) wc_X9_150 rfl im_X9_keeps se_X9_keeps h_53.m rfl rfl (Nat.le_of_ble_eq_true rfl) (Nat.le_of_eq (Nat.zero_add _)) (Nat.le_of_eq (Nat.zero_add _)) dX9_sign_56 rfl rfl (s_X9_keeps (z := z) h_53 hz hz8 fun M_56 h_56 => ?_)
        refine r_iret dX9_sign_59 ?_
        exact hQ _ h_56
      · obtain ⟨x, e0⟩ := some_of c37
        rw [e0] at h_34 hQ
        refine r_aload_n (q := 41) dX9_sign_40 rfl rfl ?_
        refine r_iconst (v := nI 3) (q := 42) dX9_sign_41 (by decide) rfl ?_
        refine r_cV (q := 45) (As := [.int _]) wc_X9_143 rfl im_X9_refused se_X9_refused h_34.m rfl rfl (Nat.le_of_ble_eq_true rfl) (Nat.le_of_eq (Nat.zero_add _)) (Nat.le_of_eq (Nat.zero_add _)) dX9_sign_42 rfl rfl (s_X9_refused h_34 fun M_42 h_42 => ?_)
        refine r_goto (t := 59) dX9_sign_45 rfl ?_
        refine r_iret dX9_sign_59 ?_
        exact hQ _ h_42
    · have e : oSign (gA μ 0) (nI j) n b = (2, none) := by rw [oSign, if_neg ij, if_pos (bI_eq0.mp c22)]
      rw [e] at hQ
      refine r_aload_n (q := 26) dX9_sign_25 rfl rfl ?_
      refine r_iconst (v := nI 2) (q := 27) dX9_sign_26 (by decide) rfl ?_
      refine r_cV (q := 30) (As := [.int _]) wc_X9_96 rfl im_X9_no se_X9_no h_1.m rfl rfl (Nat.le_of_ble_eq_true rfl) (Nat.le_of_eq (Nat.zero_add _)) (Nat.le_of_eq (Nat.zero_add _)) dX9_sign_27 rfl rfl (s_X9_no h_1 fun M_27 h_27 => ?_)
      refine r_iret dX9_sign_30 ?_
      exact hQ _ h_27
  · have e : oSign (gA μ 0) l n b = (1, none) := if_pos (bI_eq0.mp c8)
    rw [e] at hQ
    refine r_aload_n (q := 12) dX9_sign_11 rfl rfl ?_
    refine r_iconst (v := nI 1) (q := 13) dX9_sign_12 (by decide) rfl ?_
    refine r_cV (q := 16) (As := [.int _]) wc_X9_96 rfl im_X9_no se_X9_no h_1.m rfl rfl (Nat.le_of_ble_eq_true rfl) (Nat.le_of_eq (Nat.zero_add _)) (Nat.le_of_eq (Nat.zero_add _)) dX9_sign_13 rfl rfl (s_X9_no h_1 fun M_13 h_13 => ?_)
    refine r_iret dX9_sign_16 ?_
    exact hQ _ h_13
theorem s_X9_unsign (h : RM G Λ ρ μ M) (hz : gN μ 5 = nI z) (hz8 : z ≤ 8) {l : Int32} (hQ : ∀ M', RM G Λ ρ (mRes μ (oUns (gA μ 0) l) 2 (tellF (gA μ 0) l.toNatClampNeg 0 0) z) M' → Q (some (.int (mVal (oUns (gA μ 0) l) (nI (mCn (tellF (gA μ 0) l.toNatClampNeg 0 0) 0 7))))) M')  : MS G yX9_unsign cX9_unsign 2 (some .int) (d + 3) 0 0 [.ref (Λ (10, 0, 0)), .int l] M Q QX := by
  refine MS.of (by decide) (by simp [Value.category]) (Nat.le_of_ble_eq_true rfl) ?_
  show AW _ (_, _, _, _, _, _, _, _, _) _ _ _ _ [some _, some _] _ _
  refine r_aload_n (q := 1) dX9_unsign_0 rfl rfl ?_
  refine r_cV (q := 4) (As := []) wc_X9_130 rfl im_X9_begins se_X9_begins h.m rfl rfl (Nat.le_of_ble_eq_true rfl) (Nat.le_of_eq (Nat.zero_add _)) (Nat.le_of_eq (Nat.zero_add _)) dX9_unsign_1 rfl rfl (x_begins h fun M_1 h_1 => ?_)
  refine r_iload_n (q := 5) dX9_unsign_4 rfl rfl ?_
  refine r_cS (q := 8) (As := [.int _]) wc_X9_133 st_X9_isLine rfl (Nat.le_of_ble_eq_true rfl) (Nat.le_of_eq (Nat.zero_add _)) (Nat.le_of_eq (Nat.zero_add _)) dX9_unsign_5 rfl rfl (s_X9_isLine ?_)
  refine r_if_ne (t := 17) (q := 11) dX9_unsign_8 rfl rfl (fun c8 => ?_) (fun c8 => ?_)
  · obtain ⟨j, hj, rfl⟩ := isL_t (bI_ne c8)
    have ij : ¬ isL (nI j) = false := by rw [isL_n hj]; decide
    have e : oUns (gA μ 0) (nI j) = mFl (mrNo (gA μ 0) j) := by rw [oUns, if_neg ij, nI_c7 (by omega)]
    rw [e, nI_c7 (show j < 2 ^ 31 by omega)] at hQ
    refine r_aload_n (q := 18) dX9_unsign_17 rfl rfl ?_
    refine r_iload_n (q := 19) dX9_unsign_18 rfl rfl ?_
    refine r_cV (q := 22) (As := [.int _]) wc_X9_153 rfl im_X9_hasNoSign se_X9_hasNoSign h_1.m rfl rfl (Nat.le_of_ble_eq_true rfl) (Nat.le_of_eq (Nat.zero_add _)) (Nat.le_of_eq (Nat.zero_add _)) dX9_unsign_19 rfl rfl (s_X9_hasNoSign h_1 hj fun M_19 h_19 => ?_)
    rw [gA_bg] at h_19 ⊢
    refine r_if_eq (t := 33) (q := 25) dX9_unsign_22 rfl rfl (fun c22 => ?_) (fun c22 => ?_)
    · have e0 := none_of c22
      rw [e0] at h_19 hQ
      refine r_aload_n (q := 34) dX9_unsign_33 rfl rfl ?_
      refine r_aload_n (q := 35) dX9_unsign_34 rfl rfl ?_
      refine r_iload_n (q := 36) dX9_unsign_35 rfl rfl ?_
      refine r_cV (q := 39) (As := [.int _]) wc_X9_156 rfl im_X9_unsigns se_X9_unsigns h_19.m rfl rfl (Nat.le_of_ble_eq_true rfl) (Nat.le_of_eq (Nat.zero_add _)) (Nat.le_of_eq (Nat.zero_add _)) dX9_unsign_36 rfl rfl (s_X9_unsigns (RM.toA h_19 0) hj fun M_36 h_36 => ?_)
      rw [show gA (rfM (bgM μ) none) 0 = gA μ 0 from gA_bg] at h_36 ⊢
      refine r_cV (q := 42) (As := [.int _]) wc_X9_150 rfl im_X9_keeps se_X9_keeps h_36.m rfl rfl (Nat.le_of_ble_eq_true rfl) (Nat.le_of_eq (Nat.zero_add _)) (Nat.le_of_eq (Nat.zero_add _)) dX9_unsign_39 rfl rfl (s_X9_keeps (z := z) h_36 hz hz8 fun M_39 h_39 => ?_)
      refine r_iret dX9_unsign_42 ?_
      exact hQ _ h_39
    · obtain ⟨x, e0⟩ := some_of c22
      rw [e0] at h_19 hQ
      refine r_aload_n (q := 26) dX9_unsign_25 rfl rfl ?_
      refine r_iconst (v := nI 2) (q := 27) dX9_unsign_26 (by decide) rfl ?_
      refine r_cV (q := 30) (As := [.int _]) wc_X9_143 rfl im_X9_refused se_X9_refused h_19.m rfl rfl (Nat.le_of_ble_eq_true rfl) (Nat.le_of_eq (Nat.zero_add _)) (Nat.le_of_eq (Nat.zero_add _)) dX9_unsign_27 rfl rfl (s_X9_refused h_19 fun M_27 h_27 => ?_)
      refine r_goto (t := 42) dX9_unsign_30 rfl ?_
      refine r_iret dX9_unsign_42 ?_
      exact hQ _ h_27
  · have e : oUns (gA μ 0) l = (1, none) := if_pos (bI_eq0.mp c8)
    rw [e] at hQ
    refine r_aload_n (q := 12) dX9_unsign_11 rfl rfl ?_
    refine r_iconst (v := nI 1) (q := 13) dX9_unsign_12 (by decide) rfl ?_
    refine r_cV (q := 16) (As := [.int _]) wc_X9_96 rfl im_X9_no se_X9_no h_1.m rfl rfl (Nat.le_of_ble_eq_true rfl) (Nat.le_of_eq (Nat.zero_add _)) (Nat.le_of_eq (Nat.zero_add _)) dX9_unsign_13 rfl rfl (s_X9_no h_1 fun M_13 h_13 => ?_)
    refine r_iret dX9_unsign_16 ?_
    exact hQ _ h_13
theorem s_X9_priority (h : RM G Λ ρ μ M) (hz : gN μ 5 = nI z) (hz8 : z ≤ 8) {l p : Int32} (hQ : ∀ M', RM G Λ ρ (mRes μ (oPri (gA μ 0) l p) 3 (uL (gA μ 0) l.toNatClampNeg 2 p.toNatClampNeg) z) M' → Q (some (.int (mVal (oPri (gA μ 0) l p) (nI (lF (gA μ 0) l.toNatClampNeg 2))))) M')  : MS G yX9_priority cX9_priority 3 (some .int) (d + 3) 0 0 [.ref (Λ (10, 0, 0)), .int l, .int p] M Q QX := by
  refine MS.of (by decide) (by simp [Value.category]) (Nat.le_of_ble_eq_true rfl) ?_
  show AW _ (_, _, _, _, _, _, _, _, _) _ _ _ _ [some _, some _, some _] _ _
  refine r_aload_n (q := 1) dX9_priority_0 rfl rfl ?_
  refine r_cV (q := 4) (As := []) wc_X9_130 rfl im_X9_begins se_X9_begins h.m rfl rfl (Nat.le_of_ble_eq_true rfl) (Nat.le_of_eq (Nat.zero_add _)) (Nat.le_of_eq (Nat.zero_add _)) dX9_priority_1 rfl rfl (x_begins h fun M_1 h_1 => ?_)
  refine r_iload_n (q := 5) dX9_priority_4 rfl rfl ?_
  refine r_cS (q := 8) (As := [.int _]) wc_X9_133 st_X9_isLine rfl (Nat.le_of_ble_eq_true rfl) (Nat.le_of_eq (Nat.zero_add _)) (Nat.le_of_eq (Nat.zero_add _)) dX9_priority_5 rfl rfl (s_X9_isLine ?_)
  refine r_if_ne (t := 17) (q := 11) dX9_priority_8 rfl rfl (fun c8 => ?_) (fun c8 => ?_)
  · obtain ⟨j, hj, rfl⟩ := isL_t (bI_ne c8)
    have ij : ¬ isL (nI j) = false := by rw [isL_n hj]; decide
    refine r_iload_n (q := 18) dX9_priority_17 rfl rfl ?_
    refine r_cS (q := 21) (As := [.int _]) wc_X9_159 st_X9_isPriority rfl (Nat.le_of_ble_eq_true rfl) (Nat.le_of_eq (Nat.zero_add _)) (Nat.le_of_eq (Nat.zero_add _)) dX9_priority_18 rfl rfl (s_X9_isPriority ?_)
    refine r_if_ne (t := 30) (q := 24) dX9_priority_21 rfl rfl (fun c21 => ?_) (fun c21 => ?_)
    · obtain ⟨k, hk1, hk9, rfl⟩ := inI_t (by decide) (by decide) (bI_ne c21)
      have ik : ¬ inI (nI k) (nI 0) (nI 9) = false := fun g => c21 (bI_eq0.mpr g)
      have e : oPri (gA μ 0) (nI j) (nI k) = mFl (mrPri (gA μ 0) j k) := by rw [oPri, if_neg ij, if_neg ik, nI_c7 (by omega), nI_c7 (by omega)]
      rw [e, nI_c7 (show j < 2 ^ 31 by omega), nI_c7 (show k < 2 ^ 31 by omega)] at hQ
      refine r_aload_n (q := 31) dX9_priority_30 rfl rfl ?_
      refine r_iload_n (q := 32) dX9_priority_31 rfl rfl ?_
      refine r_iload_n (q := 33) dX9_priority_32 rfl rfl ?_
      refine r_cV (q := 36) (As := [.int _, .int _]) wc_X9_162 rfl im_X9_isRefusedPriority se_X9_isRefusedPriority h_1.m rfl rfl (Nat.le_of_ble_eq_true rfl) (Nat.le_of_eq (Nat.zero_add _)) (Nat.le_of_eq (Nat.zero_add _)) dX9_priority_33 rfl rfl (s_X9_isRefusedPriority h_1 hj (by omega) fun M_33 h_33 => ?_)
      rw [gA_bg] at h_33 ⊢
      refine r_if_eq (t := 47) (q := 39) dX9_priority_36 rfl rfl (fun c36 => ?_) (fun c36 => ?_)
      · have e0 := none_of c36
        rw [e0] at h_33 hQ
        refine r_aload_n (q := 48) dX9_priority_47 rfl rfl ?_
        refine r_aload_n (q := 49) dX9_priority_48 rfl rfl ?_
        refine r_iload_n (q := 50) dX9_priority_49 rfl rfl ?_
        refine r_iload_n (q := 51) dX9_priority_50 rfl rfl ?_
        refine r_cV (q := 54) (As := [.int _, .int _]) wc_X9_165 rfl im_X9_orders se_X9_orders h_33.m rfl rfl (Nat.le_of_ble_eq_true rfl) (Nat.le_of_eq (Nat.zero_add _)) (Nat.le_of_eq (Nat.zero_add _)) dX9_priority_51 rfl rfl (s_X9_orders (RM.toA h_33 0) hj (by omega) fun M_51 h_51 => ?_)
        rw [show gA (rfM (bgM μ) none) 0 = gA μ 0 from gA_bg] at h_51 ⊢
        refine r_cV (q := 57) (As := [.int _]) wc_X9_150 rfl im_X9_keeps se_X9_keeps h_51.m rfl rfl (Nat.le_of_ble_eq_true rfl) (Nat.le_of_eq (Nat.zero_add _)) (Nat.le_of_eq (Nat.zero_add _)) dX9_priority_54 rfl rfl (s_X9_keeps (z := z) h_51 hz hz8 fun M_54 h_54 => ?_)
        refine r_iret dX9_priority_57 ?_
        exact hQ _ h_54
      · obtain ⟨x, e0⟩ := some_of c36
        rw [e0] at h_33 hQ
        refine r_aload_n (q := 40) dX9_priority_39 rfl rfl ?_
        refine r_iconst (v := nI 3) (q := 41) dX9_priority_40 (by decide) rfl ?_
        refine r_cV (q := 44) (As := [.int _]) wc_X9_143 rfl im_X9_refused se_X9_refused h_33.m rfl rfl (Nat.le_of_ble_eq_true rfl) (Nat.le_of_eq (Nat.zero_add _)) (Nat.le_of_eq (Nat.zero_add _)) dX9_priority_41 rfl rfl (s_X9_refused h_33 fun M_41 h_41 => ?_)
        refine r_goto (t := 57) dX9_priority_44 rfl ?_
        refine r_iret dX9_priority_57 ?_
        exact hQ _ h_41
    · have e : oPri (gA μ 0) (nI j) p = (2, none) := by rw [oPri, if_neg ij, if_pos (bI_eq0.mp c21)]
      rw [e] at hQ
      refine r_aload_n (q := 25) dX9_priority_24 rfl rfl ?_
      refine r_iconst (v := nI 2) (q := 26) dX9_priority_25 (by decide) rfl ?_
      refine r_cV (q := 29) (As := [.int _]) wc_X9_96 rfl im_X9_no se_X9_no h_1.m rfl rfl (Nat.le_of_ble_eq_true rfl) (Nat.le_of_eq (Nat.zero_add _)) (Nat.le_of_eq (Nat.zero_add _)) dX9_priority_26 rfl rfl (s_X9_no h_1 fun M_26 h_26 => ?_)
      refine r_iret dX9_priority_29 ?_
      exact hQ _ h_26
  · have e : oPri (gA μ 0) l p = (1, none) := if_pos (bI_eq0.mp c8)
    rw [e] at hQ
    refine r_aload_n (q := 12) dX9_priority_11 rfl rfl ?_
    refine r_iconst (v := nI 1) (q := 13) dX9_priority_12 (by decide) rfl ?_
    refine r_cV (q := 16) (As := [.int _]) wc_X9_96 rfl im_X9_no se_X9_no h_1.m rfl rfl (Nat.le_of_ble_eq_true rfl) (Nat.le_of_eq (Nat.zero_add _)) (Nat.le_of_eq (Nat.zero_add _)) dX9_priority_13 rfl rfl (s_X9_no h_1 fun M_13 h_13 => ?_)
    refine r_iret dX9_priority_16 ?_
    exact hQ _ h_13
theorem s_X9_mute (h : RM G Λ ρ μ M) (hz : gN μ 5 = nI z) (hz8 : z ≤ 8) {l p : Int32} (hQ : ∀ M', RM G Λ ρ (mRes μ (oMu (gA μ 0) l p) 3 (uL (gA μ 0) l.toNatClampNeg 5 p.toNatClampNeg) z) M' → Q (some (.int (mVal (oMu (gA μ 0) l p) (nI (mCn (uL (gA μ 0) l.toNatClampNeg 5 p.toNatClampNeg) 5 7))))) M')  : MS G yX9_mute cX9_mute 3 (some .int) (d + 3) 0 0 [.ref (Λ (10, 0, 0)), .int l, .int p] M Q QX := by
  refine MS.of (by decide) (by simp [Value.category]) (Nat.le_of_ble_eq_true rfl) ?_
  show AW _ (_, _, _, _, _, _, _, _, _) _ _ _ _ [some _, some _, some _] _ _
  refine r_aload_n (q := 1) dX9_mute_0 rfl rfl ?_
  refine r_cV (q := 4) (As := []) wc_X9_130 rfl im_X9_begins se_X9_begins h.m rfl rfl (Nat.le_of_ble_eq_true rfl) (Nat.le_of_eq (Nat.zero_add _)) (Nat.le_of_eq (Nat.zero_add _)) dX9_mute_1 rfl rfl (x_begins h fun M_1 h_1 => ?_)
  refine r_iload_n (q := 5) dX9_mute_4 rfl rfl ?_
  refine r_cS (q := 8) (As := [.int _]) wc_X9_133 st_X9_isLine rfl (Nat.le_of_ble_eq_true rfl) (Nat.le_of_eq (Nat.zero_add _)) (Nat.le_of_eq (Nat.zero_add _)) dX9_mute_5 rfl rfl (s_X9_isLine ?_)
  refine r_if_ne (t := 17) (q := 11) dX9_mute_8 rfl rfl (fun c8 => ?_) (fun c8 => ?_)
  · obtain ⟨j, hj, rfl⟩ := isL_t (bI_ne c8)
    have ij : ¬ isL (nI j) = false := by rw [isL_n hj]; decide
    refine r_iload_n (q := 18) dX9_mute_17 rfl rfl ?_
    refine r_cS (q := 21) (As := [.int _]) wc_X9_220 st_X9_areHours rfl (Nat.le_of_ble_eq_true rfl) (Nat.le_of_eq (Nat.zero_add _)) (Nat.le_of_eq (Nat.zero_add _)) dX9_mute_18 rfl rfl (s_X9_areHours ?_)
    refine r_if_ne (t := 30) (q := 24) dX9_mute_21 rfl rfl (fun c21 => ?_) (fun c21 => ?_)
    · obtain ⟨k, hk1, hk9, rfl⟩ := inI_t (by decide) (by decide) (bI_ne c21)
      have ik : ¬ inI (nI k) (nI 1) (nI 9) = false := fun g => c21 (bI_eq0.mpr g)
      have e : oMu (gA μ 0) (nI j) (nI k) = mFl (mrMu (gA μ 0) j) := by rw [oMu, if_neg ij, if_neg ik, nI_c7 (by omega)]
      rw [e, nI_c7 (show j < 2 ^ 31 by omega), nI_c7 (show k < 2 ^ 31 by omega)] at hQ
      refine r_aload_n (q := 31) dX9_mute_30 rfl rfl ?_
      refine r_iload_n (q := 32) dX9_mute_31 rfl rfl ?_
      refine r_cV (q := 35) (As := [.int _]) wc_X9_223 rfl im_X9_isRefusedMute se_X9_isRefusedMute h_1.m rfl rfl (Nat.le_of_ble_eq_true rfl) (Nat.le_of_eq (Nat.zero_add _)) (Nat.le_of_eq (Nat.zero_add _)) dX9_mute_32 rfl rfl (s_X9_isRefusedMute h_1 hj fun M_32 h_32 => ?_)
      rw [gA_bg] at h_32 ⊢
      refine r_if_eq (t := 46) (q := 38) dX9_mute_35 rfl rfl (fun c35 => ?_) (fun c35 => ?_)
      · have e0 := none_of c35
        rw [e0] at h_32 hQ
        refine r_aload_n (q := 47) dX9_mute_46 rfl rfl ?_
        refine r_aload_n (q := 48) dX9_mute_47 rfl rfl ?_
        refine r_iload_n (q := 49) dX9_mute_48 rfl rfl ?_
        refine r_iload_n (q := 50) dX9_mute_49 rfl rfl ?_
        refine r_cV (q := 53) (As := [.int _, .int _]) wc_X9_226 rfl im_X9_mutes se_X9_mutes h_32.m rfl rfl (Nat.le_of_ble_eq_true rfl) (Nat.le_of_eq (Nat.zero_add _)) (Nat.le_of_eq (Nat.zero_add _)) dX9_mute_50 rfl rfl (s_X9_mutes (RM.toA h_32 0) hj (by omega) fun M_50 h_50 => ?_)
        rw [show gA (rfM (bgM μ) none) 0 = gA μ 0 from gA_bg] at h_50 ⊢
        refine r_cV (q := 56) (As := [.int _]) wc_X9_150 rfl im_X9_keeps se_X9_keeps h_50.m rfl rfl (Nat.le_of_ble_eq_true rfl) (Nat.le_of_eq (Nat.zero_add _)) (Nat.le_of_eq (Nat.zero_add _)) dX9_mute_53 rfl rfl (s_X9_keeps (z := z) h_50 hz hz8 fun M_53 h_53 => ?_)
        refine r_iret dX9_mute_56 ?_
        exact hQ _ h_53
      · obtain ⟨x, e0⟩ := some_of c35
        rw [e0] at h_32 hQ
        refine r_aload_n (q := 39) dX9_mute_38 rfl rfl ?_
        refine r_iconst (v := nI 3) (q := 40) dX9_mute_39 (by decide) rfl ?_
        refine r_cV (q := 43) (As := [.int _]) wc_X9_143 rfl im_X9_refused se_X9_refused h_32.m rfl rfl (Nat.le_of_ble_eq_true rfl) (Nat.le_of_eq (Nat.zero_add _)) (Nat.le_of_eq (Nat.zero_add _)) dX9_mute_40 rfl rfl (s_X9_refused h_32 fun M_40 h_40 => ?_)
        refine r_goto (t := 56) dX9_mute_43 rfl ?_
        refine r_iret dX9_mute_56 ?_
        exact hQ _ h_40
    · have e : oMu (gA μ 0) (nI j) p = (2, none) := by rw [oMu, if_neg ij, if_pos (bI_eq0.mp c21)]
      rw [e] at hQ
      refine r_aload_n (q := 25) dX9_mute_24 rfl rfl ?_
      refine r_iconst (v := nI 2) (q := 26) dX9_mute_25 (by decide) rfl ?_
      refine r_cV (q := 29) (As := [.int _]) wc_X9_96 rfl im_X9_no se_X9_no h_1.m rfl rfl (Nat.le_of_ble_eq_true rfl) (Nat.le_of_eq (Nat.zero_add _)) (Nat.le_of_eq (Nat.zero_add _)) dX9_mute_26 rfl rfl (s_X9_no h_1 fun M_26 h_26 => ?_)
      refine r_iret dX9_mute_29 ?_
      exact hQ _ h_26
  · have e : oMu (gA μ 0) l p = (1, none) := if_pos (bI_eq0.mp c8)
    rw [e] at hQ
    refine r_aload_n (q := 12) dX9_mute_11 rfl rfl ?_
    refine r_iconst (v := nI 1) (q := 13) dX9_mute_12 (by decide) rfl ?_
    refine r_cV (q := 16) (As := [.int _]) wc_X9_96 rfl im_X9_no se_X9_no h_1.m rfl rfl (Nat.le_of_ble_eq_true rfl) (Nat.le_of_eq (Nat.zero_add _)) (Nat.le_of_eq (Nat.zero_add _)) dX9_mute_13 rfl rfl (s_X9_no h_1 fun M_13 h_13 => ?_)
    refine r_iret dX9_mute_16 ?_
    exact hQ _ h_13
theorem s_X9_platform (h : RM G Λ ρ μ M) (hz : gN μ 5 = nI z) (hz8 : z ≤ 8) {p dl ls : Int32} (hQ : ∀ M', RM G Λ ρ (mRes μ (oPla p dl ls) 3 (uP (uP (gA μ 0) p.toNatClampNeg 0 dl.toNatClampNeg) p.toNatClampNeg 1 ls.toNatClampNeg) z) M' → Q (some (.int (mVal (oPla p dl ls) (nI (mPc (uP (uP (gA μ 0) p.toNatClampNeg 0 dl.toNatClampNeg) p.toNatClampNeg 1 ls.toNatClampNeg) 4))))) M')  : MS G yX9_platform cX9_platform 4 (some .int) (d + 3) 0 0 [.ref (Λ (10, 0, 0)), .int p, .int dl, .int ls] M Q QX := by
  refine MS.of (by decide) (by simp [Value.category]) (Nat.le_of_ble_eq_true rfl) ?_
  show AW _ (_, _, _, _, _, _, _, _, _) _ _ _ _ [some _, some _, some _, some _] _ _
  refine r_aload_n (q := 1) dX9_platform_0 rfl rfl ?_
  refine r_cV (q := 4) (As := []) wc_X9_130 rfl im_X9_begins se_X9_begins h.m rfl rfl (Nat.le_of_ble_eq_true rfl) (Nat.le_of_eq (Nat.zero_add _)) (Nat.le_of_eq (Nat.zero_add _)) dX9_platform_1 rfl rfl (x_begins h fun M_1 h_1 => ?_)
  refine r_iload_n (q := 5) dX9_platform_4 rfl rfl ?_
  refine r_cS (q := 8) (As := [.int _]) wc_X9_171 st_X9_isPlatform rfl (Nat.le_of_ble_eq_true rfl) (Nat.le_of_eq (Nat.zero_add _)) (Nat.le_of_eq (Nat.zero_add _)) dX9_platform_5 rfl rfl (s_X9_isPlatform ?_)
  refine r_if_ne (t := 17) (q := 11) dX9_platform_8 rfl rfl (fun c8 => ?_) (fun c8 => ?_)
  · obtain ⟨j, hj, rfl⟩ := isP_t (bI_ne c8)
    have ij : ¬ isP (nI j) = false := fun g => c8 (bI_eq0.mpr g)
    refine r_iload_n (q := 18) dX9_platform_17 rfl rfl ?_
    refine r_iconst (v := nI 0) (q := 19) dX9_platform_18 (by decide) rfl ?_
    refine r_iconst (v := nI 5) (q := 20) dX9_platform_19 (by decide) rfl ?_
    refine r_cS (q := 23) (As := [.int _, .int _, .int _]) wc_X9_116 st_X9_in rfl (Nat.le_of_ble_eq_true rfl) (Nat.le_of_eq (Nat.zero_add _)) (Nat.le_of_eq (Nat.zero_add _)) dX9_platform_20 rfl rfl (s_X9_in ?_)
    refine r_if_eq (t := 50) (q := 26) dX9_platform_23 rfl rfl (fun c23 => ?_) (fun c23 => ?_)
    · have e : oPla (nI j) dl ls = (2, none) := by rw [oPla, if_neg ij, if_pos (bI_eq0.mp c23)]
      rw [e] at hQ
      refine r_aload_n (q := 51) dX9_platform_50 rfl rfl ?_
      refine r_iconst (v := nI 2) (q := 52) dX9_platform_51 (by decide) rfl ?_
      refine r_cV (q := 55) (As := [.int _]) wc_X9_96 rfl im_X9_no se_X9_no h_1.m rfl rfl (Nat.le_of_ble_eq_true rfl) (Nat.le_of_eq (Nat.zero_add _)) (Nat.le_of_eq (Nat.zero_add _)) dX9_platform_52 rfl rfl (s_X9_no h_1 fun M_52 h_52 => ?_)
      refine r_iret dX9_platform_55 ?_
      exact hQ _ h_52
    · obtain ⟨k, hk1, hk9, rfl⟩ := inI_t (by decide) (by decide) (bI_ne c23)
      have ik : ¬ inI (nI k) (nI 0) (nI 5) = false := fun g => c23 (bI_eq0.mpr g)
      refine r_iload_n (q := 27) dX9_platform_26 rfl rfl ?_
      refine r_iconst (v := nI 0) (q := 28) dX9_platform_27 (by decide) rfl ?_
      refine r_bipush (v := nI 127) (q := 30) dX9_platform_28 (by decide) rfl ?_
      refine r_cS (q := 33) (As := [.int _, .int _, .int _]) wc_X9_116 st_X9_in rfl (Nat.le_of_ble_eq_true rfl) (Nat.le_of_eq (Nat.zero_add _)) (Nat.le_of_eq (Nat.zero_add _)) dX9_platform_30 rfl rfl (s_X9_in ?_)
      refine r_if_eq (t := 50) (q := 36) dX9_platform_33 rfl rfl (fun c33 => ?_) (fun c33 => ?_)
      · have e : oPla (nI j) (nI k) ls = (2, none) := by rw [oPla, if_neg ij, if_neg ik, if_pos (bI_eq0.mp c33)]
        rw [e] at hQ
        refine r_aload_n (q := 51) dX9_platform_50 rfl rfl ?_
        refine r_iconst (v := nI 2) (q := 52) dX9_platform_51 (by decide) rfl ?_
        refine r_cV (q := 55) (As := [.int _]) wc_X9_96 rfl im_X9_no se_X9_no h_1.m rfl rfl (Nat.le_of_ble_eq_true rfl) (Nat.le_of_eq (Nat.zero_add _)) (Nat.le_of_eq (Nat.zero_add _)) dX9_platform_52 rfl rfl (s_X9_no h_1 fun M_52 h_52 => ?_)
        refine r_iret dX9_platform_55 ?_
        exact hQ _ h_52
      · obtain ⟨k2, hk3, hk4, rfl⟩ := inI_t (by decide) (by decide) (bI_ne c33)
        have ik2 : ¬ inI (nI k2) (nI 0) (nI 127) = false := fun g => c33 (bI_eq0.mpr g)
        have e : oPla (nI j) (nI k) (nI k2) = no := by rw [oPla, if_neg ij, if_neg ik, if_neg ik2]
        rw [e, nI_c7 (show j < 2 ^ 31 by omega), nI_c7 (show k < 2 ^ 31 by omega), nI_c7 (show k2 < 2 ^ 31 by omega)] at hQ
        refine r_aload_n (q := 37) dX9_platform_36 rfl rfl ?_
        refine r_aload_n (q := 38) dX9_platform_37 rfl rfl ?_
        refine r_iload_n (q := 39) dX9_platform_38 rfl rfl ?_
        refine r_iload_n (q := 40) dX9_platform_39 rfl rfl ?_
        refine r_iload_n (q := 41) dX9_platform_40 rfl rfl ?_
        refine r_cV (q := 44) (As := [.int _, .int _, .int _]) wc_X9_174 rfl im_X9_lays se_X9_lays h_1.m rfl rfl (Nat.le_of_ble_eq_true rfl) (Nat.le_of_eq (Nat.zero_add _)) (Nat.le_of_eq (Nat.zero_add _)) dX9_platform_41 rfl rfl (s_X9_lays (RM.toA h_1 0) hj hk9 (by omega) fun M_41 h_41 => ?_)
        rw [gA_bg] at h_41 ⊢
        refine r_cV (q := 47) (As := [.int _]) wc_X9_150 rfl im_X9_keeps se_X9_keeps h_41.m rfl rfl (Nat.le_of_ble_eq_true rfl) (Nat.le_of_eq (Nat.zero_add _)) (Nat.le_of_eq (Nat.zero_add _)) dX9_platform_44 rfl rfl (s_X9_keeps (z := z) h_41 hz hz8 fun M_44 h_44 => ?_)
        refine r_goto (t := 55) dX9_platform_47 rfl ?_
        refine r_iret dX9_platform_55 ?_
        exact hQ _ h_44
  · have e : oPla p dl ls = (1, none) := if_pos (bI_eq0.mp c8)
    rw [e] at hQ
    refine r_aload_n (q := 12) dX9_platform_11 rfl rfl ?_
    refine r_iconst (v := nI 1) (q := 13) dX9_platform_12 (by decide) rfl ?_
    refine r_cV (q := 16) (As := [.int _]) wc_X9_96 rfl im_X9_no se_X9_no h_1.m rfl rfl (Nat.le_of_ble_eq_true rfl) (Nat.le_of_eq (Nat.zero_add _)) (Nat.le_of_eq (Nat.zero_add _)) dX9_platform_13 rfl rfl (s_X9_no h_1 fun M_13 h_13 => ?_)
    refine r_iret dX9_platform_16 ?_
    exact hQ _ h_13
theorem mrHu_0 {F : Nat → Nat} {l t k : Nat} (h : mrHu F l t k = none) : ¬ lF F t 0 = 0 ∧ lF F l 5 = 0 ∧ lF F l 9 = 0 ∧ k * mSt F t ≤ lF F l 3 := by
  unfold mrHu at h
  by_cases c1 : lF F t 0 = 0
  · rw [if_pos c1] at h; cases h
  · rw [if_neg c1] at h
    by_cases c2 : 0 < lF F l 5
    · rw [if_pos c2] at h; cases h
    · rw [if_neg c2] at h
      by_cases c3 : 0 < lF F l 9
      · rw [if_pos c3] at h; cases h
      · rw [if_neg c3] at h
        by_cases c4 : lF F l 3 < k * mSt F t
        · rw [if_pos c4] at h; cases h
        · exact ⟨c1, by omega, by omega, by omega⟩
theorem mrFi_0 {F : Nat → Nat} {l : Nat} (h : mrFi F l = none) : 2 * lF F l 5 ≤ lF F l 4 := by
  unfold mrFi at h
  by_cases c1 : lF F l 5 = 0
  · rw [if_pos c1] at h; cases h
  · rw [if_neg c1] at h
    by_cases c2 : lF F l 4 < 2 * lF F l 5
    · rw [if_pos c2] at h; cases h
    · omega
theorem s_X9_whistle (h : RM G Λ ρ μ M) (hz : gN μ 5 = nI z) (hz8 : z ≤ 8) {l : Int32} (hbw : BW (gA μ 0)) (hcn : CN (gA μ 0)) (hQ : ∀ M', RM G Λ ρ (mRes μ (oWhi (gA μ 0) l) 2 (whF (gA μ 0) l.toNatClampNeg) z) M' → Q (some (.int (mVal (oWhi (gA μ 0) l) (nI (lF (gA μ 0) l.toNatClampNeg 3 - mSt (gA μ 0) l.toNatClampNeg))))) M')  : MS G yX9_whistle cX9_whistle 2 (some .int) (d + 4) 0 0 [.ref (Λ (10, 0, 0)), .int l] M Q QX := by
  refine MS.of (by decide) (by simp [Value.category]) (Nat.le_of_ble_eq_true rfl) ?_
  show AW _ (_, _, _, _, _, _, _, _, _) _ _ _ _ [some _, some _] _ _
  refine r_aload_n (q := 1) dX9_whistle_0 rfl rfl ?_
  refine r_cV (q := 4) (As := []) wc_X9_130 rfl im_X9_begins se_X9_begins h.m rfl rfl (Nat.le_of_ble_eq_true rfl) (Nat.le_of_eq (Nat.zero_add _)) (Nat.le_of_eq (Nat.zero_add _)) dX9_whistle_1 rfl rfl (x_begins h fun M_1 h_1 => ?_)
  refine r_iload_n (q := 5) dX9_whistle_4 rfl rfl ?_
  refine r_cS (q := 8) (As := [.int _]) wc_X9_133 st_X9_isLine rfl (Nat.le_of_ble_eq_true rfl) (Nat.le_of_eq (Nat.zero_add _)) (Nat.le_of_eq (Nat.zero_add _)) dX9_whistle_5 rfl rfl (s_X9_isLine ?_)
  refine r_if_ne (t := 17) (q := 11) dX9_whistle_8 rfl rfl (fun c8 => ?_) (fun c8 => ?_)
  · obtain ⟨j, hj, rfl⟩ := isL_t (bI_ne c8)
    have ij : ¬ isL (nI j) = false := by rw [isL_n hj]; decide
    have e : oWhi (gA μ 0) (nI j) = mFl (mrHu (gA μ 0) j j 1) := by rw [oWhi, if_neg ij, nI_c7 (by omega)]
    rw [e, nI_c7 (show j < 2 ^ 31 by omega)] at hQ
    refine r_aload_n (q := 18) dX9_whistle_17 rfl rfl ?_
    refine r_iload_n (q := 19) dX9_whistle_18 rfl rfl ?_
    refine r_iload_n (q := 20) dX9_whistle_19 rfl rfl ?_
    refine r_iconst (v := nI 1) (q := 21) dX9_whistle_20 (by decide) rfl ?_
    refine r_cV (q := 24) (As := [.int _, .int _, .int _]) wc_X9_196 rfl im_X9_isHushed se_X9_isHushed h_1.m rfl rfl (Nat.le_of_ble_eq_true rfl) (Nat.le_of_eq (Nat.zero_add _)) (Nat.le_of_eq (Nat.zero_add _)) dX9_whistle_21 rfl rfl (s_X9_isHushed h_1 hj hj (by rw [gA_bg]; exact hbw j hj) (by decide) fun M_21 h_21 => ?_)
    rw [gA_bg] at h_21 ⊢
    refine r_if_eq (t := 35) (q := 27) dX9_whistle_24 rfl rfl (fun c24 => ?_) (fun c24 => ?_)
    · have e0 := none_of c24
      have e0b := mrHu_0 e0
      rw [e0] at h_21 hQ
      refine r_aload_n (q := 36) dX9_whistle_35 rfl rfl ?_
      refine r_aload_n (q := 37) dX9_whistle_36 rfl rfl ?_
      refine r_iload_n (q := 38) dX9_whistle_37 rfl rfl ?_
      refine r_cV (q := 41) (As := [.int _]) wc_X9_199 rfl im_X9_whistles se_X9_whistles h_21.m rfl rfl (Nat.le_of_ble_eq_true rfl) (Nat.le_of_eq (Nat.zero_add _)) (Nat.le_of_eq (Nat.zero_add _)) dX9_whistle_38 rfl rfl (s_X9_whistles (F := gA μ 0) (by rw [← gA_bg, sA_self]; exact h_21) hj (hbw j hj) (by omega) hcn fun M_38 h_38 => ?_)
      refine r_cV (q := 44) (As := [.int _]) wc_X9_150 rfl im_X9_keeps se_X9_keeps h_38.m rfl rfl (Nat.le_of_ble_eq_true rfl) (Nat.le_of_eq (Nat.zero_add _)) (Nat.le_of_eq (Nat.zero_add _)) dX9_whistle_41 rfl rfl (s_X9_keeps (z := z) h_38 hz hz8 fun M_41 h_41 => ?_)
      refine r_iret dX9_whistle_44 ?_
      exact hQ _ h_41
    · obtain ⟨x, e0⟩ := some_of c24
      rw [e0] at h_21 hQ
      refine r_aload_n (q := 28) dX9_whistle_27 rfl rfl ?_
      refine r_iconst (v := nI 2) (q := 29) dX9_whistle_28 (by decide) rfl ?_
      refine r_cV (q := 32) (As := [.int _]) wc_X9_143 rfl im_X9_refused se_X9_refused h_21.m rfl rfl (Nat.le_of_ble_eq_true rfl) (Nat.le_of_eq (Nat.zero_add _)) (Nat.le_of_eq (Nat.zero_add _)) dX9_whistle_29 rfl rfl (s_X9_refused h_21 fun M_29 h_29 => ?_)
      refine r_goto (t := 44) dX9_whistle_32 rfl ?_
      refine r_iret dX9_whistle_44 ?_
      exact hQ _ h_29
  · have e : oWhi (gA μ 0) l = (1, none) := if_pos (bI_eq0.mp c8)
    rw [e] at hQ
    refine r_aload_n (q := 12) dX9_whistle_11 rfl rfl ?_
    refine r_iconst (v := nI 1) (q := 13) dX9_whistle_12 (by decide) rfl ?_
    refine r_cV (q := 16) (As := [.int _]) wc_X9_96 rfl im_X9_no se_X9_no h_1.m rfl rfl (Nat.le_of_ble_eq_true rfl) (Nat.le_of_eq (Nat.zero_add _)) (Nat.le_of_eq (Nat.zero_add _)) dX9_whistle_13 rfl rfl (s_X9_no h_1 fun M_13 h_13 => ?_)
    refine r_iret dX9_whistle_16 ?_
    exact hQ _ h_13
theorem s_X9_lie (h : RM G Λ ρ μ M) (hz : gN μ 5 = nI z) (hz8 : z ≤ 8) {l t : Int32} (hbw : BW (gA μ 0)) (hcn : CN (gA μ 0)) (hQ : ∀ M', RM G Λ ρ (mRes μ (oLi (gA μ 0) l t) 3 (liF (gA μ 0) l.toNatClampNeg t.toNatClampNeg) z) M' → Q (some (.int (mVal (oLi (gA μ 0) l t) (nI (lF (gA μ 0) l.toNatClampNeg 3 - 2 * mSt (gA μ 0) t.toNatClampNeg))))) M')  : MS G yX9_lie cX9_lie 3 (some .int) (d + 4) 0 0 [.ref (Λ (10, 0, 0)), .int l, .int t] M Q QX := by
  refine MS.of (by decide) (by simp [Value.category]) (Nat.le_of_ble_eq_true rfl) ?_
  show AW _ (_, _, _, _, _, _, _, _, _) _ _ _ _ [some _, some _, some _] _ _
  refine r_aload_n (q := 1) dX9_lie_0 rfl rfl ?_
  refine r_cV (q := 4) (As := []) wc_X9_130 rfl im_X9_begins se_X9_begins h.m rfl rfl (Nat.le_of_ble_eq_true rfl) (Nat.le_of_eq (Nat.zero_add _)) (Nat.le_of_eq (Nat.zero_add _)) dX9_lie_1 rfl rfl (x_begins h fun M_1 h_1 => ?_)
  refine r_iload_n (q := 5) dX9_lie_4 rfl rfl ?_
  refine r_cS (q := 8) (As := [.int _]) wc_X9_133 st_X9_isLine rfl (Nat.le_of_ble_eq_true rfl) (Nat.le_of_eq (Nat.zero_add _)) (Nat.le_of_eq (Nat.zero_add _)) dX9_lie_5 rfl rfl (s_X9_isLine ?_)
  refine r_if_eq (t := 18) (q := 11) dX9_lie_8 rfl rfl (fun c8 => ?_) (fun c8 => ?_)
  · have e : oLi (gA μ 0) l t = (1, none) := if_pos (bI_eq0.mp c8)
    rw [e] at hQ
    refine r_aload_n (q := 19) dX9_lie_18 rfl rfl ?_
    refine r_iconst (v := nI 1) (q := 20) dX9_lie_19 (by decide) rfl ?_
    refine r_cV (q := 23) (As := [.int _]) wc_X9_96 rfl im_X9_no se_X9_no h_1.m rfl rfl (Nat.le_of_ble_eq_true rfl) (Nat.le_of_eq (Nat.zero_add _)) (Nat.le_of_eq (Nat.zero_add _)) dX9_lie_20 rfl rfl (s_X9_no h_1 fun M_20 h_20 => ?_)
    refine r_iret dX9_lie_23 ?_
    exact hQ _ h_20
  · obtain ⟨j, hj, rfl⟩ := isL_t (bI_ne c8)
    have ij : ¬ isL (nI j) = false := by rw [isL_n hj]; decide
    refine r_iload_n (q := 12) dX9_lie_11 rfl rfl ?_
    refine r_cS (q := 15) (As := [.int _]) wc_X9_133 st_X9_isLine rfl (Nat.le_of_ble_eq_true rfl) (Nat.le_of_eq (Nat.zero_add _)) (Nat.le_of_eq (Nat.zero_add _)) dX9_lie_12 rfl rfl (s_X9_isLine ?_)
    refine r_if_ne (t := 24) (q := 18) dX9_lie_15 rfl rfl (fun c15 => ?_) (fun c15 => ?_)
    · obtain ⟨t9, ht9, rfl⟩ := isL_t (bI_ne c15)
      have it9 : ¬ isL (nI t9) = false := by rw [isL_n ht9]; decide
      refine r_iload_n (q := 25) dX9_lie_24 rfl rfl ?_
      refine r_iload_n (q := 26) dX9_lie_25 rfl rfl ?_
      refine r_icmp_ne (t := 35) (q := 29) dX9_lie_26 rfl rfl (fun c26 => ?_) (fun c26 => ?_)
      · have e : oLi (gA μ 0) (nI j) (nI t9) = mFl (mrHu (gA μ 0) j t9 2) := by rw [oLi, if_neg ij, if_neg it9, if_neg c26, nI_c7 (by omega), nI_c7 (by omega)]
        rw [e, nI_c7 (show j < 2 ^ 31 by omega), nI_c7 (show t9 < 2 ^ 31 by omega)] at hQ
        refine r_aload_n (q := 36) dX9_lie_35 rfl rfl ?_
        refine r_iload_n (q := 37) dX9_lie_36 rfl rfl ?_
        refine r_iload_n (q := 38) dX9_lie_37 rfl rfl ?_
        refine r_iconst (v := nI 2) (q := 39) dX9_lie_38 (by decide) rfl ?_
        refine r_cV (q := 42) (As := [.int _, .int _, .int _]) wc_X9_196 rfl im_X9_isHushed se_X9_isHushed h_1.m rfl rfl (Nat.le_of_ble_eq_true rfl) (Nat.le_of_eq (Nat.zero_add _)) (Nat.le_of_eq (Nat.zero_add _)) dX9_lie_39 rfl rfl (s_X9_isHushed h_1 hj ht9 (by rw [gA_bg]; exact hbw t9 ht9) (by decide) fun M_39 h_39 => ?_)
        rw [gA_bg] at h_39 ⊢
        refine r_if_eq (t := 53) (q := 45) dX9_lie_42 rfl rfl (fun c42 => ?_) (fun c42 => ?_)
        · have e0 := none_of c42
          have e0b := mrHu_0 e0
          rw [e0] at h_39 hQ
          refine r_aload_n (q := 54) dX9_lie_53 rfl rfl ?_
          refine r_aload_n (q := 55) dX9_lie_54 rfl rfl ?_
          refine r_iload_n (q := 56) dX9_lie_55 rfl rfl ?_
          refine r_iload_n (q := 57) dX9_lie_56 rfl rfl ?_
          refine r_cV (q := 60) (As := [.int _, .int _]) wc_X9_202 rfl im_X9_lies se_X9_lies h_39.m rfl rfl (Nat.le_of_ble_eq_true rfl) (Nat.le_of_eq (Nat.zero_add _)) (Nat.le_of_eq (Nat.zero_add _)) dX9_lie_57 rfl rfl (s_X9_lies (F := gA μ 0) (by rw [← gA_bg, sA_self]; exact h_39) hj ht9 (hbw t9 ht9) (by omega) hcn fun M_57 h_57 => ?_)
          refine r_cV (q := 63) (As := [.int _]) wc_X9_150 rfl im_X9_keeps se_X9_keeps h_57.m rfl rfl (Nat.le_of_ble_eq_true rfl) (Nat.le_of_eq (Nat.zero_add _)) (Nat.le_of_eq (Nat.zero_add _)) dX9_lie_60 rfl rfl (s_X9_keeps (z := z) h_57 hz hz8 fun M_60 h_60 => ?_)
          refine r_iret dX9_lie_63 ?_
          exact hQ _ h_60
        · obtain ⟨x, e0⟩ := some_of c42
          rw [e0] at h_39 hQ
          refine r_aload_n (q := 46) dX9_lie_45 rfl rfl ?_
          refine r_iconst (v := nI 3) (q := 47) dX9_lie_46 (by decide) rfl ?_
          refine r_cV (q := 50) (As := [.int _]) wc_X9_143 rfl im_X9_refused se_X9_refused h_39.m rfl rfl (Nat.le_of_ble_eq_true rfl) (Nat.le_of_eq (Nat.zero_add _)) (Nat.le_of_eq (Nat.zero_add _)) dX9_lie_47 rfl rfl (s_X9_refused h_39 fun M_47 h_47 => ?_)
          refine r_goto (t := 63) dX9_lie_50 rfl ?_
          refine r_iret dX9_lie_63 ?_
          exact hQ _ h_47
      · have e : oLi (gA μ 0) (nI j) (nI t9) = (2, none) := by rw [oLi, if_neg ij, if_neg it9, if_pos c26]
        rw [e] at hQ
        refine r_aload_n (q := 30) dX9_lie_29 rfl rfl ?_
        refine r_iconst (v := nI 2) (q := 31) dX9_lie_30 (by decide) rfl ?_
        refine r_cV (q := 34) (As := [.int _]) wc_X9_96 rfl im_X9_no se_X9_no h_1.m rfl rfl (Nat.le_of_ble_eq_true rfl) (Nat.le_of_eq (Nat.zero_add _)) (Nat.le_of_eq (Nat.zero_add _)) dX9_lie_31 rfl rfl (s_X9_no h_1 fun M_31 h_31 => ?_)
        refine r_iret dX9_lie_34 ?_
        exact hQ _ h_31
    · have e : oLi (gA μ 0) (nI j) t = (1, none) := by rw [oLi, if_neg ij, if_pos (bI_eq0.mp c15)]
      rw [e] at hQ
      refine r_aload_n (q := 19) dX9_lie_18 rfl rfl ?_
      refine r_iconst (v := nI 1) (q := 20) dX9_lie_19 (by decide) rfl ?_
      refine r_cV (q := 23) (As := [.int _]) wc_X9_96 rfl im_X9_no se_X9_no h_1.m rfl rfl (Nat.le_of_ble_eq_true rfl) (Nat.le_of_eq (Nat.zero_add _)) (Nat.le_of_eq (Nat.zero_add _)) dX9_lie_20 rfl rfl (s_X9_no h_1 fun M_20 h_20 => ?_)
      refine r_iret dX9_lie_23 ?_
      exact hQ _ h_20
def mAt (F : Nat → Nat) (l : Nat) : Nat := ((List.range 170).find? fun i => decide (F (110 + i) / 4096 % 8 = l) && decide (F (110 + i) / 512 % 8 = 0)).getD 0
theorem mAt_eq {F : Nat → Nat} {l a : Nat} (ha : a < 170) (h0 : ∀ i, i < a → ¬ isW F l i) (h1 : isW F l a) : mAt F l = a := by
  have e : ((List.range 170).find? fun i => decide (F (110 + i) / 4096 % 8 = l) && decide (F (110 + i) / 512 % 8 = 0)) = some a := by
    rw [List.find?_range_eq_some]
    refine ⟨?_, List.mem_range.mpr ha, fun j hj => ?_⟩
    · rw [h1.1, h1.2]; simp
    · rw [andd (h0 j hj)]; rfl
  rw [mAt, e]; rfl
theorem s_X9_expose (h : RM G Λ ρ μ M) (hz : gN μ 5 = nI z) (hz8 : z ≤ 8) {l : Int32} (hex : ∀ j, j < 7 → lF (gA μ 0) j 9 = 2 → ∃ a, a < (gA μ 0) 1 ∧ (∀ i, i < a → ¬ isW (gA μ 0) j i) ∧ isW (gA μ 0) j a) (hc1 : (gA μ 0) 1 < 170) (hb8 : ∀ j, j < 7 → lF (gA μ 0) j 8 < 2 ^ 28 ∧ lF (gA μ 0) j 5 < 2 ^ 28) (hc6 : (gA μ 0) 6 < 2 ^ 28) (hQ : ∀ M', RM G Λ ρ (mRes μ (oXp (gA μ 0) l) 2 (exF (gA μ 0) l.toNatClampNeg (mAt (gA μ 0) l.toNatClampNeg)) z) M' → Q (some (.int (mVal (oXp (gA μ 0) l) (nI (lF (gA μ 0) l.toNatClampNeg 5 + 3))))) M')  : MS G yX9_expose cX9_expose 2 (some .int) (d + 3) 0 0 [.ref (Λ (10, 0, 0)), .int l] M Q QX := by
  refine MS.of (by decide) (by simp [Value.category]) (Nat.le_of_ble_eq_true rfl) ?_
  show AW _ (_, _, _, _, _, _, _, _, _) _ _ _ _ [some _, some _] _ _
  refine r_aload_n (q := 1) dX9_expose_0 rfl rfl ?_
  refine r_cV (q := 4) (As := []) wc_X9_130 rfl im_X9_begins se_X9_begins h.m rfl rfl (Nat.le_of_ble_eq_true rfl) (Nat.le_of_eq (Nat.zero_add _)) (Nat.le_of_eq (Nat.zero_add _)) dX9_expose_1 rfl rfl (x_begins h fun M_1 h_1 => ?_)
  refine r_iload_n (q := 5) dX9_expose_4 rfl rfl ?_
  refine r_cS (q := 8) (As := [.int _]) wc_X9_133 st_X9_isLine rfl (Nat.le_of_ble_eq_true rfl) (Nat.le_of_eq (Nat.zero_add _)) (Nat.le_of_eq (Nat.zero_add _)) dX9_expose_5 rfl rfl (s_X9_isLine ?_)
  refine r_if_ne (t := 17) (q := 11) dX9_expose_8 rfl rfl (fun c8 => ?_) (fun c8 => ?_)
  · obtain ⟨j, hj, rfl⟩ := isL_t (bI_ne c8)
    have ij : ¬ isL (nI j) = false := by rw [isL_n hj]; decide
    have e : oXp (gA μ 0) (nI j) = mFl (mrXp (gA μ 0) j) := by rw [oXp, if_neg ij, nI_c7 (by omega)]
    rw [e, nI_c7 (show j < 2 ^ 31 by omega)] at hQ
    refine r_aload_n (q := 18) dX9_expose_17 rfl rfl ?_
    refine r_iload_n (q := 19) dX9_expose_18 rfl rfl ?_
    refine r_cV (q := 22) (As := [.int _]) wc_X9_211 rfl im_X9_isRefusedExpose se_X9_isRefusedExpose h_1.m rfl rfl (Nat.le_of_ble_eq_true rfl) (Nat.le_of_eq (Nat.zero_add _)) (Nat.le_of_eq (Nat.zero_add _)) dX9_expose_19 rfl rfl (s_X9_isRefusedExpose h_1 hj fun M_19 h_19 => ?_)
    rw [gA_bg] at h_19 ⊢
    refine r_if_eq (t := 33) (q := 25) dX9_expose_22 rfl rfl (fun c22 => ?_) (fun c22 => ?_)
    · have e0 := none_of c22
      have e0b : lF (gA μ 0) j 9 = 2 := Decidable.byContradiction fun g => by rw [mrXp, if_neg g] at e0; cases e0
      obtain ⟨a, ha, hno, hat⟩ := hex j hj e0b
      rw [e0, mAt_eq (by omega) hno hat] at hQ
      rw [e0] at h_19
      refine r_aload_n (q := 34) dX9_expose_33 rfl rfl ?_
      refine r_aload_n (q := 35) dX9_expose_34 rfl rfl ?_
      refine r_iload_n (q := 36) dX9_expose_35 rfl rfl ?_
      refine r_cV (q := 39) (As := [.int _]) wc_X9_214 rfl im_X9_exposes se_X9_exposes h_19.m rfl rfl (Nat.le_of_ble_eq_true rfl) (Nat.le_of_eq (Nat.zero_add _)) (Nat.le_of_eq (Nat.zero_add _)) dX9_expose_36 rfl rfl (s_X9_exposes (F := gA μ 0) (by rw [← gA_bg, sA_self]; exact h_19) hj ha hno hat (by omega) hc1 (hb8 j hj).1 (hb8 j hj).2 hc6 fun M_36 h_36 => ?_)
      refine r_cV (q := 42) (As := [.int _]) wc_X9_150 rfl im_X9_keeps se_X9_keeps h_36.m rfl rfl (Nat.le_of_ble_eq_true rfl) (Nat.le_of_eq (Nat.zero_add _)) (Nat.le_of_eq (Nat.zero_add _)) dX9_expose_39 rfl rfl (s_X9_keeps (z := z) h_36 hz hz8 fun M_39 h_39 => ?_)
      refine r_iret dX9_expose_42 ?_
      exact hQ _ h_39
    · obtain ⟨x, e0⟩ := some_of c22
      rw [e0] at h_19 hQ
      refine r_aload_n (q := 26) dX9_expose_25 rfl rfl ?_
      refine r_iconst (v := nI 2) (q := 27) dX9_expose_26 (by decide) rfl ?_
      refine r_cV (q := 30) (As := [.int _]) wc_X9_143 rfl im_X9_refused se_X9_refused h_19.m rfl rfl (Nat.le_of_ble_eq_true rfl) (Nat.le_of_eq (Nat.zero_add _)) (Nat.le_of_eq (Nat.zero_add _)) dX9_expose_27 rfl rfl (s_X9_refused h_19 fun M_27 h_27 => ?_)
      refine r_goto (t := 42) dX9_expose_30 rfl ?_
      refine r_iret dX9_expose_42 ?_
      exact hQ _ h_27
  · have e : oXp (gA μ 0) l = (1, none) := if_pos (bI_eq0.mp c8)
    rw [e] at hQ
    refine r_aload_n (q := 12) dX9_expose_11 rfl rfl ?_
    refine r_iconst (v := nI 1) (q := 13) dX9_expose_12 (by decide) rfl ?_
    refine r_cV (q := 16) (As := [.int _]) wc_X9_96 rfl im_X9_no se_X9_no h_1.m rfl rfl (Nat.le_of_ble_eq_true rfl) (Nat.le_of_eq (Nat.zero_add _)) (Nat.le_of_eq (Nat.zero_add _)) dX9_expose_13 rfl rfl (s_X9_no h_1 fun M_13 h_13 => ?_)
    refine r_iret dX9_expose_16 ?_
    exact hQ _ h_13
theorem s_X9_fine (h : RM G Λ ρ μ M) (hz : gN μ 5 = nI z) (hz8 : z ≤ 8) {l : Int32} (hb4 : ∀ j, j < 7 → lF (gA μ 0) j 4 < 2 ^ 28 ∧ lF (gA μ 0) j 5 < 2 ^ 28) (hc9 : (gA μ 0) 9 < 2 ^ 28) (hQ : ∀ M', RM G Λ ρ (mRes μ (oFi (gA μ 0) l) 2 (payF (gA μ 0) l.toNatClampNeg) z) M' → Q (some (.int (mVal (oFi (gA μ 0) l) (nI (lF (gA μ 0) l.toNatClampNeg 4 - 2 * lF (gA μ 0) l.toNatClampNeg 5))))) M')  : MS G yX9_fine cX9_fine 2 (some .int) (d + 3) 0 0 [.ref (Λ (10, 0, 0)), .int l] M Q QX := by
  refine MS.of (by decide) (by simp [Value.category]) (Nat.le_of_ble_eq_true rfl) ?_
  show AW _ (_, _, _, _, _, _, _, _, _) _ _ _ _ [some _, some _] _ _
  refine r_aload_n (q := 1) dX9_fine_0 rfl rfl ?_
  refine r_cV (q := 4) (As := []) wc_X9_130 rfl im_X9_begins se_X9_begins h.m rfl rfl (Nat.le_of_ble_eq_true rfl) (Nat.le_of_eq (Nat.zero_add _)) (Nat.le_of_eq (Nat.zero_add _)) dX9_fine_1 rfl rfl (x_begins h fun M_1 h_1 => ?_)
  refine r_iload_n (q := 5) dX9_fine_4 rfl rfl ?_
  refine r_cS (q := 8) (As := [.int _]) wc_X9_133 st_X9_isLine rfl (Nat.le_of_ble_eq_true rfl) (Nat.le_of_eq (Nat.zero_add _)) (Nat.le_of_eq (Nat.zero_add _)) dX9_fine_5 rfl rfl (s_X9_isLine ?_)
  refine r_if_ne (t := 17) (q := 11) dX9_fine_8 rfl rfl (fun c8 => ?_) (fun c8 => ?_)
  · obtain ⟨j, hj, rfl⟩ := isL_t (bI_ne c8)
    have ij : ¬ isL (nI j) = false := by rw [isL_n hj]; decide
    have e : oFi (gA μ 0) (nI j) = mFl (mrFi (gA μ 0) j) := by rw [oFi, if_neg ij, nI_c7 (by omega)]
    rw [e, nI_c7 (show j < 2 ^ 31 by omega)] at hQ
    refine r_aload_n (q := 18) dX9_fine_17 rfl rfl ?_
    refine r_iload_n (q := 19) dX9_fine_18 rfl rfl ?_
    refine r_cV (q := 22) (As := [.int _]) wc_X9_229 rfl im_X9_isRefusedFine se_X9_isRefusedFine h_1.m rfl rfl (Nat.le_of_ble_eq_true rfl) (Nat.le_of_eq (Nat.zero_add _)) (Nat.le_of_eq (Nat.zero_add _)) dX9_fine_19 rfl rfl (s_X9_isRefusedFine h_1 hj (by rw [gA_bg]; exact (hb4 j hj).2) fun M_19 h_19 => ?_)
    rw [gA_bg] at h_19 ⊢
    refine r_if_eq (t := 33) (q := 25) dX9_fine_22 rfl rfl (fun c22 => ?_) (fun c22 => ?_)
    · have e0 := none_of c22
      rw [e0] at h_19 hQ
      refine r_aload_n (q := 34) dX9_fine_33 rfl rfl ?_
      refine r_aload_n (q := 35) dX9_fine_34 rfl rfl ?_
      refine r_iload_n (q := 36) dX9_fine_35 rfl rfl ?_
      refine r_cV (q := 39) (As := [.int _]) wc_X9_232 rfl im_X9_pays se_X9_pays h_19.m rfl rfl (Nat.le_of_ble_eq_true rfl) (Nat.le_of_eq (Nat.zero_add _)) (Nat.le_of_eq (Nat.zero_add _)) dX9_fine_36 rfl rfl (s_X9_pays (F := gA μ 0) (by rw [← gA_bg, sA_self]; exact h_19) hj (mrFi_0 e0) (hb4 j hj).1 hc9 fun M_36 h_36 => ?_)
      refine r_cV (q := 42) (As := [.int _]) wc_X9_150 rfl im_X9_keeps se_X9_keeps h_36.m rfl rfl (Nat.le_of_ble_eq_true rfl) (Nat.le_of_eq (Nat.zero_add _)) (Nat.le_of_eq (Nat.zero_add _)) dX9_fine_39 rfl rfl (s_X9_keeps (z := z) h_36 hz hz8 fun M_39 h_39 => ?_)
      refine r_iret dX9_fine_42 ?_
      exact hQ _ h_39
    · obtain ⟨x, e0⟩ := some_of c22
      rw [e0] at h_19 hQ
      refine r_aload_n (q := 26) dX9_fine_25 rfl rfl ?_
      refine r_iconst (v := nI 2) (q := 27) dX9_fine_26 (by decide) rfl ?_
      refine r_cV (q := 30) (As := [.int _]) wc_X9_143 rfl im_X9_refused se_X9_refused h_19.m rfl rfl (Nat.le_of_ble_eq_true rfl) (Nat.le_of_eq (Nat.zero_add _)) (Nat.le_of_eq (Nat.zero_add _)) dX9_fine_27 rfl rfl (s_X9_refused h_19 fun M_27 h_27 => ?_)
      refine r_goto (t := 42) dX9_fine_30 rfl ?_
      refine r_iret dX9_fine_42 ?_
      exact hQ _ h_27
  · have e : oFi (gA μ 0) l = (1, none) := if_pos (bI_eq0.mp c8)
    rw [e] at hQ
    refine r_aload_n (q := 12) dX9_fine_11 rfl rfl ?_
    refine r_iconst (v := nI 1) (q := 13) dX9_fine_12 (by decide) rfl ?_
    refine r_cV (q := 16) (As := [.int _]) wc_X9_96 rfl im_X9_no se_X9_no h_1.m rfl rfl (Nat.le_of_ble_eq_true rfl) (Nat.le_of_eq (Nat.zero_add _)) (Nat.le_of_eq (Nat.zero_add _)) dX9_fine_13 rfl rfl (s_X9_no h_1 fun M_13 h_13 => ?_)
    refine r_iret dX9_fine_16 ?_
    exact hQ _ h_13
end W56
