/-! THE MODEL: the calls that change -/
section W56
variable {G : En} {Λ : Ob → Nat} {ρ : Me} {μ : Mg} {M : Me} {d : Nat} {Q : Option Value → Me → Prop} {QX : String → Me → Prop} {S : St} {F : Nat → Nat} {z : Nat}
def bgM (μ : Mg) : Mg := sA (sN μ 4 (nI 0)) 1 (gA μ 0)
theorem gA_bg : gA (bgM μ) 0 = gA μ 0 := gA_n (by decide)
theorem x_begins (h : RM G Λ ρ μ M) (hQ : ∀ M', RM G Λ ρ (bgM μ) M' → Q none M') : MS G yX9_begins cX9_begins 1 none (d + 1) 0 0 [.ref (Λ (10, 0, 0))] M Q QX := s_X9_begins h fun M' h1 => hQ M' (h1.extA fun j hj => by rw [cpF, if_pos ⟨Nat.zero_le _, (show j < 640 from hj)⟩, Nat.sub_zero, Nat.zero_add])
def mNo (μ : Mg) (c : Nat) : Mg := sN (bgM μ) 4 (nI c)
def mRf (μ : Mg) (x : Int32 × Int32) (c : Nat) : Mg := sN (sN (sN (sN (sN (bgM μ) 6 x.1) 7 x.2) 8 x.1) 9 x.2) 4 (nI c)
def mOk (μ : Mg) (F : Nat → Nat) (z : Nat) : Mg := kpM (sA (bgM μ) 0 F) z
def mRes (μ : Mg) (f : Fl) (c3 : Nat) (F : Nat → Nat) (z : Nat) : Mg := match f.2 with
  | some x => mRf μ x c3
  | none => if f.1 = 0 then mOk μ F z else mNo μ f.1
def mVal (f : Fl) (v : Int32) : Int32 := if f.1 = 0 then v else 0
def mFl (o : Option (Int32 × Int32)) : Fl := match o with
  | some x => (3, some x)
  | none => no
theorem none_of {α : Type} {o : Option α} (h : bI o.isSome = 0) : o = none := by
  cases o with
  | none => rfl
  | some x => exact absurd h (show ¬ bI true = 0 by decide)
theorem some_of {α : Type} {o : Option α} (h : ¬ bI o.isSome = 0) : ∃ x, o = some x := by
  cases o with
  | none => exact absurd rfl h
  | some x => exact ⟨x, rfl⟩
theorem isWd_t {n b : Int32} (h : isWd n b = true) : ∃ m k, 1 ≤ m ∧ m ≤ 6 ∧ k < 2 ^ m ∧ k < 64 ∧ n = nI m ∧ b = nI k := by
  rw [isWd, Bool.and_eq_true] at h
  obtain ⟨m, hm1, hm6, rfl⟩ := isN_t h.1
  have h2 := h.2
  rw [nI_c7 (by omega), inI, Bool.and_eq_true, decide_eq_true_eq, decide_eq_true_eq] at h2
  obtain ⟨k, hk, rfl⟩ := nI_nat h2.1
  have hp : 2 ^ m ≤ 64 := Nat.pow_le_pow_right (n := 2) (by decide) hm6
  have hp1 : 1 ≤ 2 ^ m := Nat.one_le_two_pow
  have h3 := h2.2
  rw [nI_ltI (by omega) hk] at h3
  exact ⟨m, k, hm1, hm6, by omega, by omega, rfl, rfl⟩
def BW (F : Nat → Nat) : Prop := ∀ l, l < 7 → WN F l
theorem inI_t {v : Int32} {a b : Nat} (ha : a < 2 ^ 31) (hb : b < 2 ^ 31) (h : inI v (nI a) (nI b) = true) : ∃ k, a ≤ k ∧ k ≤ b ∧ v = nI k := by
  rw [inI, Bool.and_eq_true, decide_eq_true_eq, decide_eq_true_eq] at h
  have h0 : ¬ v < 0 := fun g => h.1 (Int32.lt_of_lt_of_le g (by rw [show (0 : Int32) = nI 0 from rfl, nI_leI (by decide) ha]; omega))
  obtain ⟨k, hk, rfl⟩ := nI_nat h0
  rw [nI_ltI hk ha, nI_ltI hb hk] at h
  exact ⟨k, by omega, by omega, rfl⟩
def oSign (F : Nat → Nat) (l n b : Int32) : Fl := if isL l = false then (1, none) else if isWd n b = false then (2, none) else mFl (mrSign F n.toNatClampNeg b.toNatClampNeg)
def oUns (F : Nat → Nat) (l : Int32) : Fl := if isL l = false then (1, none) else mFl (mrNo F l.toNatClampNeg)
def oPri (F : Nat → Nat) (l p : Int32) : Fl := if isL l = false then (1, none) else if inI p (nI 0) (nI 9) = false then (2, none) else mFl (mrPri F l.toNatClampNeg p.toNatClampNeg)
def oPla (p dl m : Int32) : Fl := if isP p = false then (1, none) else if inI dl (nI 0) (nI 5) = false then (2, none) else if inI m (nI 0) (nI 127) = false then (2, none) else no
def oWhi (F : Nat → Nat) (l : Int32) : Fl := if isL l = false then (1, none) else mFl (mrHu F l.toNatClampNeg l.toNatClampNeg 1)
def oLi (F : Nat → Nat) (l t : Int32) : Fl := if isL l = false then (1, none) else if isL t = false then (1, none) else if l = t then (2, none) else mFl (mrHu F l.toNatClampNeg t.toNatClampNeg 2)
def oXp (F : Nat → Nat) (l : Int32) : Fl := if isL l = false then (1, none) else mFl (mrXp F l.toNatClampNeg)
def oMu (F : Nat → Nat) (l k : Int32) : Fl := if isL l = false then (1, none) else if inI k (nI 1) (nI 9) = false then (2, none) else mFl (mrMu F l.toNatClampNeg)
def oFi (F : Nat → Nat) (l : Int32) : Fl := if isL l = false then (1, none) else mFl (mrFi F l.toNatClampNeg)
theorem s_X9_sign (h : RM G Λ ρ μ M) (hz : gN μ 5 = nI z) (hz8 : z ≤ 8) {l n b : Int32} (hQ : ∀ M', RM G Λ ρ (mRes μ (oSign (gA μ 0) l n b) 3 (tellF (gA μ 0) l.toNatClampNeg n.toNatClampNeg b.toNatClampNeg) z) M' → Q (some (.int (mVal (oSign (gA μ 0) l n b) (nI (mSt (tellF (gA μ 0) l.toNatClampNeg n.toNatClampNeg b.toNatClampNeg) l.toNatClampNeg))))) M')  : MS G yX9_sign cX9_sign 4 (some .int) (d + 3) 0 0 [.ref (Λ (10, 0, 0)), .int l, .int n, .int b] M Q QX := by
  refine MS.of (by decide) (by simp [Value.category]) (Nat.le_of_ble_eq_true rfl) ?_
  show AW _ (_, _, _, _, _, _, _, _, _) _ _ _ _ [some _, some _, some _, some _] _ _
  refine r_aload_n (q := 1) dX9_sign_0 rfl rfl ?_
  refine r_cV (q := 4) (As := []) wc_X9_130 rfl im_X9_begins se_X9_begins h.m rfl rfl (Nat.le_of_ble_eq_true rfl) (Nat.le_of_eq (Nat.zero_add _)) (Nat.le_of_eq (Nat.zero_add _)) dX9_sign_1 rfl rfl (x_begins h fun M_1 h_1 => ?_)
  refine r_iload_n (q := 5) dX9_sign_4 rfl rfl ?_
  refine r_cS (q := 8) (As := [.int _]) wc_X9_133 st_X9_isLine rfl (Nat.le_of_ble_eq_true rfl) (Nat.le_of_eq (Nat.zero_add _)) (Nat.le_of_eq (Nat.zero_add _)) dX9_sign_5 rfl rfl (s_X9_isLine ?_)
  refine r_if_ne (t := 17) (q := 11) dX9_sign_8 rfl rfl (fun c8 => ?_) (fun c8 => ?_)
  · obtain ⟨j, hj, rfl⟩ := isL_t (bI_ne c8)
    have ij : ¬ isL (nI j) = false := by rw [isL_n hj]; decide
    refine r_iload_n (q := 18) dX9_sign_17 rfl rfl ?_
    refine r_iload_n (q := 19) dX9_sign_18 rfl rfl ?_
    refine r_cS (q := 22) (As := [.int _, .int _]) wc_X9_137 st_X9_isWord rfl (Nat.le_of_ble_eq_true rfl) (Nat.le_of_eq (Nat.zero_add _)) (Nat.le_of_eq (Nat.zero_add _)) dX9_sign_19 rfl rfl (s_X9_isWord ?_)
    refine r_if_ne (t := 31) (q := 25) dX9_sign_22 rfl rfl (fun c22 => ?_) (fun c22 => ?_)
    · obtain ⟨m, k, hm1, hm6, hk, hk64, rfl, rfl⟩ := isWd_t (bI_ne c22)
      have iw : ¬ isWd (nI m) (nI k) = false := fun g => c22 (bI_eq0.mpr g)
      have e : oSign (gA μ 0) (nI j) (nI m) (nI k) = mFl (mrSign (gA μ 0) m k) := by rw [oSign, if_neg ij, if_neg iw, nI_c7 (by omega), nI_c7 (by omega)]
      rw [e, nI_c7 (show j < 2 ^ 31 by omega), nI_c7 (show m < 2 ^ 31 by omega), nI_c7 (show k < 2 ^ 31 by omega)] at hQ
      refine r_aload_n (q := 32) dX9_sign_31 rfl rfl ?_
      refine r_iload_n (q := 33) dX9_sign_32 rfl rfl ?_
      refine r_iload_n (q := 34) dX9_sign_33 rfl rfl ?_
      refine r_cV (q := 37) (As := [.int _, .int _]) wc_X9_140 rfl im_X9_isRefusedSign se_X9_isRefusedSign h_1.m rfl rfl (Nat.le_of_ble_eq_true rfl) (Nat.le_of_eq (Nat.zero_add _)) (Nat.le_of_eq (Nat.zero_add _)) dX9_sign_34 rfl rfl (s_X9_isRefusedSign h_1 (by omega) (by omega) fun M_34 h_34 => ?_)
      rw [gA_bg] at h_34 ⊢
      refine r_if_eq (t := 48) (q := 40) dX9_sign_37 rfl rfl (fun c37 => ?_) (fun c37 => ?_)
      · have e0 := none_of c37
        rw [e0] at h_34 hQ
        refine r_aload_n (q := 49) dX9_sign_48 rfl rfl ?_
        refine r_aload_n (q := 50) dX9_sign_49 rfl rfl ?_
        refine r_iload_n (q := 51) dX9_sign_50 rfl rfl ?_
        refine r_iload_n (q := 52) dX9_sign_51 rfl rfl ?_
        refine r_iload_n (q := 53) dX9_sign_52 rfl rfl ?_
        refine r_cV (q := 56) (As := [.int _, .int _, .int _]) wc_X9_146 rfl im_X9_tells se_X9_tells h_34.m rfl rfl (Nat.le_of_ble_eq_true rfl) (Nat.le_of_eq (Nat.zero_add _)) (Nat.le_of_eq (Nat.zero_add _)) dX9_sign_53 rfl rfl (s_X9_tells (RM.toA h_34 0) hj hm6 hk64 fun M_53 h_53 => ?_)
        rw [show gA (rfM (bgM μ) none) 0 = gA μ 0 from gA_bg] at h_53 ⊢
        refine r_cV (q := 59) (As := [.int _]) wc_X9_150 rfl im_X9_keeps se_X9_keeps h_53.m rfl rfl (Nat.le_of_ble_eq_true rfl) (Nat.le_of_eq (Nat.zero_add _)) (Nat.le_of_eq (Nat.zero_add _)) dX9_sign_56 rfl rfl (s_X9_keeps (z := z) h_53 hz hz8 fun M_56 h_56 => ?_)
        refine r_iret dX9_sign_59 ?_
        exact hQ _ h_56
      · obtain ⟨x, e0⟩ := some_of c37
        rw [e0] at h_34 hQ
        refine r_aload_n (q := 41) dX9_sign_40 rfl rfl ?_
        refine r_iconst (v := nI 3) (q := 42) dX9_sign_41 (by decide) rfl ?_
        refine r_cV (q := 45) (As := [.int _]) wc_X9_143 rfl im_X9_refused se_X9_refused h_34.m rfl rfl (Nat.le_of_ble_eq_true rfl) (Nat.le_of_eq (Nat.zero_add _)) (Nat.le_of_eq (Nat.zero_add _)) dX9_sign_42 rfl rfl (s_X9_refused h_34 fun M_42 h_42 => ?_)
        refine r_goto (t := 59) dX9_sign_45 rfl ?_
        refine r_iret dX9_sign_59 ?_
        exact hQ _ h_42
    · have e : oSign (gA μ 0) (nI j) n b = (2, none) := by rw [oSign, if_neg ij, if_pos (bI_eq0.mp c22)]
      rw [e] at hQ
      refine r_aload_n (q := 26) dX9_sign_25 rfl rfl ?_
      refine r_iconst (v := nI 2) (q := 27) dX9_sign_26 (by decide) rfl ?_
      refine r_cV (q := 30) (As := [.int _]) wc_X9_96 rfl im_X9_no se_X9_no h_1.m rfl rfl (Nat.le_of_ble_eq_true rfl) (Nat.le_of_eq (Nat.zero_add _)) (Nat.le_of_eq (Nat.zero_add _)) dX9_sign_27 rfl rfl (s_X9_no h_1 fun M_27 h_27 => ?_)
      refine r_iret dX9_sign_30 ?_
      exact hQ _ h_27
  · have e : oSign (gA μ 0) l n b = (1, none) := if_pos (bI_eq0.mp c8)
    rw [e] at hQ
    refine r_aload_n (q := 12) dX9_sign_11 rfl rfl ?_
    refine r_iconst (v := nI 1) (q := 13) dX9_sign_12 (by decide) rfl ?_
    refine r_cV (q := 16) (As := [.int _]) wc_X9_96 rfl im_X9_no se_X9_no h_1.m rfl rfl (Nat.le_of_ble_eq_true rfl) (Nat.le_of_eq (Nat.zero_add _)) (Nat.le_of_eq (Nat.zero_add _)) dX9_sign_13 rfl rfl (s_X9_no h_1 fun M_13 h_13 => ?_)
    refine r_iret dX9_sign_16 ?_
    exact hQ _ h_13
end W56
