/-! THE BUILDER OF TEXTS -/
section W40
variable {G : En} {Λ : Ob → Nat} {ρ : Me} {σ : Sg} {M : Me} {d : Nat} {Q : Option Value → Me → Prop} {QX : String → Me → Prop} {a q c n : Nat} {ml : Int32} {f : Nat → Int32}
theorem sm_J5_append_3fe6f : lw_tbl[2125]? = some (.sameMethod yJ5_append_3fe6f.cls yJ5_append_3fe6f.cls yJ5_append_3fe6f.name yJ5_append_3fe6f.desc) := by decide +kernel
theorem sm_J5_append_c97b9 : lw_tbl[2124]? = some (.sameMethod yJ5_append_c97b9.cls yJ5_append_c97b9.cls yJ5_append_c97b9.name yJ5_append_c97b9.desc) := by decide +kernel
theorem sm_J5_setLength_d00df : lw_tbl[2116]? = some (.sameMethod yJ5_setLength_d00df.cls yJ5_setLength_d00df.cls yJ5_setLength_d00df.name yJ5_setLength_d00df.desc) := by decide +kernel
theorem sm_J5_charAt_5068e : lw_tbl[2127]? = some (.sameMethod yJ5_charAt_5068e.cls yJ5_charAt_5068e.cls yJ5_charAt_5068e.name yJ5_charAt_5068e.desc) := by decide +kernel
theorem sm_J5_length_8abf5 : lw_tbl[855]? = some (.sameMethod yJ5_length_8abf5.cls yJ5_length_8abf5.cls yJ5_length_8abf5.name yJ5_length_8abf5.desc) := by decide +kernel
theorem sm_J5_ensureCapacityInternal_d00df : lw_tbl[2119]? = some (.sameMethod yJ5_ensureCapacityInternal_d00df.cls yJ5_ensureCapacityInternal_d00df.cls yJ5_ensureCapacityInternal_d00df.name yJ5_ensureCapacityInternal_d00df.desc) := by decide +kernel
theorem sm_J5_newCapacity_0f7a4 : lw_tbl[2120]? = some (.sameMethod yJ5_newCapacity_0f7a4.cls yJ5_newCapacity_0f7a4.cls yJ5_newCapacity_0f7a4.name yJ5_newCapacity_0f7a4.desc) := by decide +kernel
theorem sup_J4 : lw_tbl[323]? = some (.superclass RJ4 RJ5) := by decide +kernel
theorem sl_J5_ensureCapacityInternal_d00df : wSel RJ4 yJ5_ensureCapacityInternal_d00df := fun _ _ hw => hw _ (List.mem_append_right _ (by simp [wSx]))
theorem sl_J5_newCapacity_0f7a4 : wSel RJ4 yJ5_newCapacity_0f7a4 := fun _ _ hw => hw _ (List.mem_append_right _ (by simp [wSx]))
theorem sl_J5_isLatin1_aae02 : wSel RJ4 yJ5_isLatin1_aae02 := wSel.tbl (i := 739) (by decide +kernel)
theorem ac_J7_150 : lw_tbl[733]? = some (.methodLink RJ7 150 arraycopyName) := by decide +kernel
theorem aC_byte : lw_tbl[324]? = some (.arrayClass .byte) := by decide +kernel
def SBr (G : En) (a q : Nat) (ml : Int32) (n c : Nat) (f : Nat → Int32) (M : Me) : Prop := M (8, 0, 0) = some (a, .inr (7, [.ref q, .int 0, .int ml, .int (nI n)])) ∧ M (9, 0, 0) = some (q, .inl (G.2.2.1 3, c, .inl f))
def byt (f : Nat → Int32) : Prop := ∀ j, ∃ n : Nat, n < 128 ∧ f j = nI n
def gCap (m c : Nat) : Nat := if m ≤ c then c else 2 * c + 2
def kC (m c : Nat) : Nat := if m ≤ c then 0 else 1
def nC (m c : Nat) : Nat := if m ≤ c then 0 else 2 * c + 2
theorem gCap_ge {m c : Nat} (h : m ≤ 2 * c + 2) : m ≤ gCap m c := by unfold gCap; split <;> omega
theorem gCap_le {m c : Nat} : gCap m c ≤ 2 * c + 2 := by unfold gCap; split <;> omega
theorem gCap_c {m c : Nat} : c ≤ gCap m c := by unfold gCap; split <;> omega
theorem max_nI {x y : Nat} (hx : x < 2 ^ 31) (hy : y < 2 ^ 31) : (if nI x < nI y then nI y else nI x) = nI (max x y) := by
  by_cases h : x < y
  · rw [if_pos (nI_lt h hy), Nat.max_eq_right (by omega)]
  · rw [if_neg (nI_nlt (by omega) hx), Nat.max_eq_left (by omega)]
theorem byt_cpy {c : Nat} (h : byt f) : byt (va_cpy f (fun _ => 0) 0 0 c) := by
  intro j
  unfold va_cpy
  split
  · exact h _
  · exact ⟨0, by decide, rfl⟩
theorem cpy_in {c j : Nat} (h : j < c) : va_cpy f (fun _ => 0) 0 0 c j = f j := by
  unfold va_cpy
  rw [if_pos ⟨Nat.zero_le _, by omega⟩]
  congr 1
  omega
theorem i2b_n : ∀ x : Nat, x < 128 → (nI x).toInt8.toInt32 = nI x := by decide +kernel
theorem nar_b : ∀ x : Nat, x < 128 → vp_nar .byte (nI x) = nI x := by decide +kernel
theorem byt_upd {k x : Nat} (h : byt f) (hx : x < 128) : byt (upd f k (nI x)) := by
  intro j
  unfold upd
  split
  · exact ⟨x, hx, rfl⟩
  · exact h j
theorem s_J8_newLength_cabcc {u b g : Nat} (hu : u < 2 ^ 20) (hb2 : b < 2 ^ 20) (hg : g < 2 ^ 20) (hp : 0 < g) (hQ : Q (some (.int (nI (u + max b g)))) M)  : MS G yJ8_newLength_cabcc cJ8_newLength_cabcc 4 (some .int) (d + 1) 0 0 [.int (nI u), .int (nI b), .int (nI g)] M Q QX := by
  refine MS.of (by decide) (by simp [Value.category]) (Nat.le_of_ble_eq_true rfl) ?_
  show AW _ (_, _, _, _, _, _, _, _, _) _ _ _ _ [some _, some _, some _, _] _ _
  refine r_iload_n (q := 1) dJ8_newLength_cabcc_0 rfl rfl ?_
  refine r_iload_n (q := 2) dJ8_newLength_cabcc_1 rfl rfl ?_
  refine r_iload_n (q := 3) dJ8_newLength_cabcc_2 rfl rfl ?_
  refine r_mmax (q := 6) ml_J8_194 dJ8_newLength_cabcc_3 rfl (Nat.le_of_ble_eq_true rfl) ?_
  rw [max_nI (by omega) (by omega)]
  refine r_iadd (q := 7) dJ8_newLength_cabcc_6 rfl ?_
  rw [n_add]
  refine r_istore_n (q := 8) dJ8_newLength_cabcc_7 (Nat.le_of_ble_eq_true rfl) rfl rfl ?_
  show AW _ (_, _, _, _, _, _, _, _, _) _ _ _ _ [some _, some _, some _, some _] _ _
  refine r_iconst (v := nI 0) (q := 9) dJ8_newLength_cabcc_8 (by decide) rfl ?_
  refine r_iload_n (q := 10) dJ8_newLength_cabcc_9 rfl rfl ?_
  refine r_icmp_ge (t := 21) (q := 13) dJ8_newLength_cabcc_10 rfl rfl (fun c10 => ?_) (fun c10 => ?_)
  · exact absurd c10 (by rw [nI_leI (by omega) (by decide)]; omega)
  · refine r_iload_n (q := 14) dJ8_newLength_cabcc_13 rfl rfl ?_
    refine r_ldc (q := 16) dJ8_newLength_cabcc_14 kc_J8_200 rfl ?_
    refine r_icmp_gt (t := 21) (q := 19) dJ8_newLength_cabcc_16 rfl rfl (fun c16 => ?_) (fun c16 => ?_)
    · exact absurd c16 (by show ¬ (nI 2147483639 < _); rw [nI_ltI (by decide) (by omega)]; omega)
    · refine r_iload_n (q := 20) dJ8_newLength_cabcc_19 rfl rfl ?_
      refine r_iret dJ8_newLength_cabcc_20 ?_
      exact hQ
theorem s_J5_newCapacity_0f7a4 (hb : SBr G a q ml n c f M) {m : Nat} (hc : c < 2 ^ 18) (hm : c < m) (hg : m ≤ 2 * c + 2) (hQ : Q (some (.int (nI (2 * c + 2)))) M)  : MS G yJ5_newCapacity_0f7a4 cJ5_newCapacity_0f7a4 6 (some .int) (d + 2) 0 0 [.ref a, .int (nI m)] M Q QX := by
  refine MS.of (by decide) (by simp [Value.category]) (Nat.le_of_ble_eq_true rfl) ?_
  show AW _ (_, _, _, _, _, _, _, _, _) _ _ _ _ [some _, some _, _, _, _, _] _ _
  refine r_aload_n (q := 1) dJ5_newCapacity_0f7a4_0 rfl rfl ?_
  refine r_get (q := 4) (kk := 0) hb.1 rfl wi_RJ4 (by decide) rfl fk_J5_15 rfl dJ5_newCapacity_0f7a4_1 rfl ?_
  refine r_alen (q := 5) hb.2 (t := 3) (v := nI c) rfl rfl dJ5_newCapacity_0f7a4_4 rfl ?_
  refine r_istore_n (q := 6) dJ5_newCapacity_0f7a4_5 (Nat.le_of_ble_eq_true rfl) rfl rfl ?_
  show AW _ (_, _, _, _, _, _, _, _, _) _ _ _ _ [some _, some _, some _, _, _, _] _ _
  refine r_iload_n (q := 7) dJ5_newCapacity_0f7a4_6 rfl rfl ?_
  refine r_aload_n (q := 8) dJ5_newCapacity_0f7a4_7 rfl rfl ?_
  refine r_get (q := 11) (kk := 1) hb.1 rfl wi_RJ4 (by decide) rfl fk_J5_22 rfl dJ5_newCapacity_0f7a4_8 rfl ?_
  refine r_ishl (q := 12) dJ5_newCapacity_0f7a4_11 rfl ?_
  rw [sb_shl0]
  refine r_istore_n (q := 13) dJ5_newCapacity_0f7a4_12 (Nat.le_of_ble_eq_true rfl) rfl rfl ?_
  show AW _ (_, _, _, _, _, _, _, _, _) _ _ _ _ [some _, some _, some _, some _, _, _] _ _
  refine r_iload_n (q := 14) dJ5_newCapacity_0f7a4_13 rfl rfl ?_
  refine r_iload_n (q := 15) dJ5_newCapacity_0f7a4_14 rfl rfl ?_
  refine r_isub (q := 16) dJ5_newCapacity_0f7a4_15 rfl ?_
  rw [n_sub (by omega)]
  refine r_istore (q := 18) dJ5_newCapacity_0f7a4_16 (Nat.le_of_ble_eq_true rfl) rfl rfl ?_
  show AW _ (_, _, _, _, _, _, _, _, _) _ _ _ _ [some _, some _, some _, some _, some _, _] _ _
  refine r_iload_n (q := 19) dJ5_newCapacity_0f7a4_18 rfl rfl ?_
  refine r_iload (q := 21) dJ5_newCapacity_0f7a4_19 rfl rfl ?_
  refine r_iload_n (q := 22) dJ5_newCapacity_0f7a4_21 rfl rfl ?_
  refine r_iconst (v := nI 2) (q := 23) dJ5_newCapacity_0f7a4_22 (by decide) rfl ?_
  refine r_aload_n (q := 24) dJ5_newCapacity_0f7a4_23 rfl rfl ?_
  refine r_get (q := 27) (kk := 1) hb.1 rfl wi_RJ4 (by decide) rfl fk_J5_22 rfl dJ5_newCapacity_0f7a4_24 rfl ?_
  refine r_ishl (q := 28) dJ5_newCapacity_0f7a4_27 rfl ?_
  rw [sb_shl0]
  refine r_iadd (q := 29) dJ5_newCapacity_0f7a4_28 rfl ?_
  rw [n_add]
  refine r_cS (q := 32) (As := [.int _, .int _, .int _]) wc_J5_114 st_J8_newLength_cabcc rfl (Nat.le_of_ble_eq_true rfl) (Nat.le_of_eq (Nat.zero_add _)) (Nat.le_of_eq (Nat.zero_add _)) dJ5_newCapacity_0f7a4_29 rfl rfl (s_J8_newLength_cabcc (by omega) (by omega) (by omega) (by omega) ?_)
  rw [show c + max (m - c) (c + 2) = 2 * c + 2 by omega]
  refine r_istore (q := 34) dJ5_newCapacity_0f7a4_32 (Nat.le_of_ble_eq_true rfl) rfl rfl ?_
  show AW _ (_, _, _, _, _, _, _, _, _) _ _ _ _ [some _, some _, some _, some _, some _, some _] _ _
  refine r_iload (q := 36) dJ5_newCapacity_0f7a4_34 rfl rfl ?_
  refine r_ldc (q := 38) dJ5_newCapacity_0f7a4_36 kc_J5_39 rfl ?_
  refine r_icmp_ne (t := 51) (q := 41) dJ5_newCapacity_0f7a4_38 rfl rfl (fun c38 => ?_) (fun c38 => ?_)
  · refine r_iload (q := 53) dJ5_newCapacity_0f7a4_51 rfl rfl ?_
    refine r_aload_n (q := 54) dJ5_newCapacity_0f7a4_53 rfl rfl ?_
    refine r_get (q := 57) (kk := 1) hb.1 rfl wi_RJ4 (by decide) rfl fk_J5_22 rfl dJ5_newCapacity_0f7a4_54 rfl ?_
    refine r_ishr (q := 58) dJ5_newCapacity_0f7a4_57 rfl ?_
    rw [sb_shr0]
    refine r_iret dJ5_newCapacity_0f7a4_58 ?_
    exact hQ
  · exact absurd c38 (by show ¬ (nI _ = nI 2147483647); rw [nI_eq (by omega) (by decide)]; omega)
theorem s_J7_copyOf_9075b (h9 : M (9, 0, 0) = some (q, .inl (G.2.2.1 3, c, .inl f))) (hz : M (99, 0, 0) = none) (hf : byt f) {N : Nat} (hN : c < N) (hN2 : N < 2 ^ 20) (hQ : ∀ a' M', M' (99, 0, 0) = some (a', .inl (G.2.2.1 3, N, .inl (va_cpy f (fun _ => 0) 0 0 c))) → (∀ o, o ≠ (99, 0, 0) → M' o = M o) → Q (some (.ref a')) M')  : MS G yJ7_copyOf_9075b cJ7_copyOf_9075b 3 (some (.array .byte)) (d + 1) (0 + 1) (0 + N) [.ref q, .int (nI N)] M Q QX := by
  refine MS.of (by decide) (by simp [Value.category]) (Nat.le_of_ble_eq_true rfl) ?_
  show AW _ (_, _, _, _, _, _, _, _, _) _ _ _ _ [some _, some _, _] _ _
  refine r_iload_n (q := 1) dJ7_copyOf_9075b_0 rfl rfl ?_
  refine r_aload_n (q := 2) dJ7_copyOf_9075b_1 rfl rfl ?_
  refine r_alen (q := 3) h9 (t := 3) (v := nI c) rfl rfl dJ7_copyOf_9075b_2 rfl ?_
  refine r_icmp_ne (t := 14) (q := 6) dJ7_copyOf_9075b_3 rfl rfl (fun c3 => ?_) (fun c3 => ?_)
  · refine r_iload_n (q := 15) dJ7_copyOf_9075b_14 rfl rfl ?_
    refine r_newa (q := 17) (t := 3) (i1 := 324) (atype := .byte) (ty := .byte) (N := N) (a0 := (N, .inl fun _ => 0)) (99, 0, 0) hz rfl (fun _ h => by cases h) rfl aC_byte (fun _ => rfl) (nI_pos (by omega)) (nI_clamp (by omega)) (by show N * 1 ≤ _; omega) dJ7_copyOf_9075b_15 rfl fun a9 => ?_
    refine r_astore_n (q := 18) dJ7_copyOf_9075b_17 (Nat.le_of_ble_eq_true rfl) rfl rfl ?_
    show AW _ (_, _, _, _, _, _, _, _, _) _ _ _ _ [some _, some _, some _] _ _
    refine r_aload_n (q := 19) dJ7_copyOf_9075b_18 rfl rfl ?_
    refine r_iconst (v := nI 0) (q := 20) dJ7_copyOf_9075b_19 (by decide) rfl ?_
    refine r_aload_n (q := 21) dJ7_copyOf_9075b_20 rfl rfl ?_
    refine r_iconst (v := nI 0) (q := 22) dJ7_copyOf_9075b_21 (by decide) rfl ?_
    refine r_aload_n (q := 23) dJ7_copyOf_9075b_22 rfl rfl ?_
    refine r_alen (q := 24) ((if_neg (by simp)).trans h9) (t := 3) (v := nI c) rfl rfl dJ7_copyOf_9075b_23 rfl ?_
    refine r_iload_n (q := 25) dJ7_copyOf_9075b_24 rfl rfl ?_
    refine r_mmin (q := 28) ml_J7_304 dJ7_copyOf_9075b_25 rfl (Nat.le_of_ble_eq_true rfl) ?_
    rw [min_nI (by omega) (by omega), Nat.min_eq_left (by omega)]
    refine r_copyb (q := 31) (o0 := (9, 0, 0)) (o1 := (99, 0, 0)) ((if_neg (by simp)).trans h9) (if_pos rfl) ac_J7_150 (Nat.le_refl _) (by omega) (by omega) hf (Nat.le_of_ble_eq_true rfl) dJ7_copyOf_9075b_28 rfl ?_
    refine r_aload_n (q := 32) dJ7_copyOf_9075b_31 rfl rfl ?_
    refine r_aret dJ7_copyOf_9075b_32 (Or.inr ⟨_, rfl⟩) (Or.inr ⟨_, rfl⟩) ?_
    exact hQ _ _ (if_pos rfl) fun o ho => (if_neg ho).trans (if_neg ho)
  · exact absurd c3 (by rw [nI_eq (by omega) (by omega)]; omega)
theorem s_J5_ensureCapacityInternal_d00df (hb : SBr G a q ml n c f M) (hz : M (99, 0, 0) = none) (hf : byt f) (hc : c < 2 ^ 18) {m : Nat} (hg : m ≤ 2 * c + 2) (hQ : ∀ q' f' M', SBr G a q' ml n (gCap m c) f' M' → byt f' → (∀ j, j < c → f' j = f j) → (∀ o, o ≠ (8, 0, 0) → o ≠ (9, 0, 0) → M' o = M o) → Q none M')  : MS G yJ5_ensureCapacityInternal_d00df cJ5_ensureCapacityInternal_d00df 3 none (d + 3) (kC m c) (nC m c) [.ref a, .int (nI m)] M Q QX := by
  refine MS.of (by decide) (by simp [Value.category]) (Nat.le_of_ble_eq_true rfl) ?_
  show AW _ (_, _, _, _, _, _, _, _, _) _ _ _ _ [some _, some _, _] _ _
  refine r_aload_n (q := 1) dJ5_ensureCapacityInternal_d00df_0 rfl rfl ?_
  refine r_get (q := 4) (kk := 0) hb.1 rfl wi_RJ4 (by decide) rfl fk_J5_15 rfl dJ5_ensureCapacityInternal_d00df_1 rfl ?_
  refine r_alen (q := 5) hb.2 (t := 3) (v := nI c) rfl rfl dJ5_ensureCapacityInternal_d00df_4 rfl ?_
  refine r_aload_n (q := 6) dJ5_ensureCapacityInternal_d00df_5 rfl rfl ?_
  refine r_get (q := 9) (kk := 1) hb.1 rfl wi_RJ4 (by decide) rfl fk_J5_22 rfl dJ5_ensureCapacityInternal_d00df_6 rfl ?_
  refine r_ishr (q := 10) dJ5_ensureCapacityInternal_d00df_9 rfl ?_
  rw [sb_shr0]
  refine r_istore_n (q := 11) dJ5_ensureCapacityInternal_d00df_10 (Nat.le_of_ble_eq_true rfl) rfl rfl ?_
  show AW _ (_, _, _, _, _, _, _, _, _) _ _ _ _ [some _, some _, some _] _ _
  refine r_iload_n (q := 12) dJ5_ensureCapacityInternal_d00df_11 rfl rfl ?_
  refine r_iload_n (q := 13) dJ5_ensureCapacityInternal_d00df_12 rfl rfl ?_
  refine r_isub (q := 14) dJ5_ensureCapacityInternal_d00df_13 rfl ?_
  refine r_if_le (t := 38) (q := 17) dJ5_ensureCapacityInternal_d00df_14 rfl rfl (fun c14 => ?_) (fun c14 => ?_)
  · rw [sub_le0 (by omega) (by omega)] at c14
    refine r_vret dJ5_ensureCapacityInternal_d00df_38 ?_
    exact hQ q f M (by rw [gCap, if_pos c14]; exact hb) hf (fun _ _ => rfl) (fun _ _ _ => rfl)
  · rw [sub_le0 (by omega) (by omega)] at c14
    refine r_aload_n (q := 18) dJ5_ensureCapacityInternal_d00df_17 rfl rfl ?_
    refine r_aload_n (q := 19) dJ5_ensureCapacityInternal_d00df_18 rfl rfl ?_
    refine r_get (q := 22) (kk := 0) hb.1 rfl wi_RJ4 (by decide) rfl fk_J5_15 rfl dJ5_ensureCapacityInternal_d00df_19 rfl ?_
    refine r_aload_n (q := 23) dJ5_ensureCapacityInternal_d00df_22 rfl rfl ?_
    refine r_iload_n (q := 24) dJ5_ensureCapacityInternal_d00df_23 rfl rfl ?_
    refine r_cU (q := 27) (As := [.int _]) wc_J5_104 im_J5_newCapacity_0f7a4 sl_J5_newCapacity_0f7a4 hb.1 rfl rfl (Nat.le_of_ble_eq_true rfl) (Nat.le_of_eq (Nat.zero_add _)) (Nat.le_of_eq (Nat.zero_add _)) dJ5_ensureCapacityInternal_d00df_24 rfl rfl (s_J5_newCapacity_0f7a4 hb hc (by omega) hg ?_)
    refine r_aload_n (q := 28) dJ5_ensureCapacityInternal_d00df_27 rfl rfl ?_
    refine r_get (q := 31) (kk := 1) hb.1 rfl wi_RJ4 (by decide) rfl fk_J5_22 rfl dJ5_ensureCapacityInternal_d00df_28 rfl ?_
    refine r_ishl (q := 32) dJ5_ensureCapacityInternal_d00df_31 rfl ?_
    rw [sb_shl0]
    refine r_cS (q := 35) (As := [.ref _, .int _]) wc_J5_108 st_J7_copyOf_9075b rfl (Nat.le_of_ble_eq_true rfl) (show 0 + 1 + 0 ≤ kC m c by rw [kC, if_neg c14]; omega) (show 0 + (2 * c + 2) + 0 ≤ nC m c by rw [nC, if_neg c14]; omega) dJ5_ensureCapacityInternal_d00df_32 rfl rfl (s_J7_copyOf_9075b hb.2 hz hf (N := 2 * c + 2) (by omega) (by omega) fun a1 M1 hN1 hO1 => ?_)
    refine r_put' (q := 38) (kk := 0) (ty0 := tyJ4) ((hO1 _ (by simp)).trans hb.1) rfl wi_RJ4 tyJ4_ok nmJ4 (by decide) (Or.inl rfl) rfl fk_J5_15 rfl rfl (Nat.le_of_ble_eq_true rfl) dJ5_ensureCapacityInternal_d00df_35 rfl fun M2 hM2 hO2 => ?_
    refine r_ren (9, 0, 0) (99, 0, 0) (by simp) ?_
    refine r_vret dJ5_ensureCapacityInternal_d00df_38 ?_
    refine hQ a1 (va_cpy f (fun _ => 0) 0 0 c) _ ⟨(if_neg (by simp)).trans ((if_neg (by simp)).trans hM2), (if_pos rfl).trans ((hO2 _ (by simp)).trans ?_)⟩ (byt_cpy hf) (fun j hj => cpy_in hj) fun o h8 h9 => ?_
    · rw [hN1, gCap, if_neg c14]
    · by_cases e : o = (99, 0, 0)
      · rw [if_neg h9, if_pos e, e, hz]
      · rw [if_neg h9, if_neg e]
        exact (hO2 o h8).trans (hO1 o e)
theorem s_J5_isLatin1_aae02 (hb : SBr G a q ml n c f M) (hQ : Q (some (.int (nI 1))) M)  : MS G yJ5_isLatin1_aae02 cJ5_isLatin1_aae02 1 (some .boolean) d 0 0 [.ref a] M Q QX := by
  refine MS.of (by decide) (by simp [Value.category]) (Nat.le_of_ble_eq_true rfl) ?_
  show AW _ (_, _, _, _, _, _, _, _, _) _ _ _ _ [some _] _ _
  refine r_gets (q := 3) (fun s hE => hE.2.2.2.2.1) fk_J5_18 dJ5_isLatin1_aae02_0 rfl ?_
  refine r_if_eq (t := 17) (q := 6) dJ5_isLatin1_aae02_3 rfl rfl (fun c3 => ?_) (fun c3 => ?_)
  · exact absurd c3 (by decide)
  · refine r_aload_n (q := 7) dJ5_isLatin1_aae02_6 rfl rfl ?_
    refine r_get (q := 10) (kk := 1) hb.1 rfl wi_RJ4 (by decide) rfl fk_J5_22 rfl dJ5_isLatin1_aae02_7 rfl ?_
    refine r_if_ne (t := 17) (q := 13) dJ5_isLatin1_aae02_10 rfl rfl (fun c10 => ?_) (fun c10 => ?_)
    · exact absurd rfl c10
    · refine r_iconst (v := nI 1) (q := 14) dJ5_isLatin1_aae02_13 (by decide) rfl ?_
      refine r_goto (t := 18) dJ5_isLatin1_aae02_14 rfl ?_
      refine r_zret dJ5_isLatin1_aae02_18 (by first | rfl | exact narrow_bI _) ?_
      exact hQ
theorem s_J1_canEncode_fc78d {x : Nat} (hx : x < 128) (hQ : Q (some (.int (nI 1))) M)  : MS G yJ1_canEncode_fc78d cJ1_canEncode_fc78d 1 (some .boolean) d 0 0 [.int (nI x)] M Q QX := by
  refine MS.of (by decide) (by simp [Value.category]) (Nat.le_of_ble_eq_true rfl) ?_
  show AW _ (_, _, _, _, _, _, _, _, _) _ _ _ _ [some _] _ _
  refine r_iload_n (q := 1) dJ1_canEncode_fc78d_0 rfl rfl ?_
  refine r_sipush (v := nI 255) (q := 4) dJ1_canEncode_fc78d_1 (by decide) rfl ?_
  refine r_icmp_gt (t := 11) (q := 7) dJ1_canEncode_fc78d_4 rfl rfl (fun c4 => ?_) (fun c4 => ?_)
  · exact absurd c4 (by rw [nI_ltI (by decide) (by omega)]; omega)
  · refine r_iconst (v := nI 1) (q := 8) dJ1_canEncode_fc78d_7 (by decide) rfl ?_
    refine r_goto (t := 12) dJ1_canEncode_fc78d_8 rfl ?_
    refine r_zret dJ1_canEncode_fc78d_12 (by first | rfl | exact narrow_bI _) ?_
    exact hQ
theorem s_J5_length_8abf5 (hb : SBr G a q ml n c f M) (hQ : Q (some (.int (nI n))) M)  : MS G yJ5_length_8abf5 cJ5_length_8abf5 1 (some .int) d 0 0 [.ref a] M Q QX := by
  refine MS.of (by decide) (by simp [Value.category]) (Nat.le_of_ble_eq_true rfl) ?_
  show AW _ (_, _, _, _, _, _, _, _, _) _ _ _ _ [some _] _ _
  refine r_aload_n (q := 1) dJ5_length_8abf5_0 rfl rfl ?_
  refine r_get (q := 4) (kk := 3) hb.1 rfl wi_RJ4 (by decide) rfl fk_J5_79 rfl dJ5_length_8abf5_1 rfl ?_
  refine r_iret dJ5_length_8abf5_4 ?_
  exact hQ
theorem s_J5_append_3fe6f (hb : SBr G a q ml n c f M) (hz : M (99, 0, 0) = none) (hf : byt f) (hc : c < 2 ^ 18) (hn : n ≤ c) {x : Nat} (hx : x < 128) (hQ : ∀ q' f' M', SBr G a q' ml (n + 1) (gCap (n + 1) c) f' M' → byt f' → (∀ j, j < n → f' j = f j) → f' n = nI x → (∀ o, o ≠ (8, 0, 0) → o ≠ (9, 0, 0) → M' o = M o) → Q (some (.ref a)) M')  : MS G yJ5_append_3fe6f cJ5_append_3fe6f 2 (some (.object "java/lang/AbstractStringBuilder")) (d + 4) (kC (n + 1) c) (nC (n + 1) c) [.ref a, .int (nI x)] M Q QX := by
  refine MS.of (by decide) (by simp [Value.category]) (Nat.le_of_ble_eq_true rfl) ?_
  show AW _ (_, _, _, _, _, _, _, _, _) _ _ _ _ [some _, some _] _ _
  refine r_aload_n (q := 1) dJ5_append_3fe6f_0 rfl rfl ?_
  refine r_aload_n (q := 2) dJ5_append_3fe6f_1 rfl rfl ?_
  refine r_get (q := 5) (kk := 3) hb.1 rfl wi_RJ4 (by decide) rfl fk_J5_79 rfl dJ5_append_3fe6f_2 rfl ?_
  refine r_iconst (v := nI 1) (q := 6) dJ5_append_3fe6f_5 (by decide) rfl ?_
  refine r_iadd (q := 7) dJ5_append_3fe6f_6 rfl ?_
  rw [n_add]
  refine r_cU (q := 10) (As := [.int _]) wc_J5_100 im_J5_ensureCapacityInternal_d00df sl_J5_ensureCapacityInternal_d00df hb.1 rfl rfl (Nat.le_of_ble_eq_true rfl) (Nat.le_of_eq (Nat.add_zero _)) (Nat.le_of_eq (Nat.add_zero _)) dJ5_append_3fe6f_7 rfl rfl (s_J5_ensureCapacityInternal_d00df hb hz hf hc (by omega) fun q1 f1 M_7 hb_7 hf1 hk1 hO1 => ?_)
  refine r_aload_n (q := 11) dJ5_append_3fe6f_10 rfl rfl ?_
  refine r_cU (q := 14) (As := []) wc_J5_83 im_J5_isLatin1_aae02 sl_J5_isLatin1_aae02 hb_7.1 rfl rfl (Nat.le_of_ble_eq_true rfl) (Nat.le_of_eq (Nat.zero_add _)) (Nat.le_of_eq (Nat.zero_add _)) dJ5_append_3fe6f_11 rfl rfl (s_J5_isLatin1_aae02 hb_7 ?_)
  refine r_if_eq (t := 45) (q := 17) dJ5_append_3fe6f_14 rfl rfl (fun c14 => ?_) (fun c14 => ?_)
  · exact absurd c14 (by decide)
  · refine r_iload_n (q := 18) dJ5_append_3fe6f_17 rfl rfl ?_
    refine r_cS (q := 21) (As := [.int _]) wc_J5_191 st_J1_canEncode_fc78d rfl (Nat.le_of_ble_eq_true rfl) (Nat.le_of_eq (Nat.zero_add _)) (Nat.le_of_eq (Nat.zero_add _)) dJ5_append_3fe6f_18 rfl rfl (s_J1_canEncode_fc78d hx ?_)
    refine r_if_eq (t := 45) (q := 24) dJ5_append_3fe6f_21 rfl rfl (fun c21 => ?_) (fun c21 => ?_)
    · exact absurd c21 (by decide)
    · refine r_aload_n (q := 25) dJ5_append_3fe6f_24 rfl rfl ?_
      refine r_get (q := 28) (kk := 0) hb_7.1 rfl wi_RJ4 (by decide) rfl fk_J5_15 rfl dJ5_append_3fe6f_25 rfl ?_
      refine r_aload_n (q := 29) dJ5_append_3fe6f_28 rfl rfl ?_
      refine r_dup (q := 30) dJ5_append_3fe6f_29 rfl rfl ?_
      refine r_get (q := 33) (kk := 3) hb_7.1 rfl wi_RJ4 (by decide) rfl fk_J5_79 rfl dJ5_append_3fe6f_30 rfl ?_
      refine r_dup_x1 (q := 34) dJ5_append_3fe6f_33 rfl rfl rfl ?_
      refine r_iconst (v := nI 1) (q := 35) dJ5_append_3fe6f_34 (by decide) rfl ?_
      refine r_iadd (q := 36) dJ5_append_3fe6f_35 rfl ?_
      rw [n_add]
      refine r_put' (q := 39) (kk := 3) (ty0 := tyJ4) hb_7.1 rfl wi_RJ4 tyJ4_ok nmJ4 (by decide) (Or.inl rfl) rfl fk_J5_79 rfl rfl (Nat.le_of_ble_eq_true rfl) dJ5_append_3fe6f_36 rfl fun M2 hM2 hO2 => ?_
      refine r_iload_n (q := 40) dJ5_append_3fe6f_39 rfl rfl ?_
      refine r_i2b (q := 41) dJ5_append_3fe6f_40 rfl ?_
      rw [i2b_n x hx]
      have hg := gCap_ge (m := n + 1) (c := c) (by omega)
      have hg2 := gCap_le (m := n + 1) (c := c)
      refine r_bast (q := 42) (o := (9, 0, 0)) ((hO2 _ (by simp)).trans hb_7.2) (vp_in_nI (by omega) (by omega)) dJ5_append_3fe6f_41 rfl ?_
      rw [nI_clamp (by omega), nar_b x hx]
      refine r_goto (t := 75) dJ5_append_3fe6f_42 rfl ?_
      refine r_aload_n (q := 76) dJ5_append_3fe6f_75 rfl rfl ?_
      refine r_aret dJ5_append_3fe6f_76 (Or.inl ⟨_, rfl⟩) (Or.inr ⟨_, rfl⟩) ?_
      exact hQ q1 (upd f1 n (nI x)) _ ⟨(if_neg (by simp)).trans hM2, if_pos rfl⟩ (byt_upd hf1 hx) (fun j hj => (if_neg (by omega)).trans (hk1 j (by omega))) (if_pos rfl) fun o h8 h9 => (if_neg h9).trans ((hO2 o h8).trans (hO1 o h8 h9))
end W40
