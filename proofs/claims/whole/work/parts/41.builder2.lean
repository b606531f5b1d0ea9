/-! THE BUILDER OF TEXTS: numbers, its face -/
section W41
variable {G : En} {Λ : Ob → Nat} {ρ : Me} {σ : Sg} {M : Me} {d : Nat} {Q : Option Value → Me → Prop} {QX : String → Me → Prop} {a q c n : Nat} {ml : Int32} {f : Nat → Int32} {t : List Nat}
def digs (i : Nat) : List Nat := if i < 10 then [48 + i % 10] else [48 + i / 10, 48 + i % 10]
def szI (i : Nat) : Nat := if i < 10 then 1 else 2
theorem digs_len (i : Nat) : (digs i).length = szI i := by unfold digs szI; split <;> rfl
theorem digs_lt {i : Nat} (hi : i < 100) : ∀ x ∈ digs i, x < 128 := by
  intro x hx
  unfold digs at hx
  split at hx <;> simp only [List.mem_cons, List.not_mem_nil, or_false] at hx <;> omega
def dgF (i k : Nat) (f : Nat → Int32) : Nat → Int32 := if i < 10 then upd f (k - 1) (nI (48 + i % 10)) else upd (upd f (k - 1) (nI (48 + i % 10))) (k - 1 - 1) (nI (48 + i / 10))
theorem szI_le (i : Nat) : szI i ≤ 2 := by unfold szI; split <;> omega
theorem szI_ge (i : Nat) : 1 ≤ szI i := by unfold szI; split <;> omega
theorem neg_le10 : ∀ i : Nat, i < 100 → (-nI i ≤ -10 ↔ ¬ i < 10) := by decide +kernel
theorem neg_le100 : ∀ i : Nat, i < 100 → ¬ (-nI i ≤ nI 10 * -10) := by decide +kernel
theorem neg_gt100 : ∀ i : Nat, i < 100 → -100 < -nI i := by decide +kernel
theorem neg_ge9 : ∀ i : Nat, i < 100 → (-9 ≤ -nI i ↔ i < 10) := by decide +kernel
theorem neg_neg_nI (i : Nat) : - -nI i = nI i := Int32.neg_neg
theorem narrow_c : ∀ y : Nat, y < 128 → narrow .char (.int (nI y)) = .int (nI y) := by decide +kernel
theorem byt_dgF {i k : Nat} (h : byt f) (hi : i < 100) : byt (dgF i k f) := by
  unfold dgF
  split
  · exact byt_upd h (by omega)
  · exact byt_upd (byt_upd h (by omega)) (by omega)
theorem dgF_out {i k j : Nat} (h : j < k - szI i) : dgF i k f j = f j := by
  unfold dgF szI at *
  split
  · rename_i e
    simp only [if_pos e] at h
    exact upd_ne (by omega)
  · rename_i e
    simp only [if_neg e] at h
    rw [upd_ne (by omega), upd_ne (by omega)]
theorem dgF_in {i k j : Nat} (hj : j < szI i) (hk : szI i ≤ k) : dgF i k f (k - szI i + j) = nI ((digs i).getD j 0) := by
  by_cases e : i < 10
  · rw [show szI i = 1 from if_pos e] at hj hk ⊢
    rw [show dgF i k f = upd f (k - 1) (nI (48 + i % 10)) from if_pos e, show digs i = [48 + i % 10] from if_pos e]
    obtain rfl : j = 0 := by omega
    rw [Nat.add_zero]
    exact upd_self
  · rw [show szI i = 2 from if_neg e] at hj hk ⊢
    rw [show dgF i k f = upd (upd f (k - 1) (nI (48 + i % 10))) (k - 1 - 1) (nI (48 + i / 10)) from if_neg e, show digs i = [48 + i / 10, 48 + i % 10] from if_neg e]
    have hc : j = 0 ∨ j = 1 := by omega
    rcases hc with rfl | rfl
    · rw [show k - 2 + 0 = k - 1 - 1 by omega]
      exact upd_self
    · rw [show k - 2 + 1 = k - 1 by omega, upd_ne (by omega)]
      exact upd_self
theorem app_val {f' : Nat → Int32} {u : List Nat} (h1 : ∀ j, j < t.length → f j = nI (t.getD j 0)) (h2 : ∀ j, j < t.length → f' j = f j) (h3 : ∀ j, j < u.length → f' (t.length + j) = nI (u.getD j 0)) : ∀ j, j < (t ++ u).length → f' j = nI ((t ++ u).getD j 0) := by
  intro j hj
  rw [List.length_append] at hj
  by_cases h : j < t.length
  · rw [h2 j h, h1 j h, getD_lt h, getD_lt (by rw [List.length_append]; omega), List.getElem_append_left]
  · have e := h3 (j - t.length) (by omega)
    rw [show t.length + (j - t.length) = j by omega] at e
    rw [e, getD_lt (show j - t.length < u.length by omega), getD_lt (by rw [List.length_append]; omega), List.getElem_append_right (by omega)]
theorem app_lt {u : List Nat} (h1 : ∀ x ∈ t, x < 128) (h2 : ∀ x ∈ u, x < 128) : ∀ x ∈ t ++ u, x < 128 := fun x hx => (List.mem_append.mp hx).elim (h1 x) (h2 x)
theorem s_J6_stringSize_0f7a4 {i : Nat} (hi : i < 100) (hQ : Q (some (.int (nI (szI i)))) M)  : MS G yJ6_stringSize_0f7a4 cJ6_stringSize_0f7a4 4 (some .int) d 0 0 [.int (nI i)] M Q QX := by
  refine MS.of (by decide) (by simp [Value.category]) (Nat.le_of_ble_eq_true rfl) ?_
  show AW _ (_, _, _, _, _, _, _, _, _) _ _ _ _ [some _, _, _, _] _ _
  refine r_iconst (v := nI 1) (q := 1) dJ6_stringSize_0f7a4_0 (by decide) rfl ?_
  refine r_istore_n (q := 2) dJ6_stringSize_0f7a4_1 (Nat.le_of_ble_eq_true rfl) rfl rfl ?_
  show AW _ (_, _, _, _, _, _, _, _, _) _ _ _ _ [some _, some _, _, _] _ _
  refine r_iload_n (q := 3) dJ6_stringSize_0f7a4_2 rfl rfl ?_
  refine r_if_lt (t := 11) (q := 6) dJ6_stringSize_0f7a4_3 rfl rfl (fun c3 => ?_) (fun c3 => ?_)
  · exact absurd c3 (nI_pos (by omega))
  · refine r_iconst (v := nI 0) (q := 7) dJ6_stringSize_0f7a4_6 (by decide) rfl ?_
    refine r_istore_n (q := 8) dJ6_stringSize_0f7a4_7 (Nat.le_of_ble_eq_true rfl) rfl rfl ?_
    show AW _ (_, _, _, _, _, _, _, _, _) _ _ _ _ [some _, some _, _, _] _ _
    refine r_iload_n (q := 9) dJ6_stringSize_0f7a4_8 rfl rfl ?_
    refine r_ineg (q := 10) dJ6_stringSize_0f7a4_9 rfl ?_
    refine r_istore_n (q := 11) dJ6_stringSize_0f7a4_10 (Nat.le_of_ble_eq_true rfl) rfl rfl ?_
    show AW _ (_, _, _, _, _, _, _, _, _) _ _ _ _ [some _, some _, _, _] _ _
    refine r_bipush (v := (-10)) (q := 13) dJ6_stringSize_0f7a4_11 (by decide) rfl ?_
    refine r_istore_n (q := 14) dJ6_stringSize_0f7a4_13 (Nat.le_of_ble_eq_true rfl) rfl rfl ?_
    show AW _ (_, _, _, _, _, _, _, _, _) _ _ _ _ [some _, some _, some _, _] _ _
    refine r_iconst (v := nI 1) (q := 15) dJ6_stringSize_0f7a4_14 (by decide) rfl ?_
    refine r_istore_n (q := 16) dJ6_stringSize_0f7a4_15 (Nat.le_of_ble_eq_true rfl) rfl rfl ?_
    show AW _ (_, _, _, _, _, _, _, _, _) _ _ _ _ [some _, some _, some _, some _] _ _
    refine r_iload_n (q := 17) dJ6_stringSize_0f7a4_16 rfl rfl ?_
    refine r_bipush (v := nI 10) (q := 19) dJ6_stringSize_0f7a4_17 (by decide) rfl ?_
    refine r_icmp_ge (t := 42) (q := 22) dJ6_stringSize_0f7a4_19 rfl rfl (fun c19 => ?_) (fun c19 => ?_)
    · exact absurd c19 (by decide)
    · refine r_iload_n (q := 23) dJ6_stringSize_0f7a4_22 rfl rfl ?_
      refine r_iload_n (q := 24) dJ6_stringSize_0f7a4_23 rfl rfl ?_
      refine r_icmp_le (t := 31) (q := 27) dJ6_stringSize_0f7a4_24 rfl rfl (fun c24 => ?_) (fun c24 => ?_)
      · rw [neg_le10 i hi] at c24
        refine r_bipush (v := nI 10) (q := 33) dJ6_stringSize_0f7a4_31 (by decide) rfl ?_
        refine r_iload_n (q := 34) dJ6_stringSize_0f7a4_33 rfl rfl ?_
        refine r_imul (q := 35) dJ6_stringSize_0f7a4_34 rfl ?_
        refine r_istore_n (q := 36) dJ6_stringSize_0f7a4_35 (Nat.le_of_ble_eq_true rfl) rfl rfl ?_
        show AW _ (_, _, _, _, _, _, _, _, _) _ _ _ _ [some _, some _, some _, some _] _ _
        refine r_inc1 (q := 39) dJ6_stringSize_0f7a4_36 rfl (Nat.le_of_ble_eq_true rfl) rfl rfl ?_
        show AW _ (_, _, _, _, _, _, _, _, _) _ _ _ _ [some _, some _, some _, some _] _ _
        refine r_goto (t := 16) dJ6_stringSize_0f7a4_39 rfl ?_
        refine r_iload_n (q := 17) dJ6_stringSize_0f7a4_16 rfl rfl ?_
        refine r_bipush (v := nI 10) (q := 19) dJ6_stringSize_0f7a4_17 (by decide) rfl ?_
        refine r_icmp_ge (t := 42) (q := 22) dJ6_stringSize_0f7a4_19 rfl rfl (fun c19 => ?_) (fun c19 => ?_)
        · exact absurd c19 (by decide)
        · refine r_iload_n (q := 23) dJ6_stringSize_0f7a4_22 rfl rfl ?_
          refine r_iload_n (q := 24) dJ6_stringSize_0f7a4_23 rfl rfl ?_
          refine r_icmp_le (t := 31) (q := 27) dJ6_stringSize_0f7a4_24 rfl rfl (fun c24b => ?_) (fun c24b => ?_)
          · exact absurd c24b (neg_le100 i hi)
          · refine r_iload_n (q := 28) dJ6_stringSize_0f7a4_27 rfl rfl ?_
            refine r_iload_n (q := 29) dJ6_stringSize_0f7a4_28 rfl rfl ?_
            refine r_iadd (q := 30) dJ6_stringSize_0f7a4_29 rfl ?_
            refine r_iret dJ6_stringSize_0f7a4_30 ?_
            rw [show szI i = 2 from if_neg c24] at hQ
            exact hQ
      · rw [neg_le10 i hi, Classical.not_not] at c24
        rw [show szI i = 1 from if_pos c24] at hQ
        refine r_iload_n (q := 28) dJ6_stringSize_0f7a4_27 rfl rfl ?_
        refine r_iload_n (q := 29) dJ6_stringSize_0f7a4_28 rfl rfl ?_
        refine r_iadd (q := 30) dJ6_stringSize_0f7a4_29 rfl ?_
        refine r_iret dJ6_stringSize_0f7a4_30 ?_
        exact hQ
theorem s_J6_getChars_ba4f3 (h9 : M (9, 0, 0) = some (q, .inl (G.2.2.1 3, c, .inl f))) (hc : c < 2 ^ 20) {i k : Nat} (hi : i < 100) (hk : k ≤ c) (hs : szI i ≤ k) (hQ : ∀ v M', M' (9, 0, 0) = some (q, .inl (G.2.2.1 3, c, .inl (dgF i k f))) → (∀ o, o ≠ (9, 0, 0) → M' o = M o) → Q (some (.int v)) M')  : MS G yJ6_getChars_ba4f3 cJ6_getChars_ba4f3 7 (some .int) d 0 0 [.int (nI i), .int (nI k), .ref q] M Q QX := by
  have hm : i % 10 < 10 := Nat.mod_lt _ (by decide)
  have hs1 := szI_ge i
  refine MS.of (by decide) (by simp [Value.category]) (Nat.le_of_ble_eq_true rfl) ?_
  show AW _ (_, _, _, _, _, _, _, _, _) _ _ _ _ [some _, some _, some _, _, _, _, _] _ _
  refine r_iload_n (q := 1) dJ6_getChars_ba4f3_0 rfl rfl ?_
  refine r_istore (q := 3) dJ6_getChars_ba4f3_1 (Nat.le_of_ble_eq_true rfl) rfl rfl ?_
  show AW _ (_, _, _, _, _, _, _, _, _) _ _ _ _ [some _, some _, some _, _, _, some _, _] _ _
  refine r_iload_n (q := 4) dJ6_getChars_ba4f3_3 rfl rfl ?_
  refine r_if_ge (t := 11) (q := 7) dJ6_getChars_ba4f3_4 rfl rfl (fun c4 => ?_) (fun c4 => ?_)
  · refine r_iconst (v := nI 0) (q := 12) dJ6_getChars_ba4f3_11 (by decide) rfl ?_
    refine r_istore (q := 14) dJ6_getChars_ba4f3_12 (Nat.le_of_ble_eq_true rfl) rfl rfl ?_
    show AW _ (_, _, _, _, _, _, _, _, _) _ _ _ _ [some _, some _, some _, _, _, some _, some _] _ _
    refine r_iload (q := 16) dJ6_getChars_ba4f3_14 rfl rfl ?_
    refine r_if_ne (t := 22) (q := 19) dJ6_getChars_ba4f3_16 rfl rfl (fun c16 => ?_) (fun c16 => ?_)
    · exact absurd rfl c16
    · refine r_iload_n (q := 20) dJ6_getChars_ba4f3_19 rfl rfl ?_
      refine r_ineg (q := 21) dJ6_getChars_ba4f3_20 rfl ?_
      refine r_istore_n (q := 22) dJ6_getChars_ba4f3_21 (Nat.le_of_ble_eq_true rfl) rfl rfl ?_
      show AW _ (_, _, _, _, _, _, _, _, _) _ _ _ _ [some _, some _, some _, _, _, some _, some _] _ _
      refine r_iload_n (q := 23) dJ6_getChars_ba4f3_22 rfl rfl ?_
      refine r_bipush (v := (-100)) (q := 25) dJ6_getChars_ba4f3_23 (by decide) rfl ?_
      refine r_icmp_gt (t := 72) (q := 28) dJ6_getChars_ba4f3_25 rfl rfl (fun c25 => ?_) (fun c25 => ?_)
      · refine r_aload_n (q := 73) dJ6_getChars_ba4f3_72 rfl rfl ?_
        refine r_iinc (q := 76) dJ6_getChars_ba4f3_73 rfl (n_m1 (by omega)) (Nat.le_of_ble_eq_true rfl) rfl rfl ?_
        show AW _ (_, _, _, _, _, _, _, _, _) _ _ _ _ [some _, some _, some _, _, _, some _, some _] _ _
        refine r_iload (q := 78) dJ6_getChars_ba4f3_76 rfl rfl ?_
        refine r_gets (q := 81) (fun s hE => hE.2.2.2.2.2.2.1) fk_J6_83 dJ6_getChars_ba4f3_78 rfl ?_
        refine r_iload_n (q := 82) dJ6_getChars_ba4f3_81 rfl rfl ?_
        refine r_ineg (q := 83) dJ6_getChars_ba4f3_82 rfl ?_
        rw [neg_neg_nI]
        refine r_tb (q := 84) (fun s hE => hE.2.2.2.2.2.2.2.2.1) (vp_in_nI (by omega) (by decide)) (v := .int (nI (48 + i % 10))) (by show Value.int (nI (48 + (nI i).toNatClampNeg % 10)) = _; rw [nI_clamp (by omega)]) dJ6_getChars_ba4f3_83 rfl ?_
        refine r_bast (q := 85) (o := (9, 0, 0)) h9 (vp_in_nI (by omega) (by omega)) dJ6_getChars_ba4f3_84 rfl ?_
        rw [nI_clamp (by omega), nar_b _ (by omega)]
        refine r_iload_n (q := 86) dJ6_getChars_ba4f3_85 rfl rfl ?_
        refine r_bipush (v := (-9)) (q := 88) dJ6_getChars_ba4f3_86 (by decide) rfl ?_
        refine r_icmp_ge (t := 104) (q := 91) dJ6_getChars_ba4f3_88 rfl rfl (fun c88 => ?_) (fun c88 => ?_)
        · rw [neg_ge9 i hi] at c88
          refine r_iload (q := 106) dJ6_getChars_ba4f3_104 rfl rfl ?_
          refine r_if_eq (t := 118) (q := 109) dJ6_getChars_ba4f3_106 rfl rfl (fun c106 => ?_) (fun c106 => ?_)
          · refine r_iload (q := 120) dJ6_getChars_ba4f3_118 rfl rfl ?_
            refine r_iret dJ6_getChars_ba4f3_120 ?_
            first
              | exact hQ _ _ (by rw [dgF, if_pos c88]; exact if_pos rfl) fun o ho => if_neg ho
              | exact hQ _ _ (by rw [dgF, if_neg c88]; exact if_pos rfl) fun o ho => (if_neg ho).trans (if_neg ho)
          · exact absurd rfl c106
        · rw [neg_ge9 i hi] at c88
          have hs2 : szI i = 2 := if_neg c88
          refine r_aload_n (q := 92) dJ6_getChars_ba4f3_91 rfl rfl ?_
          refine r_iinc (q := 95) dJ6_getChars_ba4f3_92 rfl (n_m1 (by omega)) (Nat.le_of_ble_eq_true rfl) rfl rfl ?_
          show AW _ (_, _, _, _, _, _, _, _, _) _ _ _ _ [some _, some _, some _, _, _, some _, some _] _ _
          refine r_iload (q := 97) dJ6_getChars_ba4f3_95 rfl rfl ?_
          refine r_gets (q := 100) (fun s hE => hE.2.2.2.2.2.1) fk_J6_87 dJ6_getChars_ba4f3_97 rfl ?_
          refine r_iload_n (q := 101) dJ6_getChars_ba4f3_100 rfl rfl ?_
          refine r_ineg (q := 102) dJ6_getChars_ba4f3_101 rfl ?_
          rw [neg_neg_nI]
          refine r_tb (q := 103) (fun s hE => hE.2.2.2.2.2.2.2.1) (vp_in_nI (by omega) (by decide)) (v := .int (nI (48 + i / 10))) (by show Value.int (nI (48 + (nI i).toNatClampNeg / 10)) = _; rw [nI_clamp (by omega)]) dJ6_getChars_ba4f3_102 rfl ?_
          refine r_bast (q := 104) (o := (9, 0, 0)) (if_pos rfl) (vp_in_nI (by omega) (by omega)) dJ6_getChars_ba4f3_103 rfl ?_
          rw [nI_clamp (by omega), nar_b _ (by omega)]
          refine r_iload (q := 106) dJ6_getChars_ba4f3_104 rfl rfl ?_
          refine r_if_eq (t := 118) (q := 109) dJ6_getChars_ba4f3_106 rfl rfl (fun c106 => ?_) (fun c106 => ?_)
          · refine r_iload (q := 120) dJ6_getChars_ba4f3_118 rfl rfl ?_
            refine r_iret dJ6_getChars_ba4f3_120 ?_
            first
              | exact hQ _ _ (by rw [dgF, if_pos c88]; exact if_pos rfl) fun o ho => if_neg ho
              | exact hQ _ _ (by rw [dgF, if_neg c88]; exact if_pos rfl) fun o ho => (if_neg ho).trans (if_neg ho)
          · exact absurd rfl c106
      · exact absurd (neg_gt100 i hi) c25
  · exact absurd (nI_pos' (by omega)) c4
theorem s_J5_append_c97b9 (hb : SBr G a q ml n c f M) (hz : M (99, 0, 0) = none) (hf : byt f) (hc : c < 2 ^ 18) (hc1 : 1 ≤ c) (hn : n ≤ c) {i : Nat} (hi : i < 100) (hQ : ∀ q' f' M', SBr G a q' ml (n + szI i) (gCap (n + szI i) c) f' M' → byt f' → (∀ j, j < n → f' j = f j) → (∀ j, j < szI i → f' (n + j) = nI ((digs i).getD j 0)) → (∀ o, o ≠ (8, 0, 0) → o ≠ (9, 0, 0) → M' o = M o) → Q (some (.ref a)) M')  : MS G yJ5_append_c97b9 cJ5_append_c97b9 4 (some (.object "java/lang/AbstractStringBuilder")) (d + 4) (kC (n + szI i) c) (nC (n + szI i) c) [.ref a, .int (nI i)] M Q QX := by
  have hs2 := szI_le i
  have hs1 := szI_ge i
  have hge := gCap_ge (m := n + szI i) (c := c) (by omega)
  have hle := gCap_le (m := n + szI i) (c := c)
  refine MS.of (by decide) (by simp [Value.category]) (Nat.le_of_ble_eq_true rfl) ?_
  show AW _ (_, _, _, _, _, _, _, _, _) _ _ _ _ [some _, some _, _, _] _ _
  refine r_aload_n (q := 1) dJ5_append_c97b9_0 rfl rfl ?_
  refine r_get (q := 4) (kk := 3) hb.1 rfl wi_RJ4 (by decide) rfl fk_J5_79 rfl dJ5_append_c97b9_1 rfl ?_
  refine r_istore_n (q := 5) dJ5_append_c97b9_4 (Nat.le_of_ble_eq_true rfl) rfl rfl ?_
  show AW _ (_, _, _, _, _, _, _, _, _) _ _ _ _ [some _, some _, some _, _] _ _
  refine r_iload_n (q := 6) dJ5_append_c97b9_5 rfl rfl ?_
  refine r_iload_n (q := 7) dJ5_append_c97b9_6 rfl rfl ?_
  refine r_cS (q := 10) (As := [.int _]) wc_J5_245 st_J6_stringSize_0f7a4 rfl (Nat.le_of_ble_eq_true rfl) (Nat.le_of_eq (Nat.zero_add _)) (Nat.le_of_eq (Nat.zero_add _)) dJ5_append_c97b9_7 rfl rfl (s_J6_stringSize_0f7a4 hi ?_)
  refine r_iadd (q := 11) dJ5_append_c97b9_10 rfl ?_
  rw [n_add]
  refine r_istore_n (q := 12) dJ5_append_c97b9_11 (Nat.le_of_ble_eq_true rfl) rfl rfl ?_
  show AW _ (_, _, _, _, _, _, _, _, _) _ _ _ _ [some _, some _, some _, some _] _ _
  refine r_aload_n (q := 13) dJ5_append_c97b9_12 rfl rfl ?_
  refine r_iload_n (q := 14) dJ5_append_c97b9_13 rfl rfl ?_
  refine r_cU (q := 17) (As := [.int _]) wc_J5_100 im_J5_ensureCapacityInternal_d00df sl_J5_ensureCapacityInternal_d00df hb.1 rfl rfl (Nat.le_of_ble_eq_true rfl) (Nat.le_of_eq (Nat.add_zero _)) (Nat.le_of_eq (Nat.add_zero _)) dJ5_append_c97b9_14 rfl rfl (s_J5_ensureCapacityInternal_d00df hb hz hf hc (by omega) fun q1 f1 M_14 hb_14 hf1 hk1 hO1 => ?_)
  refine r_aload_n (q := 18) dJ5_append_c97b9_17 rfl rfl ?_
  refine r_cU (q := 21) (As := []) wc_J5_83 im_J5_isLatin1_aae02 sl_J5_isLatin1_aae02 hb_14.1 rfl rfl (Nat.le_of_ble_eq_true rfl) (Nat.le_of_eq (Nat.zero_add _)) (Nat.le_of_eq (Nat.zero_add _)) dJ5_append_c97b9_18 rfl rfl (s_J5_isLatin1_aae02 hb_14 ?_)
  refine r_if_eq (t := 37) (q := 24) dJ5_append_c97b9_21 rfl rfl (fun c21 => ?_) (fun c21 => ?_)
  · exact absurd c21 (by decide)
  · refine r_iload_n (q := 25) dJ5_append_c97b9_24 rfl rfl ?_
    refine r_iload_n (q := 26) dJ5_append_c97b9_25 rfl rfl ?_
    refine r_aload_n (q := 27) dJ5_append_c97b9_26 rfl rfl ?_
    refine r_get (q := 30) (kk := 0) hb_14.1 rfl wi_RJ4 (by decide) rfl fk_J5_15 rfl dJ5_append_c97b9_27 rfl ?_
    refine r_cS (q := 33) (As := [.int _, .int _, .ref _]) wc_J5_248 st_J6_getChars_ba4f3 rfl (Nat.le_of_ble_eq_true rfl) (Nat.le_of_eq (Nat.zero_add _)) (Nat.le_of_eq (Nat.zero_add _)) dJ5_append_c97b9_30 rfl rfl (s_J6_getChars_ba4f3 hb_14.2 (by omega) hi hge (by omega) fun v2 M2 hN2 hO2 => ?_)
    refine r_pop (q := 34) dJ5_append_c97b9_33 rfl rfl ?_
    refine r_goto (t := 48) dJ5_append_c97b9_34 rfl ?_
    refine r_aload_n (q := 49) dJ5_append_c97b9_48 rfl rfl ?_
    refine r_iload_n (q := 50) dJ5_append_c97b9_49 rfl rfl ?_
    refine r_put' (q := 53) (kk := 3) (ty0 := tyJ4) ((hO2 _ (by simp)).trans hb_14.1) rfl wi_RJ4 tyJ4_ok nmJ4 (by decide) (Or.inl rfl) rfl fk_J5_79 rfl rfl (Nat.le_of_ble_eq_true rfl) dJ5_append_c97b9_50 rfl fun M3 hM3 hO3 => ?_
    refine r_aload_n (q := 54) dJ5_append_c97b9_53 rfl rfl ?_
    refine r_aret dJ5_append_c97b9_54 (Or.inl ⟨_, rfl⟩) (Or.inr ⟨_, rfl⟩) ?_
    refine hQ q1 (dgF i (n + szI i) f1) _ ⟨hM3, (hO3 _ (by simp)).trans hN2⟩ (byt_dgF hf1 hi) (fun j hj => (dgF_out (by omega)).trans (hk1 j (by omega))) (fun j hj => ?_) fun o h8 h9 => (hO3 o h8).trans ((hO2 o h9).trans (hO1 o h8 h9))
    have e := dgF_in (f := f1) hj (show szI i ≤ n + szI i by omega)
    rw [Nat.add_sub_cancel] at e
    exact e
theorem s_J5_setLength_d00df (hb : SBr G a q ml n c f M) (hz : M (99, 0, 0) = none) (hf : byt f) (hc : c < 2 ^ 18) (hn : n ≤ c) (hQ : ∀ ml' q' f' M', SBr G a q' ml' 0 c f' M' → byt f' → (∀ o, o ≠ (8, 0, 0) → o ≠ (9, 0, 0) → M' o = M o) → Q none M')  : MS G yJ5_setLength_d00df cJ5_setLength_d00df 2 none (d + 4) 0 0 [.ref a, .int (nI 0)] M Q QX := by
  refine MS.of (by decide) (by simp [Value.category]) (Nat.le_of_ble_eq_true rfl) ?_
  show AW _ (_, _, _, _, _, _, _, _, _) _ _ _ _ [some _, some _] _ _
  refine r_iload_n (q := 1) dJ5_setLength_d00df_0 rfl rfl ?_
  refine r_if_ge (t := 13) (q := 4) dJ5_setLength_d00df_1 rfl rfl (fun c1 => ?_) (fun c1 => ?_)
  · refine r_aload_n (q := 14) dJ5_setLength_d00df_13 rfl rfl ?_
    refine r_iload_n (q := 15) dJ5_setLength_d00df_14 rfl rfl ?_
    refine r_cU (q := 18) (As := [.int _]) wc_J5_100 im_J5_ensureCapacityInternal_d00df sl_J5_ensureCapacityInternal_d00df hb.1 rfl rfl (Nat.le_of_ble_eq_true rfl) (show kC 0 c + 0 ≤ 0 by rw [kC, if_pos (Nat.zero_le c)]; omega) (show nC 0 c + 0 ≤ 0 by rw [nC, if_pos (Nat.zero_le c)]; omega) dJ5_setLength_d00df_15 rfl rfl (s_J5_ensureCapacityInternal_d00df hb hz hf hc (Nat.zero_le _) fun q1 f1 M_15 hb_15 hf1 hk1 hO1 => ?_)
    rw [show gCap 0 c = c from if_pos (Nat.zero_le c)] at hb_15
    refine r_aload_n (q := 19) dJ5_setLength_d00df_18 rfl rfl ?_
    refine r_get (q := 22) (kk := 3) hb_15.1 rfl wi_RJ4 (by decide) rfl fk_J5_79 rfl dJ5_setLength_d00df_19 rfl ?_
    refine r_iload_n (q := 23) dJ5_setLength_d00df_22 rfl rfl ?_
    refine r_icmp_ge (t := 63) (q := 26) dJ5_setLength_d00df_23 rfl rfl (fun c23 => ?_) (fun c23 => ?_)
    · refine r_aload_n (q := 64) dJ5_setLength_d00df_63 rfl rfl ?_
      refine r_get (q := 67) (kk := 3) hb_15.1 rfl wi_RJ4 (by decide) rfl fk_J5_79 rfl dJ5_setLength_d00df_64 rfl ?_
      refine r_iload_n (q := 68) dJ5_setLength_d00df_67 rfl rfl ?_
      refine r_icmp_le (t := 76) (q := 71) dJ5_setLength_d00df_68 rfl rfl (fun c68 => ?_) (fun c68 => ?_)
      · refine r_aload_n (q := 77) dJ5_setLength_d00df_76 rfl rfl ?_
        refine r_iload_n (q := 78) dJ5_setLength_d00df_77 rfl rfl ?_
        refine r_put' (q := 81) (kk := 3) (ty0 := tyJ4) hb_15.1 rfl wi_RJ4 tyJ4_ok nmJ4 (by decide) (Or.inl rfl) rfl fk_J5_79 rfl rfl (Nat.le_of_ble_eq_true rfl) dJ5_setLength_d00df_78 rfl fun M3 hM3 hO3 => ?_
        refine r_vret dJ5_setLength_d00df_81 ?_
        refine hQ _ q1 f1 _ ⟨hM3, (hO3 _ (by simp)).trans hb_15.2⟩ hf1 fun o h8 h9 => ?_
        first
          | exact (hO3 o h8).trans ((hO2 o h8).trans (hO1 o h8 h9))
          | exact (hO3 o h8).trans (hO1 o h8 h9)
      · refine r_aload_n (q := 72) dJ5_setLength_d00df_71 rfl rfl ?_
        refine r_iconst (v := nI 1) (q := 73) dJ5_setLength_d00df_72 (by decide) rfl ?_
        refine r_put' (q := 76) (kk := 2) (ty0 := tyJ4) hb_15.1 rfl wi_RJ4 tyJ4_ok nmJ4 (by decide) (Or.inl rfl) rfl fk_J5_73 rfl rfl (Nat.le_of_ble_eq_true rfl) dJ5_setLength_d00df_73 rfl fun M2 hM2 hO2 => ?_
        have hb2 : SBr G a q1 (nI 1) n c f1 M2 := ⟨hM2, (hO2 _ (by simp)).trans hb_15.2⟩
        refine r_aload_n (q := 77) dJ5_setLength_d00df_76 rfl rfl ?_
        refine r_iload_n (q := 78) dJ5_setLength_d00df_77 rfl rfl ?_
        refine r_put' (q := 81) (kk := 3) (ty0 := tyJ4) hb2.1 rfl wi_RJ4 tyJ4_ok nmJ4 (by decide) (Or.inl rfl) rfl fk_J5_79 rfl rfl (Nat.le_of_ble_eq_true rfl) dJ5_setLength_d00df_78 rfl fun M3 hM3 hO3 => ?_
        refine r_vret dJ5_setLength_d00df_81 ?_
        refine hQ _ q1 f1 _ ⟨hM3, (hO3 _ (by simp)).trans hb2.2⟩ hf1 fun o h8 h9 => ?_
        first
          | exact (hO3 o h8).trans ((hO2 o h8).trans (hO1 o h8 h9))
          | exact (hO3 o h8).trans (hO1 o h8 h9)
    · exact absurd (by rw [nI_leI (by decide) (by omega)]; omega) c23
  · exact absurd (nI_pos' (by decide)) c1
theorem s_J5_charAt_5068e (hb : SBr G a q ml n c f M) (hc : c < 2 ^ 18) (hn : n ≤ c) {j y : Nat} (hj : j < n) (hv : f j = nI y) (hy : y < 128) (hQ : Q (some (.int (nI y))) M)  : MS G yJ5_charAt_5068e cJ5_charAt_5068e 5 (some .char) (d + 2) 0 0 [.ref a, .int (nI j)] M Q QX := by
  refine MS.of (by decide) (by simp [Value.category]) (Nat.le_of_ble_eq_true rfl) ?_
  show AW _ (_, _, _, _, _, _, _, _, _) _ _ _ _ [some _, some _, _, _, _] _ _
  refine r_aload_n (q := 1) dJ5_charAt_5068e_0 rfl rfl ?_
  refine r_get (q := 4) (kk := 1) hb.1 rfl wi_RJ4 (by decide) rfl fk_J5_22 rfl dJ5_charAt_5068e_1 rfl ?_
  refine r_istore_n (q := 5) dJ5_charAt_5068e_4 (Nat.le_of_ble_eq_true rfl) rfl rfl ?_
  show AW _ (_, _, _, _, _, _, _, _, _) _ _ _ _ [some _, some _, some _, _, _] _ _
  refine r_aload_n (q := 6) dJ5_charAt_5068e_5 rfl rfl ?_
  refine r_get (q := 9) (kk := 0) hb.1 rfl wi_RJ4 (by decide) rfl fk_J5_15 rfl dJ5_charAt_5068e_6 rfl ?_
  refine r_astore_n (q := 10) dJ5_charAt_5068e_9 (Nat.le_of_ble_eq_true rfl) rfl rfl ?_
  show AW _ (_, _, _, _, _, _, _, _, _) _ _ _ _ [some _, some _, some _, some _, _] _ _
  refine r_aload_n (q := 11) dJ5_charAt_5068e_10 rfl rfl ?_
  refine r_get (q := 14) (kk := 3) hb.1 rfl wi_RJ4 (by decide) rfl fk_J5_79 rfl dJ5_charAt_5068e_11 rfl ?_
  refine r_aload_n (q := 15) dJ5_charAt_5068e_14 rfl rfl ?_
  refine r_alen (q := 16) hb.2 (t := 3) (v := nI c) rfl rfl dJ5_charAt_5068e_15 rfl ?_
  refine r_iload_n (q := 17) dJ5_charAt_5068e_16 rfl rfl ?_
  refine r_ishr (q := 18) dJ5_charAt_5068e_17 rfl ?_
  rw [sb_shr0]
  refine r_mmin (q := 21) ml_J5_138 dJ5_charAt_5068e_18 rfl (Nat.le_of_ble_eq_true rfl) ?_
  rw [min_nI (by omega) (by omega), Nat.min_eq_left (by omega)]
  refine r_istore (q := 23) dJ5_charAt_5068e_21 (Nat.le_of_ble_eq_true rfl) rfl rfl ?_
  show AW _ (_, _, _, _, _, _, _, _, _) _ _ _ _ [some _, some _, some _, some _, some _] _ _
  refine r_iload_n (q := 24) dJ5_charAt_5068e_23 rfl rfl ?_
  refine r_iload (q := 26) dJ5_charAt_5068e_24 rfl rfl ?_
  refine r_cS (q := 29) (As := [.int _, .int _]) wc_J5_144 st_J0_checkIndex_df160 rfl (Nat.le_of_ble_eq_true rfl) (Nat.le_of_eq (Nat.zero_add _)) (Nat.le_of_eq (Nat.zero_add _)) dJ5_charAt_5068e_26 rfl rfl (s_J0_checkIndex_df160 hj (by omega) ?_)
  refine r_iload_n (q := 30) dJ5_charAt_5068e_29 rfl rfl ?_
  refine r_if_ne (t := 42) (q := 33) dJ5_charAt_5068e_30 rfl rfl (fun c30 => ?_) (fun c30 => ?_)
  · exact absurd rfl c30
  · refine r_aload_n (q := 34) dJ5_charAt_5068e_33 rfl rfl ?_
    refine r_iload_n (q := 35) dJ5_charAt_5068e_34 rfl rfl ?_
    refine r_bald (q := 36) hb.2 (vp_in_nI (by omega) (by omega)) dJ5_charAt_5068e_35 rfl ?_
    rw [nI_clamp (by omega), hv]
    refine r_sipush (v := nI 255) (q := 39) dJ5_charAt_5068e_36 (by decide) rfl ?_
    refine r_iand (q := 40) dJ5_charAt_5068e_39 rfl ?_
    rw [and255 y (by omega)]
    refine r_i2c (q := 41) dJ5_charAt_5068e_40 rfl ?_
    rw [i2c_n (by omega)]
    refine r_zret dJ5_charAt_5068e_41 (narrow_c y hy) ?_
    exact hQ
theorem s_J4_append_cf468 (h : RTx G Λ t c M) (hz : M (99, 0, 0) = none) (hc : c ≤ 30000) {x : Nat} (hx : x < 128) (hQ : ∀ M', RTx G Λ (t ++ [x]) (gCap (t.length + 1) c) M' → (∀ o, o ≠ (8, 0, 0) → o ≠ (9, 0, 0) → M' o = M o) → Q (some (.ref (Λ (8, 0, 0)))) M')  : MS G yJ4_append_cf468 cJ4_append_cf468 2 (some (.object "java/lang/StringBuilder")) (d + 5) (kC (t.length + 1) c) (nC (t.length + 1) c) [.ref (Λ (8, 0, 0)), .int (nI x)] M Q QX := by
  obtain ⟨q, ml, f, g1, g2, hl, hcc, ht, hfj, hf⟩ := h
  have hb : SBr G (Λ (8, 0, 0)) q ml t.length c f M := ⟨g1, g2⟩
  refine MS.of (by decide) (by simp [Value.category]) (Nat.le_of_ble_eq_true rfl) ?_
  show AW _ (_, _, _, _, _, _, _, _, _) _ _ _ _ [some _, some _] _ _
  refine r_aload_n (q := 1) dJ4_append_cf468_0 rfl rfl ?_
  refine r_iload_n (q := 2) dJ4_append_cf468_1 rfl rfl ?_
  refine r_cSU (q := 5) (As := [.int _]) wc_J4_50 im_J5_append_3fe6f sm_J5_append_3fe6f sup_J4 (by decide) hb.1 rfl rfl (Nat.le_of_ble_eq_true rfl) (Nat.le_of_eq (Nat.add_zero _)) (Nat.le_of_eq (Nat.add_zero _)) dJ4_append_cf468_2 rfl rfl (s_J5_append_3fe6f hb hz hf (by omega) hl hx fun q1 f1 M_2 hb_2 hf1 hk1 hv1 hO1 => ?_)
  refine r_pop (q := 6) dJ4_append_cf468_5 rfl rfl ?_
  refine r_aload_n (q := 7) dJ4_append_cf468_6 rfl rfl ?_
  refine r_aret dJ4_append_cf468_7 (Or.inl ⟨_, rfl⟩) (Or.inr ⟨_, rfl⟩) ?_
  have hge := gCap_ge (m := t.length + 1) (c := c) (by omega)
  have hle := gCap_le (m := t.length + 1) (c := c)
  refine hQ _ ⟨q1, ml, f1, by rw [List.length_append]; exact hb_2.1, hb_2.2, by rw [List.length_append]; exact hge, by omega, app_lt ht (fun y hy => by rw [List.mem_singleton.mp hy]; exact hx), app_val hfj hk1 (fun j hj => ?_), hf1⟩ hO1
  obtain rfl : j = 0 := by simp at hj; omega
  exact hv1
theorem s_J4_append_bf812 (h : RTx G Λ t c M) (hz : M (99, 0, 0) = none) (hc : c ≤ 30000) (hc1 : 1 ≤ c) {i : Nat} (hi : i < 100) (hQ : ∀ M', RTx G Λ (t ++ digs i) (gCap (t.length + szI i) c) M' → (∀ o, o ≠ (8, 0, 0) → o ≠ (9, 0, 0) → M' o = M o) → Q (some (.ref (Λ (8, 0, 0)))) M')  : MS G yJ4_append_bf812 cJ4_append_bf812 2 (some (.object "java/lang/StringBuilder")) (d + 5) (kC (t.length + szI i) c) (nC (t.length + szI i) c) [.ref (Λ (8, 0, 0)), .int (nI i)] M Q QX := by
  obtain ⟨q, ml, f, g1, g2, hl, hcc, ht, hfj, hf⟩ := h
  have hb : SBr G (Λ (8, 0, 0)) q ml t.length c f M := ⟨g1, g2⟩
  refine MS.of (by decide) (by simp [Value.category]) (Nat.le_of_ble_eq_true rfl) ?_
  show AW _ (_, _, _, _, _, _, _, _, _) _ _ _ _ [some _, some _] _ _
  refine r_aload_n (q := 1) dJ4_append_bf812_0 rfl rfl ?_
  refine r_iload_n (q := 2) dJ4_append_bf812_1 rfl rfl ?_
  refine r_cSU (q := 5) (As := [.int _]) wc_J4_53 im_J5_append_c97b9 sm_J5_append_c97b9 sup_J4 (by decide) hb.1 rfl rfl (Nat.le_of_ble_eq_true rfl) (Nat.le_of_eq (Nat.add_zero _)) (Nat.le_of_eq (Nat.add_zero _)) dJ4_append_bf812_2 rfl rfl (s_J5_append_c97b9 hb hz hf (by omega) hc1 hl hi fun q1 f1 M_2 hb_2 hf1 hk1 hv1 hO1 => ?_)
  refine r_pop (q := 6) dJ4_append_bf812_5 rfl rfl ?_
  refine r_aload_n (q := 7) dJ4_append_bf812_6 rfl rfl ?_
  refine r_aret dJ4_append_bf812_7 (Or.inl ⟨_, rfl⟩) (Or.inr ⟨_, rfl⟩) ?_
  have hs2 := szI_le i
  have hge := gCap_ge (m := t.length + szI i) (c := c) (by omega)
  have hle := gCap_le (m := t.length + szI i) (c := c)
  refine hQ _ ⟨q1, ml, f1, by rw [List.length_append, digs_len]; exact hb_2.1, hb_2.2, by rw [List.length_append, digs_len]; exact hge, by omega, app_lt ht (digs_lt hi), app_val hfj hk1 (fun j hj => hv1 j (by rw [digs_len] at hj; exact hj)), hf1⟩ hO1
theorem s_J4_setLength_d00df (h : RTx G Λ t c M) (hz : M (99, 0, 0) = none) (hc : c ≤ 30000) (hQ : ∀ M', RTx G Λ [] c M' → (∀ o, o ≠ (8, 0, 0) → o ≠ (9, 0, 0) → M' o = M o) → Q none M')  : MS G yJ4_setLength_d00df cJ4_setLength_d00df 2 none (d + 5) 0 0 [.ref (Λ (8, 0, 0)), .int (nI 0)] M Q QX := by
  obtain ⟨q, ml, f, g1, g2, hl, hcc, ht, hfj, hf⟩ := h
  have hb : SBr G (Λ (8, 0, 0)) q ml t.length c f M := ⟨g1, g2⟩
  refine MS.of (by decide) (by simp [Value.category]) (Nat.le_of_ble_eq_true rfl) ?_
  show AW _ (_, _, _, _, _, _, _, _, _) _ _ _ _ [some _, some _] _ _
  refine r_aload_n (q := 1) dJ4_setLength_d00df_0 rfl rfl ?_
  refine r_iload_n (q := 2) dJ4_setLength_d00df_1 rfl rfl ?_
  refine r_cSU (q := 5) (As := [.int _]) wc_J4_333 im_J5_setLength_d00df sm_J5_setLength_d00df sup_J4 (by decide) hb.1 rfl rfl (Nat.le_of_ble_eq_true rfl) (Nat.le_of_eq (Nat.zero_add _)) (Nat.le_of_eq (Nat.zero_add _)) dJ4_setLength_d00df_2 rfl rfl (s_J5_setLength_d00df hb hz hf (by omega) hl fun ml1 q1 f1 M_2 hb_2 hf1 hO1 => ?_)
  refine r_vret dJ4_setLength_d00df_5 ?_
  exact hQ _ ⟨q1, ml1, f1, hb_2.1, hb_2.2, Nat.zero_le _, by omega, fun _ h9 => by simp at h9, fun _ h9 => by simp at h9, hf1⟩ hO1
theorem s_J4_length_8abf5 (h : RTx G Λ t c M) (hQ : Q (some (.int (nI t.length))) M)  : MS G yJ4_length_8abf5 cJ4_length_8abf5 1 (some .int) (d + 1) 0 0 [.ref (Λ (8, 0, 0))] M Q QX := by
  obtain ⟨q, ml, f, g1, g2, hl, hcc, ht, hfj, hf⟩ := h
  have hb : SBr G (Λ (8, 0, 0)) q ml t.length c f M := ⟨g1, g2⟩
  refine MS.of (by decide) (by simp [Value.category]) (Nat.le_of_ble_eq_true rfl) ?_
  show AW _ (_, _, _, _, _, _, _, _, _) _ _ _ _ [some _] _ _
  refine r_aload_n (q := 1) dJ4_length_8abf5_0 rfl rfl ?_
  refine r_cSU (q := 4) (As := []) wc_J4_343 im_J5_length_8abf5 sm_J5_length_8abf5 sup_J4 (by decide) hb.1 rfl rfl (Nat.le_of_ble_eq_true rfl) (Nat.le_of_eq (Nat.zero_add _)) (Nat.le_of_eq (Nat.zero_add _)) dJ4_length_8abf5_1 rfl rfl (s_J5_length_8abf5 hb ?_)
  refine r_iret dJ4_length_8abf5_4 ?_
  exact hQ
theorem s_J4_charAt_5068e (h : RTx G Λ t c M) (hc : c ≤ 30000) {j : Nat} (hj : j < t.length) (hQ : Q (some (.int (nI (t.getD j 0)))) M)  : MS G yJ4_charAt_5068e cJ4_charAt_5068e 2 (some .char) (d + 3) 0 0 [.ref (Λ (8, 0, 0)), .int (nI j)] M Q QX := by
  obtain ⟨q, ml, f, g1, g2, hl, hcc, ht, hfj, hf⟩ := h
  have hb : SBr G (Λ (8, 0, 0)) q ml t.length c f M := ⟨g1, g2⟩
  have hy : t.getD j 0 < 128 := getD_all (by decide) ht j
  refine MS.of (by decide) (by simp [Value.category]) (Nat.le_of_ble_eq_true rfl) ?_
  show AW _ (_, _, _, _, _, _, _, _, _) _ _ _ _ [some _, some _] _ _
  refine r_aload_n (q := 1) dJ4_charAt_5068e_0 rfl rfl ?_
  refine r_iload_n (q := 2) dJ4_charAt_5068e_1 rfl rfl ?_
  refine r_cSU (q := 5) (As := [.int _]) wc_J4_329 im_J5_charAt_5068e sm_J5_charAt_5068e sup_J4 (by decide) hb.1 rfl rfl (Nat.le_of_ble_eq_true rfl) (Nat.le_of_eq (Nat.zero_add _)) (Nat.le_of_eq (Nat.zero_add _)) dJ4_charAt_5068e_2 rfl rfl (s_J5_charAt_5068e hb (by omega) hl hj (hfj j hj) hy ?_)
  refine r_zret dJ4_charAt_5068e_5 (narrow_c _ hy) ?_
  exact hQ
end W41
