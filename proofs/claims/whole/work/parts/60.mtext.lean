/-! THE MODEL: texts -/
section W60
variable {G : En} {Λ : Ob → Nat} {ρ : Me} {μ : Mg} {M : Me} {d : Nat} {Q : Option Value → Me → Prop} {QX : String → Me → Prop} {S : St} {F : Nat → Nat} {z : Nat} {Lt t : List Nat} {T : Nat → Nat}
def tM (μ : Mg) (T : Nat → Nat) (t : List Nat) : Mg := sN (sA μ 6 T) 17 (nI t.length)
theorem tM_0 {i : Nat} (hi : i ≠ 6) : gA (tM μ T t) i = gA μ i := gA_n hi
theorem tM_k {k : Nat} (hk : k ≠ 17) : gN (tM μ T t) k = gN μ k := gN_sNn hk
theorem tM_u {x : Nat} : sN (sA (tM μ T t) 6 (uN T t.length x)) 17 (nI (t.length + 1)) = tM μ (uN T t.length x) (t ++ [x]) := by
  rw [tM, tM, sA_sN, sA_sA, sN_sN, List.length_append]; rfl
theorem s_X9_writes (h : RM G Λ ρ (tM μ T t) M) (hT : LTo t T) {x : Nat} (hx : x < 2 ^ 31) (hl : t.length < 1000) (hQ : ∀ M' T', LTo (t ++ [x]) T' → RM G Λ ρ (tM μ T' (t ++ [x])) M' → Q none M')  : MS G yX9_writes cX9_writes 2 none d 0 0 [.ref (Λ (10, 0, 0)), .int (nI x)] M Q QX := by
  refine MS.of (by decide) (by simp [Value.category]) (Nat.le_of_ble_eq_true rfl) ?_
  show AW _ (_, _, _, _, _, _, _, _, _) _ _ _ _ [some _, some _] _ _
  refine r_aload_n (q := 1) dX9_writes_0 rfl rfl ?_
  refine r_get (q := 4) (kk := 16) h.m rfl wi_RX9 (by decide) rfl fk_X9_60 rfl dX9_writes_1 rfl ?_
  refine r_aload_n (q := 5) dX9_writes_4 rfl rfl ?_
  refine r_get (q := 8) (kk := 17) h.m rfl wi_RX9 (by decide) rfl fk_X9_63 rfl dX9_writes_5 rfl ?_
  rw [show gN (tM μ T t) 17 = nI t.length from gN_sNs]
  refine r_iload_n (q := 9) dX9_writes_8 rfl rfl ?_
  refine r_iastM (q := 10) h (by decide) (by simp only [mLen]; omega) (by omega) dX9_writes_9 rfl fun M_9 h_9 => ?_
  rw [show gA (tM μ T t) 6 = T by rw [tM, gA_sNe, gA_s]] at h_9
  refine r_aload_n (q := 11) dX9_writes_10 rfl rfl ?_
  refine r_dup (q := 12) dX9_writes_11 rfl rfl ?_
  refine r_get (q := 15) (kk := 17) h_9.m rfl wi_RX9 (by decide) rfl fk_X9_63 rfl dX9_writes_12 rfl ?_
  rw [show gN (sA (tM μ T t) 6 (uN T t.length x)) 17 = nI t.length by rw [gN_sA, tM, gN_sNs]]
  refine r_iconst (v := nI 1) (q := 16) dX9_writes_15 (by decide) rfl ?_
  refine r_iadd (q := 17) dX9_writes_16 rfl ?_
  rw [n_add]
  refine r_p9 (q := 20) (kk := 17) (j := 17) h_9 (by decide) rfl fk_X9_63 dX9_writes_17 rfl fun M_17 h_17 => ?_
  rw [tM_u] at h_17
  refine r_vret dX9_writes_20 ?_
  exact hQ _ _ hT.app h_17
theorem digs_1 {i : Nat} (h : i ≤ 9) : digs i = [48 + i] := by rw [digs, if_pos (by omega), Nat.mod_eq_of_lt (by omega)]
theorem digs_2 {i : Nat} (h : 9 < i) : digs i = [48 + i / 10, 48 + i % 10] := if_neg (by omega)
theorem s_X9_writesNumber (h : RM G Λ ρ (tM μ T t) M) (hT : LTo t T) {v : Nat} (hv : v < 100) (hl : t.length < 990) (hQ : ∀ M' T', LTo (t ++ digs v) T' → RM G Λ ρ (tM μ T' (t ++ digs v)) M' → Q none M')  : MS G yX9_writesNumber cX9_writesNumber 2 none (d + 1) 0 0 [.ref (Λ (10, 0, 0)), .int (nI v)] M Q QX := by
  refine MS.of (by decide) (by simp [Value.category]) (Nat.le_of_ble_eq_true rfl) ?_
  show AW _ (_, _, _, _, _, _, _, _, _) _ _ _ _ [some _, some _] _ _
  refine r_iload_n (q := 1) dX9_writesNumber_0 rfl rfl ?_
  refine r_bipush (v := nI 9) (q := 3) dX9_writesNumber_1 (by decide) rfl ?_
  refine r_icmp_le (t := 17) (q := 6) dX9_writesNumber_3 rfl rfl (fun c3 => ?_) (fun c3 => ?_)
  · simp (disch := omega) only [nI_leI, nI_ltI, nI_eq, nI_lt0, nI_ge0, nI_gt0, nI_le0, nI_eq0] at c3
    rw [digs_1 (by omega)] at hQ
    have hvm : 48 + v % 10 = 48 + v := by omega
    have hTw := hT
    have hlw := hl
    refine r_aload_n (q := 18) dX9_writesNumber_17 rfl rfl ?_
    refine r_bipush (v := nI 48) (q := 20) dX9_writesNumber_18 (by decide) rfl ?_
    refine r_iload_n (q := 21) dX9_writesNumber_20 rfl rfl ?_
    refine r_bipush (v := nI 10) (q := 23) dX9_writesNumber_21 (by decide) rfl ?_
    refine r_irem (q := 24) dX9_writesNumber_23 (by decide) rfl ?_
    rw [n_rem (by decide) (by omega) (by decide)]
    refine r_iadd (q := 25) dX9_writesNumber_24 rfl ?_
    rw [n_add]
    refine r_cV (q := 28) (As := [.int _]) wc_X9_278 rfl im_X9_writes se_X9_writes h.m rfl rfl (Nat.le_of_ble_eq_true rfl) (Nat.le_of_eq (Nat.zero_add _)) (Nat.le_of_eq (Nat.zero_add _)) dX9_writesNumber_25 rfl rfl (s_X9_writes h hTw (by omega) (by first | omega | (rw [List.length_append, List.length_singleton]; omega)) fun M_25 T2 hT2 h_25 => ?_)
    refine r_vret dX9_writesNumber_28 ?_
    first
      | (rw [hvm] at hT2 h_25; exact hQ _ _ hT2 h_25)
      | (rw [List.append_assoc] at hT2 h_25; exact hQ _ _ hT2 h_25)
  · simp (disch := omega) only [nI_leI, nI_ltI, nI_eq, nI_lt0, nI_ge0, nI_gt0, nI_le0, nI_eq0] at c3
    rw [digs_2 (by omega)] at hQ
    refine r_aload_n (q := 7) dX9_writesNumber_6 rfl rfl ?_
    refine r_bipush (v := nI 48) (q := 9) dX9_writesNumber_7 (by decide) rfl ?_
    refine r_iload_n (q := 10) dX9_writesNumber_9 rfl rfl ?_
    refine r_bipush (v := nI 10) (q := 12) dX9_writesNumber_10 (by decide) rfl ?_
    refine r_idiv (q := 13) dX9_writesNumber_12 (by decide) rfl ?_
    rw [n_div (by decide) (by omega) (by decide)]
    refine r_iadd (q := 14) dX9_writesNumber_13 rfl ?_
    rw [n_add]
    refine r_cV (q := 17) (As := [.int _]) wc_X9_278 rfl im_X9_writes se_X9_writes h.m rfl rfl (Nat.le_of_ble_eq_true rfl) (Nat.le_of_eq (Nat.zero_add _)) (Nat.le_of_eq (Nat.zero_add _)) dX9_writesNumber_14 rfl rfl (s_X9_writes h hT (by omega) (by omega) fun M_14 T1 hTw h_14 => ?_)
    refine r_aload_n (q := 18) dX9_writesNumber_17 rfl rfl ?_
    refine r_bipush (v := nI 48) (q := 20) dX9_writesNumber_18 (by decide) rfl ?_
    refine r_iload_n (q := 21) dX9_writesNumber_20 rfl rfl ?_
    refine r_bipush (v := nI 10) (q := 23) dX9_writesNumber_21 (by decide) rfl ?_
    refine r_irem (q := 24) dX9_writesNumber_23 (by decide) rfl ?_
    rw [n_rem (by decide) (by omega) (by decide)]
    refine r_iadd (q := 25) dX9_writesNumber_24 rfl ?_
    rw [n_add]
    refine r_cV (q := 28) (As := [.int _]) wc_X9_278 rfl im_X9_writes se_X9_writes h_14.m rfl rfl (Nat.le_of_ble_eq_true rfl) (Nat.le_of_eq (Nat.zero_add _)) (Nat.le_of_eq (Nat.zero_add _)) dX9_writesNumber_25 rfl rfl (s_X9_writes h_14 hTw (by omega) (by first | omega | (rw [List.length_append, List.length_singleton]; omega)) fun M_25 T2 hT2 h_25 => ?_)
    refine r_vret dX9_writesNumber_28 ?_
    first
      | (rw [hvm] at hT2 h_25; exact hQ _ _ hT2 h_25)
      | (rw [List.append_assoc] at hT2 h_25; exact hQ _ _ hT2 h_25)
def wlM (b j : Nat) : List Nat := (List.range j).map fun p => if b / 2 ^ p % 2 = 1 then 108 else 115
theorem wlM_s {b j : Nat} : wlM b (j + 1) = wlM b j ++ [if b / 2 ^ j % 2 = 1 then 108 else 115] := by
  rw [wlM, List.range_succ, List.map_append]; rfl
theorem wlM_len {b j : Nat} : (wlM b j).length = j := by rw [wlM, List.length_map, List.length_range]
def mTx2 (F : Nat → Nat) (l : Nat) : List Nat := wlM (lF F l 1) (lF F l 0) ++ [47] ++ digs (lF F l 2) ++ [42] ++ digs (lF F l 3) ++ (if lF F l 5 = 0 then [] else [33] ++ digs (lF F l 5))
def mTx1 (F : Nat → Nat) (l : Nat) : List Nat := digs l ++ (if lF F l 0 = 0 then [] else [58])
def mTx (F : Nat → Nat) (l : Nat) : List Nat := mTx1 F l ++ mTx2 F l
theorem szI_2 (i : Nat) : szI i ≤ 2 := by unfold szI; split <;> omega
def mqTx (F : Nat → Nat) (l : Int32) : An := if isL l = false then (1, 0) else (0, nI (mTx F l.toNatClampNeg).length)
theorem tM_new (h : RM G Λ ρ (sN μ 17 (nI 0)) M) : RM G Λ ρ (tM μ (gA μ 6) []) M := by
  rw [tM, sA_self]; exact h
theorem s_X9_text (h : RM G Λ ρ μ M) {l : Int32} (hF : gA μ 0 = F) (hbw : BW F) (hb : ∀ l, l < 7 → lF F l 2 < 100 ∧ lF F l 3 < 100 ∧ lF F l 5 < 100) (hX1 : isL l = false → ∀ M', RM G Λ ρ (sN μ 4 (nI 1)) M' → Q (some (.int (nI 0))) M') (hQ : ∀ j, j < 7 → l = nI j → ∀ M' T', LTo (mTx F j) T' → RM G Λ ρ (tM (sN μ 4 (nI 0)) T' (mTx F j)) M' → Q (some (.int (nI (mTx F j).length))) M')  : MS G yX9_text cX9_text 3 (some .int) (d + 2) 0 0 [.ref (Λ (10, 0, 0)), .int l] M Q QX := by
  have tail : ∀ l (μ1 : Mg) M1 T1 t1 u, l < 7 → WN F l → lF F l 2 < 100 → lF F l 3 < 100 → lF F l 5 < 100 → gA μ1 0 = F → t1.length ≤ 3 → LTo t1 T1 → RM G Λ ρ (tM μ1 T1 t1) M1 → (∀ M' T', LTo (t1 ++ mTx2 F l) T' → RM G Λ ρ (tM μ1 T' (t1 ++ mTx2 F l)) M' → Q (some (.int (nI (t1 ++ mTx2 F l).length))) M') → AW G (wX G yX9_text cX9_text 3 (some .int) 0 0 Q QX) (d + 2) 0 0 50 [some (.ref (Λ (10, 0, 0))), some (.int (nI l)), u] [] M1 := by
    intro l μ1 M1 T1 t1 u hl hwn h2 h3 h5 hF0 ht1 hT1 h1 hQ1
    have hF1 : ∀ T t, gA (tM μ1 T t) 0 = F := fun T t => (tM_0 (by decide)).trans hF0
    have hw1 := hwn.1
    have hw2 := hwn.2
    have z2 := szI_2 (lF F l 2)
    have z3 := szI_2 (lF F l 3)
    have z5 := szI_2 (lF F l 5)
    have loop : ∀ (m : Nat) j (M1 : Me) (T1 : Nat → Nat), m = lF F l 0 - j → j ≤ lF F l 0 → LTo (t1 ++ wlM (lF F l 1) j) T1 → RM G Λ ρ (tM μ1 T1 (t1 ++ wlM (lF F l 1) j)) M1 → AW G (wX G yX9_text cX9_text 3 (some .int) 0 0 Q QX) (d + 2) 0 0 52 [some (.ref (Λ (10, 0, 0))), some (.int (nI l)), some (.int (nI j))] [] M1 := by
      intro m
      induction m using Nat.strongRecOn with
      | _ m ih =>
      intro j M1 T1 hm hj hT1 h1
      subst hm
      refine r_iload_n (q := 53) dX9_text_52 rfl rfl ?_
      refine r_aload_n (q := 54) dX9_text_53 rfl rfl ?_
      refine r_iload_n (q := 55) dX9_text_54 rfl rfl ?_
      refine r_iconst (v := nI 0) (q := 56) dX9_text_55 (by decide) rfl ?_
      refine r_cV (q := 59) (As := [.int _, .int _]) wc_X9_108 rfl im_X9_lv se_X9_lv h1.m rfl rfl (Nat.le_of_ble_eq_true rfl) (Nat.le_of_eq (Nat.zero_add _)) (Nat.le_of_eq (Nat.zero_add _)) dX9_text_56 rfl rfl (x_lv h1 (by omega) (by decide) ?_)
      intro b56
      rw [hF1] at b56 ⊢
      refine r_icmp_ge (t := 93) (q := 62) dX9_text_59 rfl rfl (fun c59 => ?_) (fun c59 => ?_)
      · simp (disch := omega) only [nI_leI, nI_ltI, nI_eq, nI_lt0, nI_ge0, nI_gt0, nI_le0, nI_eq0] at c59
        obtain rfl : j = lF F l 0 := by omega
        refine r_aload_n (q := 94) dX9_text_93 rfl rfl ?_
        refine r_bipush (v := nI 47) (q := 96) dX9_text_94 (by decide) rfl ?_
        refine r_cV (q := 99) (As := [.int _]) wc_X9_278 rfl im_X9_writes se_X9_writes h1.m rfl rfl (Nat.le_of_ble_eq_true rfl) (Nat.le_of_eq (Nat.zero_add _)) (Nat.le_of_eq (Nat.zero_add _)) dX9_text_96 rfl rfl (s_X9_writes h1 hT1 (by omega) (by simp only [List.length_append, List.length_cons, List.length_nil, digs_len, wlM_len]; omega) fun M_96 T96 hT96 h1_96 => ?_)
        refine r_aload_n (q := 100) dX9_text_99 rfl rfl ?_
        refine r_aload_n (q := 101) dX9_text_100 rfl rfl ?_
        refine r_iload_n (q := 102) dX9_text_101 rfl rfl ?_
        refine r_iconst (v := nI 2) (q := 103) dX9_text_102 (by decide) rfl ?_
        refine r_cV (q := 106) (As := [.int _, .int _]) wc_X9_108 rfl im_X9_lv se_X9_lv h1_96.m rfl rfl (Nat.le_of_ble_eq_true rfl) (Nat.le_of_eq (Nat.zero_add _)) (Nat.le_of_eq (Nat.zero_add _)) dX9_text_103 rfl rfl (x_lv h1_96 (by omega) (by decide) ?_)
        intro b103
        rw [hF1] at b103 ⊢
        refine r_cV (q := 109) (As := [.int _]) wc_X9_281 rfl im_X9_writesNumber se_X9_writesNumber h1_96.m rfl rfl (Nat.le_of_ble_eq_true rfl) (Nat.le_of_eq (Nat.zero_add _)) (Nat.le_of_eq (Nat.zero_add _)) dX9_text_106 rfl rfl (s_X9_writesNumber h1_96 hT96 (by omega) (by simp only [List.length_append, List.length_cons, List.length_nil, digs_len, wlM_len]; omega) fun M_106 T106 hT106 h1_106 => ?_)
        refine r_aload_n (q := 110) dX9_text_109 rfl rfl ?_
        refine r_bipush (v := nI 42) (q := 112) dX9_text_110 (by decide) rfl ?_
        refine r_cV (q := 115) (As := [.int _]) wc_X9_278 rfl im_X9_writes se_X9_writes h1_106.m rfl rfl (Nat.le_of_ble_eq_true rfl) (Nat.le_of_eq (Nat.zero_add _)) (Nat.le_of_eq (Nat.zero_add _)) dX9_text_112 rfl rfl (s_X9_writes h1_106 hT106 (by omega) (by simp only [List.length_append, List.length_cons, List.length_nil, digs_len, wlM_len]; omega) fun M_112 T112 hT112 h1_112 => ?_)
        refine r_aload_n (q := 116) dX9_text_115 rfl rfl ?_
        refine r_aload_n (q := 117) dX9_text_116 rfl rfl ?_
        refine r_iload_n (q := 118) dX9_text_117 rfl rfl ?_
        refine r_iconst (v := nI 3) (q := 119) dX9_text_118 (by decide) rfl ?_
        refine r_cV (q := 122) (As := [.int _, .int _]) wc_X9_108 rfl im_X9_lv se_X9_lv h1_112.m rfl rfl (Nat.le_of_ble_eq_true rfl) (Nat.le_of_eq (Nat.zero_add _)) (Nat.le_of_eq (Nat.zero_add _)) dX9_text_119 rfl rfl (x_lv h1_112 (by omega) (by decide) ?_)
        intro b119
        rw [hF1] at b119 ⊢
        refine r_cV (q := 125) (As := [.int _]) wc_X9_281 rfl im_X9_writesNumber se_X9_writesNumber h1_112.m rfl rfl (Nat.le_of_ble_eq_true rfl) (Nat.le_of_eq (Nat.zero_add _)) (Nat.le_of_eq (Nat.zero_add _)) dX9_text_122 rfl rfl (s_X9_writesNumber h1_112 hT112 (by omega) (by simp only [List.length_append, List.length_cons, List.length_nil, digs_len, wlM_len]; omega) fun M_122 T122 hT122 h1_122 => ?_)
        refine r_aload_n (q := 126) dX9_text_125 rfl rfl ?_
        refine r_iload_n (q := 127) dX9_text_126 rfl rfl ?_
        refine r_iconst (v := nI 5) (q := 128) dX9_text_127 (by decide) rfl ?_
        refine r_cV (q := 131) (As := [.int _, .int _]) wc_X9_108 rfl im_X9_lv se_X9_lv h1_122.m rfl rfl (Nat.le_of_ble_eq_true rfl) (Nat.le_of_eq (Nat.zero_add _)) (Nat.le_of_eq (Nat.zero_add _)) dX9_text_128 rfl rfl (x_lv h1_122 (by omega) (by decide) ?_)
        intro b128
        rw [hF1] at b128 ⊢
        refine r_if_ne (t := 139) (q := 134) dX9_text_131 rfl rfl (fun c131 => ?_) (fun c131 => ?_)
        · simp (disch := omega) only [nI_leI, nI_ltI, nI_eq, nI_lt0, nI_ge0, nI_gt0, nI_le0, nI_eq0] at c131
          refine r_aload_n (q := 140) dX9_text_139 rfl rfl ?_
          refine r_bipush (v := nI 33) (q := 142) dX9_text_140 (by decide) rfl ?_
          refine r_cV (q := 145) (As := [.int _]) wc_X9_278 rfl im_X9_writes se_X9_writes h1_122.m rfl rfl (Nat.le_of_ble_eq_true rfl) (Nat.le_of_eq (Nat.zero_add _)) (Nat.le_of_eq (Nat.zero_add _)) dX9_text_142 rfl rfl (s_X9_writes h1_122 hT122 (by omega) (by simp only [List.length_append, List.length_cons, List.length_nil, digs_len, wlM_len]; omega) fun M_142 T142 hT142 h1_142 => ?_)
          refine r_aload_n (q := 146) dX9_text_145 rfl rfl ?_
          refine r_aload_n (q := 147) dX9_text_146 rfl rfl ?_
          refine r_iload_n (q := 148) dX9_text_147 rfl rfl ?_
          refine r_iconst (v := nI 5) (q := 149) dX9_text_148 (by decide) rfl ?_
          refine r_cV (q := 152) (As := [.int _, .int _]) wc_X9_108 rfl im_X9_lv se_X9_lv h1_142.m rfl rfl (Nat.le_of_ble_eq_true rfl) (Nat.le_of_eq (Nat.zero_add _)) (Nat.le_of_eq (Nat.zero_add _)) dX9_text_149 rfl rfl (x_lv h1_142 (by omega) (by decide) ?_)
          intro b149
          rw [hF1] at b149 ⊢
          refine r_cV (q := 155) (As := [.int _]) wc_X9_281 rfl im_X9_writesNumber se_X9_writesNumber h1_142.m rfl rfl (Nat.le_of_ble_eq_true rfl) (Nat.le_of_eq (Nat.zero_add _)) (Nat.le_of_eq (Nat.zero_add _)) dX9_text_152 rfl rfl (s_X9_writesNumber h1_142 hT142 (by omega) (by simp only [List.length_append, List.length_cons, List.length_nil, digs_len, wlM_len]; omega) fun M_152 T152 hT152 h1_152 => ?_)
          refine r_aload_n (q := 156) dX9_text_155 rfl rfl ?_
          refine r_get (q := 159) (kk := 17) h1_152.m rfl wi_RX9 (by decide) rfl fk_X9_63 rfl dX9_text_156 rfl ?_
          rw [show gN (tM μ1 T152 _) 17 = _ from gN_sNs]
          refine r_iret dX9_text_159 ?_
          have e5 : t1 ++ wlM (lF F l 1) (lF F l 0) ++ [47] ++ digs (lF F l 2) ++ [42] ++ digs (lF F l 3) ++ [33] ++ digs (lF F l 5) = t1 ++ mTx2 F l := by rw [mTx2, if_neg c131]; simp only [List.append_assoc]
          rw [e5] at hT152 h1_152 ⊢
          exact hQ1 _ _ hT152 h1_152
        · simp (disch := omega) only [nI_leI, nI_ltI, nI_eq, nI_lt0, nI_ge0, nI_gt0, nI_le0, nI_eq0] at c131
          refine r_aload_n (q := 135) dX9_text_134 rfl rfl ?_
          refine r_get (q := 138) (kk := 17) h1_122.m rfl wi_RX9 (by decide) rfl fk_X9_63 rfl dX9_text_135 rfl ?_
          rw [show gN (tM μ1 T122 _) 17 = _ from gN_sNs]
          refine r_iret dX9_text_138 ?_
          have e5 : t1 ++ wlM (lF F l 1) (lF F l 0) ++ [47] ++ digs (lF F l 2) ++ [42] ++ digs (lF F l 3) = t1 ++ mTx2 F l := by rw [mTx2, if_pos c131]; simp only [List.append_assoc, List.append_nil]
          rw [e5] at hT122 h1_122 ⊢
          exact hQ1 _ _ hT122 h1_122
      · simp (disch := omega) only [nI_leI, nI_ltI, nI_eq, nI_lt0, nI_ge0, nI_gt0, nI_le0, nI_eq0] at c59
        refine r_aload_n (q := 63) dX9_text_62 rfl rfl ?_
        refine r_aload_n (q := 64) dX9_text_63 rfl rfl ?_
        refine r_iload_n (q := 65) dX9_text_64 rfl rfl ?_
        refine r_iconst (v := nI 1) (q := 66) dX9_text_65 (by decide) rfl ?_
        refine r_cV (q := 69) (As := [.int _, .int _]) wc_X9_108 rfl im_X9_lv se_X9_lv h1.m rfl rfl (Nat.le_of_ble_eq_true rfl) (Nat.le_of_eq (Nat.zero_add _)) (Nat.le_of_eq (Nat.zero_add _)) dX9_text_66 rfl rfl (x_lv h1 (by omega) (by decide) ?_)
        intro b66
        rw [hF1] at b66 ⊢
        have hq : lF F l 1 / 2 ^ j ≤ lF F l 1 := Nat.div_le_self _ _
        refine r_iload_n (q := 70) dX9_text_69 rfl rfl ?_
        refine r_ishr (q := 71) dX9_text_70 rfl ?_
        rw [n_shr (by omega) (by omega)]
        refine r_iconst (v := nI 1) (q := 72) dX9_text_71 (by decide) rfl ?_
        refine r_iand (q := 73) dX9_text_72 rfl ?_
        rw [n_and (w := lF F l 1 / 2 ^ j) (by omega) 1 1 (by decide)]
        refine r_iconst (v := nI 1) (q := 74) dX9_text_73 (by decide) rfl ?_
        refine r_icmp_ne (t := 82) (q := 77) dX9_text_74 rfl rfl (fun c74 => ?_) (fun c74 => ?_)
        · rw [nI_eq (by omega) (by decide)] at c74
          have e : wlM (lF F l 1) (j + 1) = wlM (lF F l 1) j ++ [115] := by rw [wlM_s, if_neg c74]
          refine r_bipush (v := nI 115) (q := 84) dX9_text_82 (by decide) rfl ?_
          refine r_cV (q := 87) (As := [.int _]) wc_X9_278 rfl im_X9_writes se_X9_writes h1.m rfl rfl (Nat.le_of_ble_eq_true rfl) (Nat.le_of_eq (Nat.zero_add _)) (Nat.le_of_eq (Nat.zero_add _)) dX9_text_84 rfl rfl (s_X9_writes h1 hT1 (by omega) (by simp only [List.length_append, List.length_cons, List.length_nil, digs_len, wlM_len]; omega) fun M_84 T84 hT84 h1_84 => ?_)
          refine r_inc1 (q := 90) dX9_text_87 rfl (Nat.le_of_ble_eq_true rfl) rfl rfl ?_
          show AW _ (_, _, _, _, _, _, _, _, _) _ _ _ _ [some _, some _, some _] _ _
          refine r_goto (t := 52) dX9_text_90 rfl ?_
          exact ih (lF F l 0 - (j + 1)) (by omega) (j + 1) _ T84 rfl (by omega) (by rw [e, ← List.append_assoc]; exact hT84) (by rw [e, ← List.append_assoc]; exact h1_84)
        · rw [nI_eq (by omega) (by decide)] at c74
          have e : wlM (lF F l 1) (j + 1) = wlM (lF F l 1) j ++ [108] := by rw [wlM_s, if_pos c74]
          refine r_bipush (v := nI 108) (q := 79) dX9_text_77 (by decide) rfl ?_
          refine r_goto (t := 84) dX9_text_79 rfl ?_
          refine r_cV (q := 87) (As := [.int _]) wc_X9_278 rfl im_X9_writes se_X9_writes h1.m rfl rfl (Nat.le_of_ble_eq_true rfl) (Nat.le_of_eq (Nat.zero_add _)) (Nat.le_of_eq (Nat.zero_add _)) dX9_text_84 rfl rfl (s_X9_writes h1 hT1 (by omega) (by simp only [List.length_append, List.length_cons, List.length_nil, digs_len, wlM_len]; omega) fun M_84 T84 hT84 h1_84 => ?_)
          refine r_inc1 (q := 90) dX9_text_87 rfl (Nat.le_of_ble_eq_true rfl) rfl rfl ?_
          show AW _ (_, _, _, _, _, _, _, _, _) _ _ _ _ [some _, some _, some _] _ _
          refine r_goto (t := 52) dX9_text_90 rfl ?_
          exact ih (lF F l 0 - (j + 1)) (by omega) (j + 1) _ T84 rfl (by omega) (by rw [e, ← List.append_assoc]; exact hT84) (by rw [e, ← List.append_assoc]; exact h1_84)
    refine r_iconst (v := nI 0) (q := 51) dX9_text_50 (by decide) rfl ?_
    refine r_istore_n (q := 52) dX9_text_51 (Nat.le_of_ble_eq_true rfl) rfl rfl ?_
    show AW _ (_, _, _, _, _, _, _, _, _) _ _ _ _ [some _, some _, some _] _ _
    exact loop _ 0 _ T1 rfl (Nat.zero_le _) (by rw [show wlM (lF F l 1) 0 = [] from rfl, List.append_nil]; exact hT1) (by rw [show wlM (lF F l 1) 0 = [] from rfl, List.append_nil]; exact h1)
  refine MS.of (by decide) (by simp [Value.category]) (Nat.le_of_ble_eq_true rfl) ?_
  show AW _ (_, _, _, _, _, _, _, _, _) _ _ _ _ [some _, some _, _] _ _
  refine r_aload_n (q := 1) dX9_text_0 rfl rfl ?_
  refine r_iload_n (q := 2) dX9_text_1 rfl rfl ?_
  refine r_cS (q := 5) (As := [.int _]) wc_X9_133 st_X9_isLine rfl (Nat.le_of_ble_eq_true rfl) (Nat.le_of_eq (Nat.zero_add _)) (Nat.le_of_eq (Nat.zero_add _)) dX9_text_2 rfl rfl (s_X9_isLine ?_)
  refine r_if_eq (t := 12) (q := 8) dX9_text_5 rfl rfl (fun c5 => ?_) (fun c5 => ?_)
  · have il := bI_eq0.mp c5
    refine r_iconst (v := nI 1) (q := 13) dX9_text_12 (by decide) rfl ?_
    refine r_p9 (q := 16) (kk := 4) (j := 4) h (by decide) rfl fk_X9_22 dX9_text_13 rfl fun M_13 h_13 => ?_
    refine r_aload_n (q := 17) dX9_text_16 rfl rfl ?_
    refine r_get (q := 20) (kk := 4) h_13.m rfl wi_RX9 (by decide) rfl fk_X9_22 rfl dX9_text_17 rfl ?_
    rw [gN_sNs]
    refine r_if_le (t := 25) (q := 23) dX9_text_20 rfl rfl (fun c20 => ?_) (fun c20 => ?_)
    · exact absurd c20 (by decide)
    · refine r_iconst (v := nI 0) (q := 24) dX9_text_23 (by decide) rfl ?_
      refine r_iret dX9_text_24 ?_
      exact hX1 il _ h_13
  · obtain ⟨j, hj, rfl⟩ := isL_t (bI_ne c5)
    have z1 := szI_2 j
    refine r_iconst (v := nI 0) (q := 9) dX9_text_8 (by decide) rfl ?_
    refine r_goto (t := 13) dX9_text_9 rfl ?_
    refine r_p9 (q := 16) (kk := 4) (j := 4) h (by decide) rfl fk_X9_22 dX9_text_13 rfl fun M_13 h_13 => ?_
    refine r_aload_n (q := 17) dX9_text_16 rfl rfl ?_
    refine r_get (q := 20) (kk := 4) h_13.m rfl wi_RX9 (by decide) rfl fk_X9_22 rfl dX9_text_17 rfl ?_
    rw [gN_sNs]
    refine r_if_le (t := 25) (q := 23) dX9_text_20 rfl rfl (fun c20 => ?_) (fun c20 => ?_)
    · refine r_aload_n (q := 26) dX9_text_25 rfl rfl ?_
      refine r_iconst (v := nI 0) (q := 27) dX9_text_26 (by decide) rfl ?_
      refine r_p9 (q := 30) (kk := 17) (j := 17) h_13 (by decide) rfl fk_X9_63 dX9_text_27 rfl fun M_27 h_27 => ?_
      replace h_27 := tM_new h_27
      have hF2 : ∀ T t, gA (tM (sN μ 4 (nI 0)) T t) 0 = F := fun T t => (tM_0 (by decide)).trans hF
      refine r_aload_n (q := 31) dX9_text_30 rfl rfl ?_
      refine r_iload_n (q := 32) dX9_text_31 rfl rfl ?_
      refine r_cV (q := 35) (As := [.int _]) wc_X9_281 rfl im_X9_writesNumber se_X9_writesNumber h_27.m rfl rfl (Nat.le_of_ble_eq_true rfl) (Nat.le_of_eq (Nat.zero_add _)) (Nat.le_of_eq (Nat.zero_add _)) dX9_text_32 rfl rfl (s_X9_writesNumber h_27 LTo.nil (by omega) (by decide) fun M_32 T32 hT32 h_32 => ?_)
      refine r_aload_n (q := 36) dX9_text_35 rfl rfl ?_
      refine r_iload_n (q := 37) dX9_text_36 rfl rfl ?_
      refine r_iconst (v := nI 0) (q := 38) dX9_text_37 (by decide) rfl ?_
      refine r_cV (q := 41) (As := [.int _, .int _]) wc_X9_108 rfl im_X9_lv se_X9_lv h_32.m rfl rfl (Nat.le_of_ble_eq_true rfl) (Nat.le_of_eq (Nat.zero_add _)) (Nat.le_of_eq (Nat.zero_add _)) dX9_text_38 rfl rfl (x_lv h_32 (by omega) (by decide) ?_)
      intro b38
      rw [hF2] at b38 ⊢
      refine r_if_le (t := 50) (q := 44) dX9_text_41 rfl rfl (fun c41 => ?_) (fun c41 => ?_)
      · rw [nI_le0 b38] at c41
        have e5 : [] ++ digs j = mTx1 F j := by rw [mTx1, if_pos (by omega), List.append_nil]; rfl
        have hTw := hT32
        rw [e5] at hTw h_32
        exact tail j (sN μ 4 (nI 0)) _ _ (mTx1 F j) none hj (hbw j hj) (hb j hj).1 (hb j hj).2.1 (hb j hj).2.2 hF (by rw [← e5]; exact (by simp only [List.length_append, List.length_cons, List.length_nil, digs_len, wlM_len]; omega)) hTw h_32 (hQ j hj rfl)
      · rw [nI_le0 b38] at c41
        refine r_aload_n (q := 45) dX9_text_44 rfl rfl ?_
        refine r_bipush (v := nI 58) (q := 47) dX9_text_45 (by decide) rfl ?_
        refine r_cV (q := 50) (As := [.int _]) wc_X9_278 rfl im_X9_writes se_X9_writes h_32.m rfl rfl (Nat.le_of_ble_eq_true rfl) (Nat.le_of_eq (Nat.zero_add _)) (Nat.le_of_eq (Nat.zero_add _)) dX9_text_47 rfl rfl (s_X9_writes h_32 hT32 (by decide) (by simp only [List.length_append, List.length_cons, List.length_nil, digs_len, wlM_len]; omega) fun M_47 T47 hTw h_47 => ?_)
        have e5 : [] ++ digs j ++ [58] = mTx1 F j := by rw [mTx1, if_neg (by omega)]; rfl
        rw [e5] at hTw h_47
        exact tail j (sN μ 4 (nI 0)) _ _ (mTx1 F j) none hj (hbw j hj) (hb j hj).1 (hb j hj).2.1 (hb j hj).2.2 hF (by rw [← e5]; exact (by simp only [List.length_append, List.length_cons, List.length_nil, digs_len, wlM_len]; omega)) hTw h_47 (hQ j hj rfl)
    · exact absurd (show nI 0 ≤ 0 by decide) c20
def ltC (x : Nat) : Nat := if x = 1 then 108 else 115
def mStT (Lt : List Nat) : List Nat := Lt.map ltC
theorem map_take_s {L : List Nat} {j : Nat} (h : j < L.length) : (L.take (j + 1)).map ltC = (L.take j).map ltC ++ [ltC (L.getD j 0)] := by
  rw [take_s h, List.map_append]; rfl
theorem s_X9_strip (h : RM G Λ ρ μ M) (hF : gA μ 0 = F) (hn : LRN F Lt) (hQ : ∀ M' T T', LTo (mStT Lt) T' → RM G Λ ρ (tM (sN (sA (sN μ 4 (nI 0)) 4 T) 15 (nI Lt.length)) T' (mStT Lt)) M' → Q (some (.int (nI (mStT Lt).length))) M')  : MS G yX9_strip cX9_strip 2 (some .int) (d + 1) 0 0 [.ref (Λ (10, 0, 0))] M Q QX := by
  have tail : ∀ (μ1 : Mg) M1 T1, (∀ j, j < Lt.length → gA μ1 4 j = Lt.getD j 0) → gN μ1 15 = nI Lt.length → RM G Λ ρ (tM μ1 T1 []) M1 → (∀ M' T', LTo (mStT Lt) T' → RM G Λ ρ (tM μ1 T' (mStT Lt)) M' → Q (some (.int (nI (mStT Lt).length))) M') → AW G (wX G yX9_strip cX9_strip 2 (some .int) 0 0 Q QX) (d + 1) 0 0 16 [some (.ref (Λ (10, 0, 0))), some (.int (nI 0))] [] M1 := by
    intro μ1 M1 T1 hL hn15 h1 hQ1
    have hlen := hn.2.2.2.2
    have hx2 : ∀ x ∈ Lt, x < 2 := by rw [← hn.2.2.2.1]; exact mLt_lt2
    have loop : ∀ (m : Nat) j (M1 : Me) (T1 : Nat → Nat), m = Lt.length - j → j ≤ Lt.length → LTo ((Lt.take j).map ltC) T1 → RM G Λ ρ (tM μ1 T1 ((Lt.take j).map ltC)) M1 → AW G (wX G yX9_strip cX9_strip 2 (some .int) 0 0 Q QX) (d + 1) 0 0 16 [some (.ref (Λ (10, 0, 0))), some (.int (nI j))] [] M1 := by
      intro m
      induction m using Nat.strongRecOn with
      | _ m ih =>
      intro j M1 T1 hm hj hT1 h1
      subst hm
      refine r_iload_n (q := 17) dX9_strip_16 rfl rfl ?_
      refine r_aload_n (q := 18) dX9_strip_17 rfl rfl ?_
      refine r_get (q := 21) (kk := 15) h1.m rfl wi_RX9 (by decide) rfl fk_X9_57 rfl dX9_strip_18 rfl ?_
      rw [tM_k (by decide), hn15]
      refine r_icmp_ge (t := 51) (q := 24) dX9_strip_21 rfl rfl (fun c21 => ?_) (fun c21 => ?_)
      · simp (disch := omega) only [nI_leI, nI_ltI, nI_eq, nI_lt0, nI_ge0, nI_gt0, nI_le0, nI_eq0] at c21
        obtain rfl : j = Lt.length := by omega
        rw [List.take_of_length_le (Nat.le_refl _)] at hT1 h1
        refine r_aload_n (q := 52) dX9_strip_51 rfl rfl ?_
        refine r_get (q := 55) (kk := 17) h1.m rfl wi_RX9 (by decide) rfl fk_X9_63 rfl dX9_strip_52 rfl ?_
        rw [show gN (tM μ1 T1 _) 17 = _ from gN_sNs]
        refine r_iret dX9_strip_55 ?_
        exact hQ1 _ _ hT1 h1
      · simp (disch := omega) only [nI_leI, nI_ltI, nI_eq, nI_lt0, nI_ge0, nI_gt0, nI_le0, nI_eq0] at c21
        have hxj : Lt.getD j 0 < 2 := by rw [getD_lt (by omega)]; exact hx2 _ (List.getElem_mem _)
        have hlt : ((Lt.take j).map ltC).length = j := by rw [List.length_map, List.length_take]; omega
        refine r_aload_n (q := 25) dX9_strip_24 rfl rfl ?_
        refine r_aload_n (q := 26) dX9_strip_25 rfl rfl ?_
        refine r_get (q := 29) (kk := 13) h1.m rfl wi_RX9 (by decide) rfl fk_X9_51 rfl dX9_strip_26 rfl ?_
        refine r_iload_n (q := 30) dX9_strip_29 rfl rfl ?_
        refine r_ialdM (q := 31) h1 (by decide) (by simp only [mLen]; omega) dX9_strip_30 rfl ?_
        rw [tM_0 (by decide), hL j (by omega)]
        refine r_iconst (v := nI 1) (q := 32) dX9_strip_31 (by decide) rfl ?_
        refine r_icmp_ne (t := 40) (q := 35) dX9_strip_32 rfl rfl (fun c32 => ?_) (fun c32 => ?_)
        · rw [nI_eq (by omega) (by decide)] at c32
          have e : ltC (Lt.getD j 0) = 115 := if_neg c32
          refine r_bipush (v := nI 115) (q := 42) dX9_strip_40 (by decide) rfl ?_
          refine r_cV (q := 45) (As := [.int _]) wc_X9_278 rfl im_X9_writes se_X9_writes h1.m rfl rfl (Nat.le_of_ble_eq_true rfl) (Nat.le_of_eq (Nat.zero_add _)) (Nat.le_of_eq (Nat.zero_add _)) dX9_strip_42 rfl rfl (s_X9_writes h1 hT1 (by decide) (by omega) fun M_42 T42 hT42 h1_42 => ?_)
          refine r_inc1 (q := 48) dX9_strip_45 rfl (Nat.le_of_ble_eq_true rfl) rfl rfl ?_
          show AW _ (_, _, _, _, _, _, _, _, _) _ _ _ _ [some _, some _] _ _
          refine r_goto (t := 16) dX9_strip_48 rfl ?_
          exact ih (Lt.length - (j + 1)) (by omega) (j + 1) _ T42 rfl (by omega) (by rw [map_take_s (by omega), e]; exact hT42) (by rw [map_take_s (by omega), e]; exact h1_42)
        · rw [nI_eq (by omega) (by decide)] at c32
          have e : ltC (Lt.getD j 0) = 108 := if_pos c32
          refine r_bipush (v := nI 108) (q := 37) dX9_strip_35 (by decide) rfl ?_
          refine r_goto (t := 42) dX9_strip_37 rfl ?_
          refine r_cV (q := 45) (As := [.int _]) wc_X9_278 rfl im_X9_writes se_X9_writes h1.m rfl rfl (Nat.le_of_ble_eq_true rfl) (Nat.le_of_eq (Nat.zero_add _)) (Nat.le_of_eq (Nat.zero_add _)) dX9_strip_42 rfl rfl (s_X9_writes h1 hT1 (by decide) (by omega) fun M_42 T42 hT42 h1_42 => ?_)
          refine r_inc1 (q := 48) dX9_strip_45 rfl (Nat.le_of_ble_eq_true rfl) rfl rfl ?_
          show AW _ (_, _, _, _, _, _, _, _, _) _ _ _ _ [some _, some _] _ _
          refine r_goto (t := 16) dX9_strip_48 rfl ?_
          exact ih (Lt.length - (j + 1)) (by omega) (j + 1) _ T42 rfl (by omega) (by rw [map_take_s (by omega), e]; exact hT42) (by rw [map_take_s (by omega), e]; exact h1_42)
    exact loop _ 0 _ T1 rfl (Nat.zero_le _) LTo.nil h1
  refine MS.of (by decide) (by simp [Value.category]) (Nat.le_of_ble_eq_true rfl) ?_
  show AW _ (_, _, _, _, _, _, _, _, _) _ _ _ _ [some _, _] _ _
  refine r_aload_n (q := 1) dX9_strip_0 rfl rfl ?_
  refine r_iconst (v := nI 0) (q := 2) dX9_strip_1 (by decide) rfl ?_
  refine r_p9 (q := 5) (kk := 4) (j := 4) h (by decide) rfl fk_X9_22 dX9_strip_2 rfl fun M_2 h_2 => ?_
  refine r_aload_n (q := 6) dX9_strip_5 rfl rfl ?_
  refine r_cV (q := 9) (As := []) wc_X9_263 rfl im_X9_laysLetters se_X9_laysLetters h_2.m rfl rfl (Nat.le_of_ble_eq_true rfl) (Nat.le_of_eq (Nat.zero_add _)) (Nat.le_of_eq (Nat.zero_add _)) dX9_strip_6 rfl rfl (s_X9_laysLetters h_2 hF hn.2.1 hn.2.2.1 (by rw [hn.2.2.2.1]; exact hn.2.2.2.2) fun M_6 T hT h_6 => ?_)
  rw [hn.2.2.2.1] at hT h_6
  refine r_aload_n (q := 10) dX9_strip_9 rfl rfl ?_
  refine r_iconst (v := nI 0) (q := 11) dX9_strip_10 (by decide) rfl ?_
  refine r_p9 (q := 14) (kk := 17) (j := 17) h_6 (by decide) rfl fk_X9_63 dX9_strip_11 rfl fun M_11 h_11 => ?_
  refine r_iconst (v := nI 0) (q := 15) dX9_strip_14 (by decide) rfl ?_
  refine r_istore_n (q := 16) dX9_strip_15 (Nat.le_of_ble_eq_true rfl) rfl rfl ?_
  show AW _ (_, _, _, _, _, _, _, _, _) _ _ _ _ [some _, some _] _ _
  exact tail (sN (sA (sN μ 4 (nI 0)) 4 T) 15 (nI Lt.length)) _ _ (fun j hj => by rw [gA_sNe, gA_s]; exact hT j hj) rfl (tM_new h_11) (fun M2 T2 hT2 h2 => hQ _ T _ hT2 h2)
theorem s_X9_character (h : RM G Λ ρ μ M) {i : Int32} (hl : t.length ≤ 1000) (hn17 : gN μ 17 = nI t.length) (hT : LTo t (gA μ 6)) (hx : ∀ x ∈ t, x < 128) (hX1 : inI i (nI 0) (nI t.length - nI 1) = false → ∀ M', RM G Λ ρ (sN μ 4 (nI 1)) M' → Q (some (.int (nI 32))) M') (hQ : ∀ j, j < t.length → i = nI j → ∀ M', RM G Λ ρ (sN μ 4 (nI 0)) M' → Q (some (.int (nI (t.getD j 0)))) M')  : MS G yX9_character cX9_character 2 (some .char) (d + 1) 0 0 [.ref (Λ (10, 0, 0)), .int i] M Q QX := by
  refine MS.of (by decide) (by simp [Value.category]) (Nat.le_of_ble_eq_true rfl) ?_
  show AW _ (_, _, _, _, _, _, _, _, _) _ _ _ _ [some _, some _] _ _
  refine r_aload_n (q := 1) dX9_character_0 rfl rfl ?_
  refine r_iload_n (q := 2) dX9_character_1 rfl rfl ?_
  refine r_iconst (v := nI 0) (q := 3) dX9_character_2 (by decide) rfl ?_
  refine r_aload_n (q := 4) dX9_character_3 rfl rfl ?_
  refine r_get (q := 7) (kk := 17) h.m rfl wi_RX9 (by decide) rfl fk_X9_63 rfl dX9_character_4 rfl ?_
  rw [hn17]
  refine r_iconst (v := nI 1) (q := 8) dX9_character_7 (by decide) rfl ?_
  refine r_isub (q := 9) dX9_character_8 rfl ?_
  refine r_cS (q := 12) (As := [.int _, .int _, .int _]) wc_X9_116 st_X9_in rfl (Nat.le_of_ble_eq_true rfl) (Nat.le_of_eq (Nat.zero_add _)) (Nat.le_of_eq (Nat.zero_add _)) dX9_character_9 rfl rfl (s_X9_in ?_)
  refine r_if_eq (t := 19) (q := 15) dX9_character_12 rfl rfl (fun c12 => ?_) (fun c12 => ?_)
  · have il := bI_eq0.mp c12
    refine r_iconst (v := nI 1) (q := 20) dX9_character_19 (by decide) rfl ?_
    refine r_p9 (q := 23) (kk := 4) (j := 4) h (by decide) rfl fk_X9_22 dX9_character_20 rfl fun M_20 h_20 => ?_
    refine r_aload_n (q := 24) dX9_character_23 rfl rfl ?_
    refine r_get (q := 27) (kk := 4) h_20.m rfl wi_RX9 (by decide) rfl fk_X9_22 rfl dX9_character_24 rfl ?_
    rw [gN_sNs]
    refine r_if_le (t := 35) (q := 30) dX9_character_27 rfl rfl (fun c27 => ?_) (fun c27 => ?_)
    · exact absurd c27 (by decide)
    · refine r_bipush (v := nI 32) (q := 32) dX9_character_30 (by decide) rfl ?_
      refine r_goto (t := 42) dX9_character_32 rfl ?_
      refine r_zret dX9_character_42 (by first | decide | exact narrow_c _ hx9) ?_
      first
        | exact hX1 il _ h_20
        | exact hQ j hj rfl _ h_20
  · obtain ⟨j, hj, rfl⟩ := inI_tl (by omega) (bI_ne c12)
    refine r_iconst (v := nI 0) (q := 16) dX9_character_15 (by decide) rfl ?_
    refine r_goto (t := 20) dX9_character_16 rfl ?_
    refine r_p9 (q := 23) (kk := 4) (j := 4) h (by decide) rfl fk_X9_22 dX9_character_20 rfl fun M_20 h_20 => ?_
    refine r_aload_n (q := 24) dX9_character_23 rfl rfl ?_
    refine r_get (q := 27) (kk := 4) h_20.m rfl wi_RX9 (by decide) rfl fk_X9_22 rfl dX9_character_24 rfl ?_
    rw [gN_sNs]
    refine r_if_le (t := 35) (q := 30) dX9_character_27 rfl rfl (fun c27 => ?_) (fun c27 => ?_)
    · refine r_aload_n (q := 36) dX9_character_35 rfl rfl ?_
      refine r_get (q := 39) (kk := 16) h_20.m rfl wi_RX9 (by decide) rfl fk_X9_60 rfl dX9_character_36 rfl ?_
      refine r_iload_n (q := 40) dX9_character_39 rfl rfl ?_
      refine r_ialdM (q := 41) h_20 (by decide) (by simp only [mLen]; omega) dX9_character_40 rfl ?_
      rw [gA_sNe, hT j hj]
      have hx9 : t.getD j 0 < 128 := getD_all (by decide) hx j
      refine r_i2c (q := 42) dX9_character_41 rfl ?_
      rw [i2c_n (by omega)]
      refine r_zret dX9_character_42 (by first | decide | exact narrow_c _ hx9) ?_
      first
        | exact hX1 il _ h_20
        | exact hQ j hj rfl _ h_20
    · exact absurd (show nI 0 ≤ 0 by decide) c27
end W60
