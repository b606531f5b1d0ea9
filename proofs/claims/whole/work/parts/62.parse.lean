/-! THE MODEL: reading what is typed in -/
section W62
variable {G : En} {Λ : Ob → Nat} {ρ : Me} {μ : Mg} {M : Me} {d : Nat} {Q : Option Value → Me → Prop} {QX : String → Me → Prop} {S : St} {L : List Nat} {N : Nat → Nat} {w : Bool} {s r : Nat}
def pM (μ : Mg) (w : Bool) (s : Nat) (N : Nat → Nat) : Mg := sA (sN (sN μ 25 (bI w)) 23 (nI s)) 9 N
theorem pM_w {w' : Bool} : sN (pM μ w s N) 25 (bI w') = pM μ w' s N := by
  refine Prod.ext rfl (funext fun k => ?_)
  show (if k = 25 then bI w' else if k = 23 then nI s else if k = 25 then bI w else μ.2 k) = if k = 23 then nI s else if k = 25 then bI w' else μ.2 k
  by_cases h : k = 25
  · subst h; rfl
  · rw [if_neg h, if_neg h, if_neg h]
theorem pM_s {s' : Nat} : sN (pM μ w s N) 23 (nI s') = pM μ w s' N := by
  refine Prod.ext rfl (funext fun k => ?_)
  show (if k = 23 then nI s' else if k = 23 then nI s else if k = 25 then bI w else μ.2 k) = if k = 23 then nI s' else if k = 25 then bI w else μ.2 k
  by_cases h : k = 23
  · rw [if_pos h, if_pos h]
  · rw [if_neg h, if_neg h, if_neg h]
theorem pM_n {N' : Nat → Nat} : sA (pM μ w s N) 9 N' = pM μ w s N' := sA_sA
theorem pM_25 : gN (pM μ w s N) 25 = bI w := rfl
theorem pM_23 : gN (pM μ w s N) 23 = nI s := rfl
theorem pM_k {k : Nat} (h1 : k ≠ 23) (h2 : k ≠ 25) : gN (pM μ w s N) k = gN μ k := (if_neg h1).trans (if_neg h2)
theorem pM_9 : gA (pM μ w s N) 9 = N := gA_s
theorem pM_a {i : Nat} (h : i ≠ 9) : gA (pM μ w s N) i = gA μ i := gA_n h
/-- the characters that are read -/
def PIN (L : List Nat) (μ : Mg) : Prop := gN μ 22 = nI L.length ∧ LTo L (gA μ 7) ∧ L.length ≤ 60 ∧ ∀ x ∈ L, 32 ≤ x ∧ x < 127
def mkv (L : List Nat) (w : Bool) (s : Nat) : Int32 := if w = false ∧ s < L.length then nI (L.getD s 0) else -1
theorem ch_lt (hI : PIN L μ) (s : Nat) : L.getD s 0 < 127 := getD_all (by decide) (fun x hx => (hI.2.2.2 x hx).2) s
theorem ch_0 (hI : PIN L μ) (hs : ¬ s < L.length) : L.getD s 0 = 0 := by
  rw [List.getD_eq_getElem?_getD, List.getElem?_eq_none (by omega)]; rfl
theorem ch_ge (hI : PIN L μ) (hs : s < L.length) : 32 ≤ L.getD s 0 := by rw [getD_lt hs]; exact (hI.2.2.2 _ (List.getElem_mem hs)).1
theorem nI_m1 {c : Nat} (hc : c < 2 ^ 31) : ¬ (-1 : Int32) = nI c := fun e => by
  have := (nI_lt0 hc).mp (e ▸ (by decide : (-1 : Int32) < 0)); exact this
theorem mk_eq (hI : PIN L μ) {c : Nat} (h0 : c ≠ 0) (hc : c < 2 ^ 31) : mkv L w s = nI c ↔ w = false ∧ L.getD s 0 = c := by
  have hl := ch_lt hI s
  unfold mkv
  by_cases h : w = false ∧ s < L.length
  · rw [if_pos h, nI_eq (by omega) hc]
    exact ⟨fun e => ⟨h.1, e⟩, fun e => e.2⟩
  · rw [if_neg h]
    refine ⟨fun e => absurd e (nI_m1 hc), fun e => ?_⟩
    have h2 := ch_0 hI (s := s) (fun g => h ⟨e.1, g⟩)
    omega
theorem mk_in (hI : PIN L μ) : inI (mkv L w s) (nI 48) (nI 57) = true ↔ w = false ∧ 48 ≤ L.getD s 0 ∧ L.getD s 0 ≤ 57 := by
  have hl := ch_lt hI s
  unfold mkv
  by_cases h : w = false ∧ s < L.length
  · rw [if_pos h, inI, Bool.and_eq_true, decide_eq_true_eq, decide_eq_true_eq, nI_ltI (by omega) (by decide), nI_ltI (by decide) (by omega)]
    exact ⟨fun e => ⟨h.1, by omega, by omega⟩, fun e => ⟨by omega, by omega⟩⟩
  · rw [if_neg h]
    refine ⟨fun e => absurd e (by decide), fun e => ?_⟩
    have h2 := ch_0 hI (s := s) (fun g => h ⟨e.1, g⟩)
    omega
def isLtB (L : List Nat) (w : Bool) (s : Nat) : Bool := !w && isLt (L.getD s 0)
theorem bI_or1 (a : Bool) : bI a ||| nI 1 = bI true := by cases a <;> decide
theorem bI_or0 (a : Bool) : bI a ||| nI 0 = bI a := by cases a <;> decide
theorem s_X9_mark (h : RM G Λ ρ (pM μ w s N) M) (hI : PIN L μ) (hs : s < 2 ^ 31) (hQ : Q (some (.int (mkv L w s))) M)  : MS G yX9_mark cX9_mark 1 (some .int) d 0 0 [.ref (Λ (10, 0, 0))] M Q QX := by
  have hl60 := hI.2.2.1
  have hs9 : s < 2 ^ 31 := hs
  refine MS.of (by decide) (by simp [Value.category]) (Nat.le_of_ble_eq_true rfl) ?_
  show AW _ (_, _, _, _, _, _, _, _, _) _ _ _ _ [some _] _ _
  refine r_aload_n (q := 1) dX9_mark_0 rfl rfl ?_
  refine r_get (q := 4) (kk := 25) h.m rfl wi_RX9 (by decide) rfl fk_X9_87 rfl dX9_mark_1 rfl ?_
  rw [pM_25]
  refine r_if_ne (t := 30) (q := 7) dX9_mark_4 rfl rfl (fun c4 => ?_) (fun c4 => ?_)
  · rw [show mkv L w s = -1 from if_neg (fun g => c4 (by rw [g.1]; rfl))] at hQ
    refine r_iconst (v := (-1)) (q := 31) dX9_mark_30 (by decide) rfl ?_
    refine r_iret dX9_mark_31 ?_
    exact hQ
  · have cw : w = false := bI_eq0.mp c4
    refine r_aload_n (q := 8) dX9_mark_7 rfl rfl ?_
    refine r_get (q := 11) (kk := 23) h.m rfl wi_RX9 (by decide) rfl fk_X9_81 rfl dX9_mark_8 rfl ?_
    rw [pM_23]
    refine r_aload_n (q := 12) dX9_mark_11 rfl rfl ?_
    refine r_get (q := 15) (kk := 22) h.m rfl wi_RX9 (by decide) rfl fk_X9_78 rfl dX9_mark_12 rfl ?_
    rw [pM_k (by decide) (by decide), hI.1]
    refine r_icmp_ge (t := 30) (q := 18) dX9_mark_15 rfl rfl (fun c15 => ?_) (fun c15 => ?_)
    · simp (disch := omega) only [nI_leI, nI_ltI, nI_eq, nI_lt0, nI_ge0, nI_gt0, nI_le0, nI_eq0] at c15
      rw [show mkv L w s = -1 from if_neg (fun g => absurd g.2 (by omega))] at hQ
      refine r_iconst (v := (-1)) (q := 31) dX9_mark_30 (by decide) rfl ?_
      refine r_iret dX9_mark_31 ?_
      exact hQ
    · simp (disch := omega) only [nI_leI, nI_ltI, nI_eq, nI_lt0, nI_ge0, nI_gt0, nI_le0, nI_eq0] at c15
      rw [show mkv L w s = nI (L.getD s 0) from if_pos ⟨cw, by omega⟩] at hQ
      refine r_aload_n (q := 19) dX9_mark_18 rfl rfl ?_
      refine r_get (q := 22) (kk := 18) h.m rfl wi_RX9 (by decide) rfl fk_X9_66 rfl dX9_mark_19 rfl ?_
      refine r_aload_n (q := 23) dX9_mark_22 rfl rfl ?_
      refine r_get (q := 26) (kk := 23) h.m rfl wi_RX9 (by decide) rfl fk_X9_81 rfl dX9_mark_23 rfl ?_
      rw [pM_23]
      refine r_ialdM (q := 27) h (by decide) (by simp only [mLen]; omega) dX9_mark_26 rfl ?_
      rw [pM_a (by decide), hI.2.1 s (by omega)]
      refine r_goto (t := 31) dX9_mark_27 rfl ?_
      refine r_iret dX9_mark_31 ?_
      exact hQ
def tkS (L : List Nat) (c : Nat) (x : Bool × Nat × (Nat → Nat)) : Bool × Nat × (Nat → Nat) := if x.1 = false ∧ L.getD x.2.1 0 = c then (false, x.2.1 + 1, x.2.2) else (true, x.2.1, x.2.2)
theorem s_X9_takes (h : RM G Λ ρ (pM μ w s N) M) (hI : PIN L μ) (hs : s < 1000) {c : Nat} (h0 : c ≠ 0) (hc : c < 2 ^ 31) (hQ : ∀ M', RM G Λ ρ (pM μ (tkS L c (w, s, N)).1 (tkS L c (w, s, N)).2.1 (tkS L c (w, s, N)).2.2) M' → Q none M')  : MS G yX9_takes cX9_takes 2 none (d + 1) 0 0 [.ref (Λ (10, 0, 0)), .int (nI c)] M Q QX := by
  refine MS.of (by decide) (by simp [Value.category]) (Nat.le_of_ble_eq_true rfl) ?_
  show AW _ (_, _, _, _, _, _, _, _, _) _ _ _ _ [some _, some _] _ _
  refine r_aload_n (q := 1) dX9_takes_0 rfl rfl ?_
  refine r_dup (q := 2) dX9_takes_1 rfl rfl ?_
  refine r_get (q := 5) (kk := 25) h.m rfl wi_RX9 (by decide) rfl fk_X9_87 rfl dX9_takes_2 rfl ?_
  rw [pM_25]
  refine r_aload_n (q := 6) dX9_takes_5 rfl rfl ?_
  refine r_cV (q := 9) (As := []) wc_X9_290 rfl im_X9_mark se_X9_mark h.m rfl rfl (Nat.le_of_ble_eq_true rfl) (Nat.le_of_eq (Nat.zero_add _)) (Nat.le_of_eq (Nat.zero_add _)) dX9_takes_6 rfl rfl (s_X9_mark h hI (by omega) ?_)
  refine r_iload_n (q := 10) dX9_takes_9 rfl rfl ?_
  refine r_icmp_eq (t := 17) (q := 13) dX9_takes_10 rfl rfl (fun c10 => ?_) (fun c10 => ?_)
  · obtain ⟨rfl, hch⟩ := (mk_eq hI h0 hc).mp c10
    rw [show tkS L c (false, s, N) = (false, s + 1, N) from if_pos ⟨rfl, hch⟩] at hQ
    refine r_iconst (v := nI 0) (q := 18) dX9_takes_17 (by decide) rfl ?_
    refine r_ior (q := 19) dX9_takes_18 rfl ?_
    first
      | rw [bI_or1]
      | rw [show bI false ||| nI 0 = bI false from rfl]
    refine r_p9b (q := 22) (b := _) (kk := 25) h (Or.inr (Or.inl rfl)) rfl fk_X9_87 dX9_takes_19 fun M_19 h_19 => ?_
    rw [pM_w] at h_19
    refine r_aload_n (q := 23) dX9_takes_22 rfl rfl ?_
    refine r_dup (q := 24) dX9_takes_23 rfl rfl ?_
    refine r_get (q := 27) (kk := 23) h_19.m rfl wi_RX9 (by decide) rfl fk_X9_81 rfl dX9_takes_24 rfl ?_
    rw [pM_23]
    refine r_aload_n (q := 28) dX9_takes_27 rfl rfl ?_
    refine r_get (q := 31) (kk := 25) h_19.m rfl wi_RX9 (by decide) rfl fk_X9_87 rfl dX9_takes_28 rfl ?_
    rw [pM_25]
    refine r_if_eq (t := 38) (q := 34) dX9_takes_31 rfl rfl (fun c31 => ?_) (fun c31 => ?_)
    · refine r_iconst (v := nI 1) (q := 39) dX9_takes_38 (by decide) rfl ?_
      refine r_iadd (q := 40) dX9_takes_39 rfl ?_
      rw [n_add]
      refine r_p9 (q := 43) (kk := 23) (j := 23) h_19 (by decide) rfl fk_X9_81 dX9_takes_40 rfl fun M_40 h_40 => ?_
      rw [pM_s] at h_40
      refine r_vret dX9_takes_43 ?_
      exact hQ _ h_40
    · exact absurd rfl c31
  · rw [show tkS L c (w, s, N) = (true, s, N) from if_neg (fun g => c10 ((mk_eq hI h0 hc).mpr g))] at hQ
    refine r_iconst (v := nI 1) (q := 14) dX9_takes_13 (by decide) rfl ?_
    refine r_goto (t := 18) dX9_takes_14 rfl ?_
    refine r_ior (q := 19) dX9_takes_18 rfl ?_
    first
      | rw [bI_or1]
      | rw [show bI false ||| nI 0 = bI false from rfl]
    refine r_p9b (q := 22) (b := _) (kk := 25) h (Or.inr (Or.inl rfl)) rfl fk_X9_87 dX9_takes_19 fun M_19 h_19 => ?_
    rw [pM_w] at h_19
    refine r_aload_n (q := 23) dX9_takes_22 rfl rfl ?_
    refine r_dup (q := 24) dX9_takes_23 rfl rfl ?_
    refine r_get (q := 27) (kk := 23) h_19.m rfl wi_RX9 (by decide) rfl fk_X9_81 rfl dX9_takes_24 rfl ?_
    rw [pM_23]
    refine r_aload_n (q := 28) dX9_takes_27 rfl rfl ?_
    refine r_get (q := 31) (kk := 25) h_19.m rfl wi_RX9 (by decide) rfl fk_X9_87 rfl dX9_takes_28 rfl ?_
    rw [pM_25]
    refine r_if_eq (t := 38) (q := 34) dX9_takes_31 rfl rfl (fun c31 => ?_) (fun c31 => ?_)
    · exact absurd c31 (by decide)
    · refine r_iconst (v := nI 0) (q := 35) dX9_takes_34 (by decide) rfl ?_
      refine r_goto (t := 39) dX9_takes_35 rfl ?_
      refine r_iadd (q := 40) dX9_takes_39 rfl ?_
      rw [n_add]
      refine r_p9 (q := 43) (kk := 23) (j := 23) h_19 (by decide) rfl fk_X9_81 dX9_takes_40 rfl fun M_40 h_40 => ?_
      rw [pM_s] at h_40
      refine r_vret dX9_takes_43 ?_
      exact hQ _ h_40
def dgK (L : List Nat) (r a : Nat) (x : Bool × Nat × (Nat → Nat)) : Bool × Nat × (Nat → Nat) := if x.1 = false ∧ 48 ≤ L.getD x.2.1 0 ∧ L.getD x.2.1 0 ≤ 57 then (false, x.2.1 + 1, uN x.2.2 (3 * r + a) (L.getD x.2.1 0 - 48)) else (true, x.2.1, x.2.2)
theorem ch_s (hI : PIN L μ) (h : L.getD s 0 ≠ 0) : s < L.length := Decidable.byContradiction fun g => h (ch_0 hI g)
theorem s_X9_takesDigit (h : RM G Λ ρ (pM μ w s N) M) (hI : PIN L μ) (hs : s < 1000) (hr : gN μ 24 = nI r) (hr31 : r < 50) {a : Nat} (ha : a < 3) (hQ : ∀ M', RM G Λ ρ (pM μ (dgK L r a (w, s, N)).1 (dgK L r a (w, s, N)).2.1 (dgK L r a (w, s, N)).2.2) M' → Q none M')  : MS G yX9_takesDigit cX9_takesDigit 2 none (d + 1) 0 0 [.ref (Λ (10, 0, 0)), .int (nI a)] M Q QX := by
  refine MS.of (by decide) (by simp [Value.category]) (Nat.le_of_ble_eq_true rfl) ?_
  show AW _ (_, _, _, _, _, _, _, _, _) _ _ _ _ [some _, some _] _ _
  refine r_aload_n (q := 1) dX9_takesDigit_0 rfl rfl ?_
  refine r_dup (q := 2) dX9_takesDigit_1 rfl rfl ?_
  refine r_get (q := 5) (kk := 25) h.m rfl wi_RX9 (by decide) rfl fk_X9_87 rfl dX9_takesDigit_2 rfl ?_
  rw [pM_25]
  refine r_aload_n (q := 6) dX9_takesDigit_5 rfl rfl ?_
  refine r_cV (q := 9) (As := []) wc_X9_290 rfl im_X9_mark se_X9_mark h.m rfl rfl (Nat.le_of_ble_eq_true rfl) (Nat.le_of_eq (Nat.zero_add _)) (Nat.le_of_eq (Nat.zero_add _)) dX9_takesDigit_6 rfl rfl (s_X9_mark h hI (by omega) ?_)
  refine r_bipush (v := nI 48) (q := 11) dX9_takesDigit_9 (by decide) rfl ?_
  refine r_bipush (v := nI 57) (q := 13) dX9_takesDigit_11 (by decide) rfl ?_
  refine r_cS (q := 16) (As := [.int _, .int _, .int _]) wc_X9_116 st_X9_in rfl (Nat.le_of_ble_eq_true rfl) (Nat.le_of_eq (Nat.zero_add _)) (Nat.le_of_eq (Nat.zero_add _)) dX9_takesDigit_13 rfl rfl (s_X9_in ?_)
  refine r_if_ne (t := 23) (q := 19) dX9_takesDigit_16 rfl rfl (fun c16 => ?_) (fun c16 => ?_)
  · obtain ⟨rfl, hd1, hd2⟩ := (mk_in hI).mp (bI_ne c16)
    have hsl := ch_s hI (s := s) (by omega)
    have hl60 := hI.2.2.1
    rw [show dgK L r a (false, s, N) = (false, s + 1, uN N (3 * r + a) (L.getD s 0 - 48)) from if_pos ⟨rfl, hd1, hd2⟩] at hQ
    refine r_iconst (v := nI 0) (q := 24) dX9_takesDigit_23 (by decide) rfl ?_
    refine r_ior (q := 25) dX9_takesDigit_24 rfl ?_
    first
      | rw [bI_or1]
      | rw [show bI false ||| nI 0 = bI false from rfl]
    refine r_p9b (q := 28) (b := _) (kk := 25) h (Or.inr (Or.inl rfl)) rfl fk_X9_87 dX9_takesDigit_25 fun M_25 h_25 => ?_
    rw [pM_w] at h_25
    refine r_aload_n (q := 29) dX9_takesDigit_28 rfl rfl ?_
    refine r_get (q := 32) (kk := 25) h_25.m rfl wi_RX9 (by decide) rfl fk_X9_87 rfl dX9_takesDigit_29 rfl ?_
    rw [pM_25]
    refine r_if_eq (t := 36) (q := 35) dX9_takesDigit_32 rfl rfl (fun c32 => ?_) (fun c32 => ?_)
    · refine r_aload_n (q := 37) dX9_takesDigit_36 rfl rfl ?_
      refine r_get (q := 40) (kk := 20) h_25.m rfl wi_RX9 (by decide) rfl fk_X9_72 rfl dX9_takesDigit_37 rfl ?_
      refine r_iconst (v := nI 3) (q := 41) dX9_takesDigit_40 (by decide) rfl ?_
      refine r_aload_n (q := 42) dX9_takesDigit_41 rfl rfl ?_
      refine r_get (q := 45) (kk := 24) h_25.m rfl wi_RX9 (by decide) rfl fk_X9_84 rfl dX9_takesDigit_42 rfl ?_
      rw [pM_k (by decide) (by decide), hr]
      refine r_imul (q := 46) dX9_takesDigit_45 rfl ?_
      rw [n_mul]
      refine r_iload_n (q := 47) dX9_takesDigit_46 rfl rfl ?_
      refine r_iadd (q := 48) dX9_takesDigit_47 rfl ?_
      rw [n_add]
      refine r_aload_n (q := 49) dX9_takesDigit_48 rfl rfl ?_
      refine r_get (q := 52) (kk := 18) h_25.m rfl wi_RX9 (by decide) rfl fk_X9_66 rfl dX9_takesDigit_49 rfl ?_
      refine r_aload_n (q := 53) dX9_takesDigit_52 rfl rfl ?_
      refine r_get (q := 56) (kk := 23) h_25.m rfl wi_RX9 (by decide) rfl fk_X9_81 rfl dX9_takesDigit_53 rfl ?_
      rw [pM_23]
      refine r_ialdM (q := 57) h_25 (by decide) (by simp only [mLen]; omega) dX9_takesDigit_56 rfl ?_
      rw [pM_a (by decide), hI.2.1 s hsl]
      refine r_bipush (v := nI 48) (q := 59) dX9_takesDigit_57 (by decide) rfl ?_
      refine r_isub (q := 60) dX9_takesDigit_59 rfl ?_
      rw [n_sub hd1]
      refine r_iastM (q := 61) h_25 (by decide) (by simp only [mLen]; omega) (by omega) dX9_takesDigit_60 rfl fun M_60 h_60 => ?_
      rw [pM_9, pM_n] at h_60
      refine r_aload_n (q := 62) dX9_takesDigit_61 rfl rfl ?_
      refine r_dup (q := 63) dX9_takesDigit_62 rfl rfl ?_
      refine r_get (q := 66) (kk := 23) h_60.m rfl wi_RX9 (by decide) rfl fk_X9_81 rfl dX9_takesDigit_63 rfl ?_
      rw [pM_23]
      refine r_iconst (v := nI 1) (q := 67) dX9_takesDigit_66 (by decide) rfl ?_
      refine r_iadd (q := 68) dX9_takesDigit_67 rfl ?_
      rw [n_add]
      refine r_p9 (q := 71) (kk := 23) (j := 23) h_60 (by decide) rfl fk_X9_81 dX9_takesDigit_68 rfl fun M_68 h_68 => ?_
      rw [pM_s] at h_68
      refine r_vret dX9_takesDigit_71 ?_
      exact hQ _ h_68
    · exact absurd rfl c32
  · rw [show dgK L r a (w, s, N) = (true, s, N) from if_neg (fun g => by rw [(mk_in hI).mpr g] at c16; exact absurd c16 (by decide))] at hQ
    refine r_iconst (v := nI 1) (q := 20) dX9_takesDigit_19 (by decide) rfl ?_
    refine r_goto (t := 24) dX9_takesDigit_20 rfl ?_
    refine r_ior (q := 25) dX9_takesDigit_24 rfl ?_
    first
      | rw [bI_or1]
      | rw [show bI false ||| nI 0 = bI false from rfl]
    refine r_p9b (q := 28) (b := _) (kk := 25) h (Or.inr (Or.inl rfl)) rfl fk_X9_87 dX9_takesDigit_25 fun M_25 h_25 => ?_
    rw [pM_w] at h_25
    refine r_aload_n (q := 29) dX9_takesDigit_28 rfl rfl ?_
    refine r_get (q := 32) (kk := 25) h_25.m rfl wi_RX9 (by decide) rfl fk_X9_87 rfl dX9_takesDigit_29 rfl ?_
    rw [pM_25]
    refine r_if_eq (t := 36) (q := 35) dX9_takesDigit_32 rfl rfl (fun c32 => ?_) (fun c32 => ?_)
    · exact absurd c32 (by decide)
    · refine r_vret dX9_takesDigit_35 ?_
      exact hQ _ h_25
theorem isLtB_0 (h : isLtB L w s = true) : w = false ∧ (L.getD s 0 = 108 ∨ L.getD s 0 = 115) := by
  rw [isLtB, Bool.and_eq_true, Bool.not_eq_true', isLt, Bool.or_eq_true, decide_eq_true_eq, decide_eq_true_eq] at h
  exact h
theorem isLtB_1 (hw : w = false) (h : L.getD s 0 = 108 ∨ L.getD s 0 = 115) : isLtB L w s = true := by
  rw [isLtB, Bool.and_eq_true, Bool.not_eq_true', isLt, Bool.or_eq_true, decide_eq_true_eq, decide_eq_true_eq]
  exact ⟨hw, h⟩
theorem isLtB_f (h : ¬ (w = false ∧ (L.getD s 0 = 108 ∨ L.getD s 0 = 115))) : isLtB L w s = false := by
  cases e : isLtB L w s with
  | false => rfl
  | true => exact absurd (isLtB_0 e) h
theorem s_X9_isLetter (h : RM G Λ ρ (pM μ w s N) M) (hI : PIN L μ) (hs : s < 1000) (hQ : Q (some (.int (bI (isLtB L w s)))) M)  : MS G yX9_isLetter cX9_isLetter 1 (some .boolean) (d + 1) 0 0 [.ref (Λ (10, 0, 0))] M Q QX := by
  refine MS.of (by decide) (by simp [Value.category]) (Nat.le_of_ble_eq_true rfl) ?_
  show AW _ (_, _, _, _, _, _, _, _, _) _ _ _ _ [some _] _ _
  refine r_aload_n (q := 1) dX9_isLetter_0 rfl rfl ?_
  refine r_cV (q := 4) (As := []) wc_X9_290 rfl im_X9_mark se_X9_mark h.m rfl rfl (Nat.le_of_ble_eq_true rfl) (Nat.le_of_eq (Nat.zero_add _)) (Nat.le_of_eq (Nat.zero_add _)) dX9_isLetter_1 rfl rfl (s_X9_mark h hI (by omega) ?_)
  refine r_bipush (v := nI 108) (q := 6) dX9_isLetter_4 (by decide) rfl ?_
  refine r_icmp_eq (t := 18) (q := 9) dX9_isLetter_6 rfl rfl (fun c6 => ?_) (fun c6 => ?_)
  · obtain ⟨e1, e2⟩ := (mk_eq hI (by decide) (by decide)).mp c6
    rw [isLtB_1 e1 (Or.inl e2)] at hQ
    refine r_iconst (v := nI 1) (q := 19) dX9_isLetter_18 (by decide) rfl ?_
    refine r_goto (t := 23) dX9_isLetter_19 rfl ?_
    refine r_zret dX9_isLetter_23 (by first | rfl | exact narrow_bI _) ?_
    exact hQ
  · refine r_aload_n (q := 10) dX9_isLetter_9 rfl rfl ?_
    refine r_cV (q := 13) (As := []) wc_X9_290 rfl im_X9_mark se_X9_mark h.m rfl rfl (Nat.le_of_ble_eq_true rfl) (Nat.le_of_eq (Nat.zero_add _)) (Nat.le_of_eq (Nat.zero_add _)) dX9_isLetter_10 rfl rfl (s_X9_mark h hI (by omega) ?_)
    refine r_bipush (v := nI 115) (q := 15) dX9_isLetter_13 (by decide) rfl ?_
    refine r_icmp_ne (t := 22) (q := 18) dX9_isLetter_15 rfl rfl (fun c15 => ?_) (fun c15 => ?_)
    · rw [isLtB_f (fun g => g.2.elim (fun e => c6 ((mk_eq hI (by decide) (by decide)).mpr ⟨g.1, e⟩)) (fun e => c15 ((mk_eq hI (by decide) (by decide)).mpr ⟨g.1, e⟩)))] at hQ
      refine r_iconst (v := nI 0) (q := 23) dX9_isLetter_22 (by decide) rfl ?_
      refine r_zret dX9_isLetter_23 (by first | rfl | exact narrow_bI _) ?_
      exact hQ
    · obtain ⟨e1, e2⟩ := (mk_eq hI (by decide) (by decide)).mp c15
      rw [isLtB_1 e1 (Or.inr e2)] at hQ
      refine r_iconst (v := nI 1) (q := 19) dX9_isLetter_18 (by decide) rfl ?_
      refine r_goto (t := 23) dX9_isLetter_19 rfl ?_
      refine r_zret dX9_isLetter_23 (by first | rfl | exact narrow_bI _) ?_
      exact hQ
def wdK (L : List Nat) (r : Nat) (x : Bool × Nat × (Nat → Nat)) : Bool × Nat × (Nat → Nat) := if isLtB L x.1 x.2.1 = true then (false, (pWl L 6 (x.2.1, 0, 0)).1, uN (uN x.2.2 (3 * r + 1) (pWl L 6 (x.2.1, 0, 0)).2.1) (3 * r + 2) (pWl L 6 (x.2.1, 0, 0)).2.2) else (true, x.2.1, uN (uN x.2.2 (3 * r + 1) 0) (3 * r + 2) 0)
theorem or_bit : ∀ n : Nat, n < 6 → ∀ b : Nat, b < 64 → b < 2 ^ n → b ||| 1 * 2 ^ n = b + 2 ^ n := by decide +kernel
theorem pWl_stop {x : Nat × Nat × Nat} {q : Nat} (h : isLt (L.getD x.1 0) = false) : pWl L q x = x := by
  cases q with
  | zero => rfl
  | succ q => rw [pWl, if_neg (by rw [h]; decide)]
theorem s_X9_takesWord (h : RM G Λ ρ (pM μ w s N) M) (hI : PIN L μ) (hs : s < 900) (hr : gN μ 24 = nI r) (hr31 : r < 50) (hQ : ∀ M', RM G Λ ρ (pM μ (wdK L r (w, s, N)).1 (wdK L r (w, s, N)).2.1 (wdK L r (w, s, N)).2.2) M' → Q none M')  : MS G yX9_takesWord cX9_takesWord 3 none (d + 2) 0 0 [.ref (Λ (10, 0, 0))] M Q QX := by
  have okw : ∀ w1 M1, RM G Λ ρ (pM μ w1 s N) M1 → (∀ M', RM G Λ ρ (pM μ w1 (if w1 = false then (pWl L 6 (s, 0, 0)).1 else s) (uN (uN N (3 * r + 1) (if w1 = false then (pWl L 6 (s, 0, 0)).2.1 else 0)) (3 * r + 2) (if w1 = false then (pWl L 6 (s, 0, 0)).2.2 else 0))) M' → Q none M') → AW G (wX G yX9_takesWord cX9_takesWord 3 none 0 0 Q QX) (d + 2) 0 0 25 [some (.ref (Λ (10, 0, 0))), some (.int (nI 0)), some (.int (nI 0))] [] M1 := by
    intro w1 M1 h1 hQ1
    have loop : ∀ (m : Nat) (n b p q : Nat) (M1 : Me), m = 6 - n → n + q = 6 → b < 2 ^ n → p ≤ 900 + n → RM G Λ ρ (pM μ w1 p N) M1 → (∀ M', RM G Λ ρ (pM μ w1 (if w1 = false then (pWl L q (p, n, b)).1 else p) (uN (uN N (3 * r + 1) (if w1 = false then (pWl L q (p, n, b)).2.1 else n)) (3 * r + 2) (if w1 = false then (pWl L q (p, n, b)).2.2 else b))) M' → Q none M') → AW G (wX G yX9_takesWord cX9_takesWord 3 none 0 0 Q QX) (d + 2) 0 0 25 [some (.ref (Λ (10, 0, 0))), some (.int (nI n)), some (.int (nI b))] [] M1 := by
      intro m
      induction m using Nat.strongRecOn with
      | _ m ih =>
      intro n b p q M1 hm hn hb hp h1 hQ1
      subst hm
      refine r_iload_n (q := 26) dX9_takesWord_25 rfl rfl ?_
      refine r_bipush (v := nI 6) (q := 28) dX9_takesWord_26 (by decide) rfl ?_
      refine r_icmp_ge (t := 73) (q := 31) dX9_takesWord_28 rfl rfl (fun c28 => ?_) (fun c28 => ?_)
      · simp (disch := omega) only [nI_leI, nI_ltI, nI_eq, nI_lt0, nI_ge0, nI_gt0, nI_le0, nI_eq0] at c28
        obtain rfl : q = 0 := by omega
        have hfin : ∀ M', RM G Λ ρ (pM μ w1 p (uN (uN N (3 * r + 1) n) (3 * r + 2) b)) M' → Q none M' := by
          intro M2 h2
          refine hQ1 M2 ?_
          split
          · exact h2
          · exact h2
        have hb64 := pw64 (show n ≤ 6 by omega) hb
        refine r_aload_n (q := 74) dX9_takesWord_73 rfl rfl ?_
        refine r_get (q := 77) (kk := 20) h1.m rfl wi_RX9 (by decide) rfl fk_X9_72 rfl dX9_takesWord_74 rfl ?_
        refine r_iconst (v := nI 3) (q := 78) dX9_takesWord_77 (by decide) rfl ?_
        refine r_aload_n (q := 79) dX9_takesWord_78 rfl rfl ?_
        refine r_get (q := 82) (kk := 24) h1.m rfl wi_RX9 (by decide) rfl fk_X9_84 rfl dX9_takesWord_79 rfl ?_
        rw [pM_k (by decide) (by decide), hr]
        refine r_imul (q := 83) dX9_takesWord_82 rfl ?_
        rw [n_mul]
        refine r_iconst (v := nI 1) (q := 84) dX9_takesWord_83 (by decide) rfl ?_
        refine r_iadd (q := 85) dX9_takesWord_84 rfl ?_
        rw [n_add]
        refine r_iload_n (q := 86) dX9_takesWord_85 rfl rfl ?_
        refine r_iastM (q := 87) h1 (by decide) (by simp only [mLen]; omega) (by omega) dX9_takesWord_86 rfl fun M_86 h1_86 => ?_
        rw [pM_9, pM_n] at h1_86
        refine r_aload_n (q := 88) dX9_takesWord_87 rfl rfl ?_
        refine r_get (q := 91) (kk := 20) h1_86.m rfl wi_RX9 (by decide) rfl fk_X9_72 rfl dX9_takesWord_88 rfl ?_
        refine r_iconst (v := nI 3) (q := 92) dX9_takesWord_91 (by decide) rfl ?_
        refine r_aload_n (q := 93) dX9_takesWord_92 rfl rfl ?_
        refine r_get (q := 96) (kk := 24) h1_86.m rfl wi_RX9 (by decide) rfl fk_X9_84 rfl dX9_takesWord_93 rfl ?_
        rw [pM_k (by decide) (by decide), hr]
        refine r_imul (q := 97) dX9_takesWord_96 rfl ?_
        rw [n_mul]
        refine r_iconst (v := nI 2) (q := 98) dX9_takesWord_97 (by decide) rfl ?_
        refine r_iadd (q := 99) dX9_takesWord_98 rfl ?_
        rw [n_add]
        refine r_iload_n (q := 100) dX9_takesWord_99 rfl rfl ?_
        refine r_iastM (q := 101) h1_86 (by decide) (by simp only [mLen]; omega) (by omega) dX9_takesWord_100 rfl fun M_100 h1_100 => ?_
        rw [pM_9, pM_n] at h1_100
        refine r_vret dX9_takesWord_101 ?_
        exact hfin _ h1_100
      · simp (disch := omega) only [nI_leI, nI_ltI, nI_eq, nI_lt0, nI_ge0, nI_gt0, nI_le0, nI_eq0] at c28
        refine r_aload_n (q := 32) dX9_takesWord_31 rfl rfl ?_
        refine r_cV (q := 35) (As := []) wc_X9_293 rfl im_X9_isLetter se_X9_isLetter h1.m rfl rfl (Nat.le_of_ble_eq_true rfl) (Nat.le_of_eq (Nat.zero_add _)) (Nat.le_of_eq (Nat.zero_add _)) dX9_takesWord_32 rfl rfl (s_X9_isLetter h1 hI (by omega) ?_)
        refine r_if_eq (t := 73) (q := 38) dX9_takesWord_35 rfl rfl (fun c35 => ?_) (fun c35 => ?_)
        · have c35b := bI_eq0.mp c35
          have hfin : ∀ M', RM G Λ ρ (pM μ w1 p (uN (uN N (3 * r + 1) n) (3 * r + 2) b)) M' → Q none M' := by
            intro M2 h2
            refine hQ1 M2 ?_
            split
            · rename_i e
              rw [pWl_stop (x := (p, n, b)) (by rw [e, isLtB] at c35b; simpa using c35b)]
              exact h2
            · exact h2
          have hb64 := pw64 (show n ≤ 6 by omega) hb
          refine r_aload_n (q := 74) dX9_takesWord_73 rfl rfl ?_
          refine r_get (q := 77) (kk := 20) h1.m rfl wi_RX9 (by decide) rfl fk_X9_72 rfl dX9_takesWord_74 rfl ?_
          refine r_iconst (v := nI 3) (q := 78) dX9_takesWord_77 (by decide) rfl ?_
          refine r_aload_n (q := 79) dX9_takesWord_78 rfl rfl ?_
          refine r_get (q := 82) (kk := 24) h1.m rfl wi_RX9 (by decide) rfl fk_X9_84 rfl dX9_takesWord_79 rfl ?_
          rw [pM_k (by decide) (by decide), hr]
          refine r_imul (q := 83) dX9_takesWord_82 rfl ?_
          rw [n_mul]
          refine r_iconst (v := nI 1) (q := 84) dX9_takesWord_83 (by decide) rfl ?_
          refine r_iadd (q := 85) dX9_takesWord_84 rfl ?_
          rw [n_add]
          refine r_iload_n (q := 86) dX9_takesWord_85 rfl rfl ?_
          refine r_iastM (q := 87) h1 (by decide) (by simp only [mLen]; omega) (by omega) dX9_takesWord_86 rfl fun M_86 h1_86 => ?_
          rw [pM_9, pM_n] at h1_86
          refine r_aload_n (q := 88) dX9_takesWord_87 rfl rfl ?_
          refine r_get (q := 91) (kk := 20) h1_86.m rfl wi_RX9 (by decide) rfl fk_X9_72 rfl dX9_takesWord_88 rfl ?_
          refine r_iconst (v := nI 3) (q := 92) dX9_takesWord_91 (by decide) rfl ?_
          refine r_aload_n (q := 93) dX9_takesWord_92 rfl rfl ?_
          refine r_get (q := 96) (kk := 24) h1_86.m rfl wi_RX9 (by decide) rfl fk_X9_84 rfl dX9_takesWord_93 rfl ?_
          rw [pM_k (by decide) (by decide), hr]
          refine r_imul (q := 97) dX9_takesWord_96 rfl ?_
          rw [n_mul]
          refine r_iconst (v := nI 2) (q := 98) dX9_takesWord_97 (by decide) rfl ?_
          refine r_iadd (q := 99) dX9_takesWord_98 rfl ?_
          rw [n_add]
          refine r_iload_n (q := 100) dX9_takesWord_99 rfl rfl ?_
          refine r_iastM (q := 101) h1_86 (by decide) (by simp only [mLen]; omega) (by omega) dX9_takesWord_100 rfl fun M_100 h1_100 => ?_
          rw [pM_9, pM_n] at h1_100
          refine r_vret dX9_takesWord_101 ?_
          exact hfin _ h1_100
        · obtain ⟨rfl, hch⟩ := isLtB_0 (bI_ne c35)
          obtain ⟨q, rfl⟩ : ∃ q0, q = q0 + 1 := ⟨q - 1, by omega⟩
          have hlt : isLt (L.getD p 0) = true := by rcases hch with e | e <;> rw [e] <;> rfl
          have hb64 := pw64 (show n ≤ 6 by omega) hb
          rw [if_pos rfl, if_pos rfl, if_pos rfl, pWl, if_pos hlt] at hQ1
          refine r_iload_n (q := 39) dX9_takesWord_38 rfl rfl ?_
          refine r_aload_n (q := 40) dX9_takesWord_39 rfl rfl ?_
          refine r_cV (q := 43) (As := []) wc_X9_290 rfl im_X9_mark se_X9_mark h1.m rfl rfl (Nat.le_of_ble_eq_true rfl) (Nat.le_of_eq (Nat.zero_add _)) (Nat.le_of_eq (Nat.zero_add _)) dX9_takesWord_40 rfl rfl (s_X9_mark h1 hI (by omega) ?_)
          refine r_bipush (v := nI 108) (q := 45) dX9_takesWord_43 (by decide) rfl ?_
          refine r_icmp_ne (t := 54) (q := 48) dX9_takesWord_45 rfl rfl (fun c45 => ?_) (fun c45 => ?_)
          · have c45b : ¬ L.getD p 0 = 108 := fun g => c45 ((mk_eq hI (by decide) (by decide)).mpr ⟨rfl, g⟩)
            rw [if_neg c45b] at hQ1
            refine r_iconst (v := nI 0) (q := 55) dX9_takesWord_54 (by decide) rfl ?_
            refine r_ior (q := 56) dX9_takesWord_55 rfl ?_
            rw [n_or]
            first
              | rw [or_bit n (by omega) b hb64 hb]
              | rw [Nat.or_zero]
            refine r_istore_n (q := 57) dX9_takesWord_56 (Nat.le_of_ble_eq_true rfl) rfl rfl ?_
            show AW _ (_, _, _, _, _, _, _, _, _) _ _ _ _ [some _, some _, some _] _ _
            refine r_inc1 (q := 60) dX9_takesWord_57 rfl (Nat.le_of_ble_eq_true rfl) rfl rfl ?_
            show AW _ (_, _, _, _, _, _, _, _, _) _ _ _ _ [some _, some _, some _] _ _
            refine r_aload_n (q := 61) dX9_takesWord_60 rfl rfl ?_
            refine r_dup (q := 62) dX9_takesWord_61 rfl rfl ?_
            refine r_get (q := 65) (kk := 23) h1.m rfl wi_RX9 (by decide) rfl fk_X9_81 rfl dX9_takesWord_62 rfl ?_
            rw [pM_23]
            refine r_iconst (v := nI 1) (q := 66) dX9_takesWord_65 (by decide) rfl ?_
            refine r_iadd (q := 67) dX9_takesWord_66 rfl ?_
            rw [n_add]
            refine r_p9 (q := 70) (kk := 23) (j := 23) h1 (by decide) rfl fk_X9_81 dX9_takesWord_67 rfl fun M_67 h1_67 => ?_
            rw [pM_s] at h1_67
            refine r_goto (t := 25) dX9_takesWord_70 rfl ?_
            exact ih (6 - (n + 1)) (by omega) (n + 1) _ _ q _ rfl (by omega) (by have := Nat.pow_succ 2 n; first | omega | (have := hb; omega)) (by omega) h1_67 (by rw [if_pos rfl, if_pos rfl, if_pos rfl]; exact hQ1)
          · have c45b := ((mk_eq hI (by decide) (by decide)).mp c45).2
            rw [if_pos c45b] at hQ1
            refine r_iconst (v := nI 1) (q := 49) dX9_takesWord_48 (by decide) rfl ?_
            refine r_iload_n (q := 50) dX9_takesWord_49 rfl rfl ?_
            refine r_ishl (q := 51) dX9_takesWord_50 rfl ?_
            rw [n_shl (by omega) (by rw [Nat.one_mul]; exact Nat.lt_of_le_of_lt (Nat.pow_le_pow_right (n := 2) (by decide) (show n ≤ 6 by omega)) (by decide))]
            refine r_goto (t := 55) dX9_takesWord_51 rfl ?_
            refine r_ior (q := 56) dX9_takesWord_55 rfl ?_
            rw [n_or]
            first
              | rw [or_bit n (by omega) b hb64 hb]
              | rw [Nat.or_zero]
            refine r_istore_n (q := 57) dX9_takesWord_56 (Nat.le_of_ble_eq_true rfl) rfl rfl ?_
            show AW _ (_, _, _, _, _, _, _, _, _) _ _ _ _ [some _, some _, some _] _ _
            refine r_inc1 (q := 60) dX9_takesWord_57 rfl (Nat.le_of_ble_eq_true rfl) rfl rfl ?_
            show AW _ (_, _, _, _, _, _, _, _, _) _ _ _ _ [some _, some _, some _] _ _
            refine r_aload_n (q := 61) dX9_takesWord_60 rfl rfl ?_
            refine r_dup (q := 62) dX9_takesWord_61 rfl rfl ?_
            refine r_get (q := 65) (kk := 23) h1.m rfl wi_RX9 (by decide) rfl fk_X9_81 rfl dX9_takesWord_62 rfl ?_
            rw [pM_23]
            refine r_iconst (v := nI 1) (q := 66) dX9_takesWord_65 (by decide) rfl ?_
            refine r_iadd (q := 67) dX9_takesWord_66 rfl ?_
            rw [n_add]
            refine r_p9 (q := 70) (kk := 23) (j := 23) h1 (by decide) rfl fk_X9_81 dX9_takesWord_67 rfl fun M_67 h1_67 => ?_
            rw [pM_s] at h1_67
            refine r_goto (t := 25) dX9_takesWord_70 rfl ?_
            exact ih (6 - (n + 1)) (by omega) (n + 1) _ _ q _ rfl (by omega) (by have := Nat.pow_succ 2 n; first | omega | (have := hb; omega)) (by omega) h1_67 (by rw [if_pos rfl, if_pos rfl, if_pos rfl]; exact hQ1)
    exact loop _ 0 0 s 6 _ rfl rfl (by decide) (by omega) h1 hQ1
  refine MS.of (by decide) (by simp [Value.category]) (Nat.le_of_ble_eq_true rfl) ?_
  show AW _ (_, _, _, _, _, _, _, _, _) _ _ _ _ [some _, _, _] _ _
  refine r_aload_n (q := 1) dX9_takesWord_0 rfl rfl ?_
  refine r_dup (q := 2) dX9_takesWord_1 rfl rfl ?_
  refine r_get (q := 5) (kk := 25) h.m rfl wi_RX9 (by decide) rfl fk_X9_87 rfl dX9_takesWord_2 rfl ?_
  rw [pM_25]
  refine r_aload_n (q := 6) dX9_takesWord_5 rfl rfl ?_
  refine r_cV (q := 9) (As := []) wc_X9_293 rfl im_X9_isLetter se_X9_isLetter h.m rfl rfl (Nat.le_of_ble_eq_true rfl) (Nat.le_of_eq (Nat.zero_add _)) (Nat.le_of_eq (Nat.zero_add _)) dX9_takesWord_6 rfl rfl (s_X9_isLetter h hI (by omega) ?_)
  refine r_if_ne (t := 16) (q := 12) dX9_takesWord_9 rfl rfl (fun c9 => ?_) (fun c9 => ?_)
  · have e9 := bI_ne c9
    obtain ⟨rfl, -⟩ := isLtB_0 e9
    rw [show wdK L r (false, s, N) = (false, (pWl L 6 (s, 0, 0)).1, uN (uN N (3 * r + 1) (pWl L 6 (s, 0, 0)).2.1) (3 * r + 2) (pWl L 6 (s, 0, 0)).2.2) from if_pos e9] at hQ
    refine r_iconst (v := nI 0) (q := 17) dX9_takesWord_16 (by decide) rfl ?_
    refine r_ior (q := 18) dX9_takesWord_17 rfl ?_
    first
      | rw [bI_or1]
      | rw [show bI false ||| nI 0 = bI false from rfl]
    refine r_p9b (q := 21) (b := _) (kk := 25) h (Or.inr (Or.inl rfl)) rfl fk_X9_87 dX9_takesWord_18 fun M_18 h_18 => ?_
    rw [pM_w] at h_18
    refine r_iconst (v := nI 0) (q := 22) dX9_takesWord_21 (by decide) rfl ?_
    refine r_istore_n (q := 23) dX9_takesWord_22 (Nat.le_of_ble_eq_true rfl) rfl rfl ?_
    show AW _ (_, _, _, _, _, _, _, _, _) _ _ _ _ [some _, some _, _] _ _
    refine r_iconst (v := nI 0) (q := 24) dX9_takesWord_23 (by decide) rfl ?_
    refine r_istore_n (q := 25) dX9_takesWord_24 (Nat.le_of_ble_eq_true rfl) rfl rfl ?_
    show AW _ (_, _, _, _, _, _, _, _, _) _ _ _ _ [some _, some _, some _] _ _
    exact okw _ _ h_18 hQ
  · have e9 := bI_eq0.mp c9
    rw [show wdK L r (w, s, N) = (true, s, uN (uN N (3 * r + 1) 0) (3 * r + 2) 0) from if_neg (by rw [e9]; decide)] at hQ
    refine r_iconst (v := nI 1) (q := 13) dX9_takesWord_12 (by decide) rfl ?_
    refine r_goto (t := 17) dX9_takesWord_13 rfl ?_
    refine r_ior (q := 18) dX9_takesWord_17 rfl ?_
    first
      | rw [bI_or1]
      | rw [show bI false ||| nI 0 = bI false from rfl]
    refine r_p9b (q := 21) (b := _) (kk := 25) h (Or.inr (Or.inl rfl)) rfl fk_X9_87 dX9_takesWord_18 fun M_18 h_18 => ?_
    rw [pM_w] at h_18
    refine r_iconst (v := nI 0) (q := 22) dX9_takesWord_21 (by decide) rfl ?_
    refine r_istore_n (q := 23) dX9_takesWord_22 (Nat.le_of_ble_eq_true rfl) rfl rfl ?_
    show AW _ (_, _, _, _, _, _, _, _, _) _ _ _ _ [some _, some _, _] _ _
    refine r_iconst (v := nI 0) (q := 24) dX9_takesWord_23 (by decide) rfl ?_
    refine r_istore_n (q := 25) dX9_takesWord_24 (Nat.le_of_ble_eq_true rfl) rfl rfl ?_
    show AW _ (_, _, _, _, _, _, _, _, _) _ _ _ _ [some _, some _, some _] _ _
    exact okw _ _ h_18 hQ
end W62
