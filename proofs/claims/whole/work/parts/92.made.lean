/-! MADE ANEW: rows, the model -/
section W92
variable {G : En} {Λ : Ob → Nat} {ρ : Me} {M : Me} {d : Nat} {Q : Option Value → Me → Prop} {QX : String → Me → Prop}
theorem aC_int : lw_tbl[151]? = some (.arrayClass .int) := by decide +kernel
theorem oi_X0 : lw_tbl[233]? = some (.methodLink RX0 3 Lib.objectInit) := by decide +kernel
theorem oi_X1 : lw_tbl[252]? = some (.methodLink RX1 3 Lib.objectInit) := by decide +kernel
theorem oi_X2 : lw_tbl[143]? = some (.methodLink RX2 1 Lib.objectInit) := by decide +kernel
theorem oi_X5 : lw_tbl[137]? = some (.methodLink RX5 3 Lib.objectInit) := by decide +kernel
theorem oi_X6 : lw_tbl[282]? = some (.methodLink RX6 3 Lib.objectInit) := by decide +kernel
theorem oi_X8 : lw_tbl[129]? = some (.methodLink RX8 3 Lib.objectInit) := by decide +kernel
theorem oi_X9 : lw_tbl[1611]? = some (.methodLink RX9 1 Lib.objectInit) := by decide +kernel
theorem s_X2_init {a b r n : Nat} (hM : M (2, a, b) = some (r, .inr (3, [.null, .int 0]))) (h3 : M (3, a, b) = none) (hn : n < 2 ^ 20) (hQ : ∀ M' ad, M' (2, a, b) = some (r, .inr (3, [.ref ad, .int (nI 0)])) → M' (3, a, b) = some (ad, .inl (G.2.2.1 0, n, .inl fun _ => 0)) → (∀ o : Ob, o ≠ (2, a, b) → o ≠ (3, a, b) → M' o = M o) → Q none M') : MS G yX2_init cX2_init 2 none (d + 1) 1 n [.ref r, .int (nI n)] M Q QX := by
  refine MS.of (by decide) (by simp [Value.category]) (Nat.le_of_ble_eq_true rfl) ?_
  show AW _ (_, _, _, _, _, _, _, _, _) _ _ _ _ [some _, some _] _ _
  refine r_aload_n (q := 1) dX2_init_0 rfl rfl ?_
  refine r_objInit (q := 4) oi_X2 dX2_init_1 rfl (Nat.le_of_ble_eq_true rfl) ?_
  refine r_aload_n (q := 5) dX2_init_4 rfl rfl ?_
  refine r_iconst (v := nI 0) (q := 6) dX2_init_5 (by decide) rfl ?_
  refine r_put' (q := 9) (kk := 1) (ty0 := tyX2) hM rfl wi_RX2 tyX2_ok nmX2 (by decide) (Or.inl rfl) rfl fk_X2_7 rfl rfl (Nat.le_of_ble_eq_true rfl) dX2_init_6 rfl fun M2 hM2 hO2 => ?_
  refine r_aload_n (q := 10) dX2_init_9 rfl rfl ?_
  refine r_iload_n (q := 11) dX2_init_10 rfl rfl ?_
  refine r_if_ge (q := 14) (t := 18) dX2_init_11 rfl rfl (fun _ => ?_) (fun c => absurd (Int32.not_lt.mp (nI_pos (by omega))) c)
  refine r_iload_n (q := 19) dX2_init_18 rfl rfl ?_
  refine AW.less (k' := 0 + 1) (n' := 0 + n) (Nat.le_refl _) (by omega) ?_
  refine r_newa (q := 21) (t := 0) (i1 := 151) (atype := .int) (ty := .int) (N := n) (z := nI n) (a0 := (n, .inl fun _ => 0)) (3, a, b) ((hO2 _ (by simp)).trans h3) rfl (fun _ h => by cases h) rfl aC_int (fun _ => rfl) (nI_pos (by omega)) (nI_clamp (by omega)) (by show n * 4 ≤ _; omega) dX2_init_19 rfl fun ad => ?_
  refine r_put' (q := 24) (kk := 0) (ty0 := tyX2) ((if_neg (by simp)).trans hM2) rfl wi_RX2 tyX2_ok nmX2 (by decide) (Or.inr ⟨rfl, rfl⟩) rfl fk_X2_13 rfl rfl (Nat.le_of_ble_eq_true rfl) dX2_init_21 rfl fun M3 hM3 hO3 => ?_
  refine r_vret dX2_init_24 ?_
  exact hQ M3 ad hM3 ((hO3 _ (by simp)).trans (if_pos rfl)) fun o h8 h9 => (hO3 o h8).trans ((if_neg h9).trans (hO2 o h8))
/-- the model's memory while it is being made: its arrays so far -/
def MI (G : En) (L : List Nat) (ρ M : Me) : Prop := (∀ j, j < L.length → M (11, j, 0) = some (L.getD j 0, .inl (G.2.2.1 0, mLen j, .inl fun _ => 0))) ∧ (∀ j, L.length ≤ j → M (11, j, 0) = none) ∧ ∀ o : Ob, o.1 ≠ 10 → o.1 ≠ 11 → M o = ρ o
theorem MI.put {L : List Nat} {M' : Me} (h : MI G L ρ M) (hO : ∀ x, x ≠ (10, 0, 0) → M' x = M x) : MI G L ρ M' :=
  ⟨fun j hj => (hO _ (by simp)).trans (h.1 j hj), fun j hj => (hO _ (by simp)).trans (h.2.1 j hj), fun o h0 h1 => (hO o (fun e => h0 (by rw [e]))).trans (h.2.2 o h0 h1)⟩
theorem MI.new {L : List Nat} {z a : Nat} (h : MI G L ρ M) (hz : z = mLen L.length) : MI G (L ++ [a]) ρ (fun y => if y = (11, L.length, 0) then some (a, .inl (G.2.2.1 0, z, .inl fun _ => 0)) else M y) := by
  refine ⟨fun j hj => ?_, fun j hj => ?_, fun o h0 h1 => ?_⟩
  · rw [List.length_append] at hj
    replace hj : j < L.length + 1 := hj
    by_cases g : j = L.length
    · subst g
      show (if _ then _ else _) = _
      rw [if_pos rfl, getD_last, hz]
    · show (if _ then _ else _) = _
      rw [if_neg (fun e => g (by simpa using e)), getD_app (by omega)]; exact h.1 j (by omega)
  · rw [List.length_append] at hj
    replace hj : L.length + 1 ≤ j := hj
    show (if _ then _ else _) = _
    rw [if_neg (fun e => absurd (show j = L.length by simpa using e) (by omega))]; exact h.2.1 j (by omega)
  · show (if _ then _ else _) = _
    rw [if_neg (fun e => h1 (by rw [e]))]; exact h.2.2 o h0 h1
def m0N : Nat → Int32 := fun k => if k = 10 ∨ k = 11 then -1 else 0
def m1 : Mg := (fun _ _ => 0, m0N)
def m0 : Mg := sA m1 0 (clC 7)
theorem s_X9_init {s : Nat} (hM : M (10, 0, 0) = some (s, .inr (6, [.null, .null, .null, .null, .int 0, .int 0, .int 0, .int 0, .int 0, .int 0, .int 0, .int 0, .int 0, .null, .null, .int 0, .null, .int 0, .null, .null, .null, .int 0, .int 0, .int 0, .int 0, .int 0, .int 0]))) (h11 : ∀ j, M (11, j, 0) = none) (hQ : ∀ M' Λ, Λ (10, 0, 0) = s → RM G Λ M m0 M' → Q none M') : MS G yX9_init cX9_init 1 none (d + 3) 10 10641 [.ref s] M Q QX := by
  refine MS.of (by decide) (by simp [Value.category]) (Nat.le_of_ble_eq_true rfl) ?_
  show AW _ (_, _, _, _, _, _, _, _, _) _ _ _ _ [some _] _ _
  have hI : MI G [] M M := ⟨fun j hj => absurd hj (Nat.not_lt_zero j), fun j _ => h11 j, fun _ _ _ => rfl⟩
  refine r_aload_n (q := 1) dX9_init_0 rfl rfl ?_
  refine r_objInit (q := 4) oi_X9 dX9_init_1 rfl (Nat.le_of_ble_eq_true rfl) ?_
  refine r_aload_n (q := 5) dX9_init_4 rfl rfl ?_
  refine r_sipush (v := nI 640) (q := 8) dX9_init_5 (by decide) rfl ?_
  refine r_newa (k := 9) (n := 10001) (q := 10) (t := 0) (i1 := 151) (atype := .int) (ty := .int) (N := 640) (a0 := (640, .inl fun _ => 0)) (11, 0, 0) (hI.2.1 0 (Nat.le_of_ble_eq_true rfl)) rfl (fun _ h => by cases h) rfl aC_int (fun _ => rfl) (nI_pos (by decide)) (nI_clamp (by decide)) (by decide) dX9_init_8 rfl fun a0 => ?_
  have hI := hI.new (a := a0) (z := 640) rfl
  refine r_put' (q := 13) (kk := 0) (ty0 := tyX9) ((if_neg (by simp)).trans hM) rfl wi_RX9 tyX9_ok nmX9 (by decide) (Or.inr ⟨rfl, rfl⟩) rfl fk_X9_7 rfl rfl (Nat.le_of_ble_eq_true rfl) dX9_init_10 rfl fun M10 hS10 hO => ?_
  replace hS10 : M10 (10, 0, 0) = some (s, .inr (6, [.ref a0, .null, .null, .null, .int 0, .int 0, .int 0, .int 0, .int 0, .int 0, .int 0, .int 0, .int 0, .null, .null, .int 0, .null, .int 0, .null, .null, .null, .int 0, .int 0, .int 0, .int 0, .int 0, .int 0])) := hS10
  have hI := hI.put hO
  refine r_aload_n (q := 14) dX9_init_13 rfl rfl ?_
  refine r_sipush (v := nI 640) (q := 17) dX9_init_14 (by decide) rfl ?_
  refine r_newa (k := 8) (n := 9361) (q := 19) (t := 0) (i1 := 151) (atype := .int) (ty := .int) (N := 640) (a0 := (640, .inl fun _ => 0)) (11, 1, 0) (hI.2.1 1 (Nat.le_of_ble_eq_true rfl)) rfl (fun _ h => by cases h) rfl aC_int (fun _ => rfl) (nI_pos (by decide)) (nI_clamp (by decide)) (by decide) dX9_init_17 rfl fun a1 => ?_
  have hI := hI.new (a := a1) (z := 640) rfl
  refine r_put' (q := 22) (kk := 1) (ty0 := tyX9) ((if_neg (by simp)).trans hS10) rfl wi_RX9 tyX9_ok nmX9 (by decide) (Or.inr ⟨rfl, rfl⟩) rfl fk_X9_13 rfl rfl (Nat.le_of_ble_eq_true rfl) dX9_init_19 rfl fun M19 hS19 hO => ?_
  replace hS19 : M19 (10, 0, 0) = some (s, .inr (6, [.ref a0, .ref a1, .null, .null, .int 0, .int 0, .int 0, .int 0, .int 0, .int 0, .int 0, .int 0, .int 0, .null, .null, .int 0, .null, .int 0, .null, .null, .null, .int 0, .int 0, .int 0, .int 0, .int 0, .int 0])) := hS19
  have hI := hI.put hO
  refine r_aload_n (q := 23) dX9_init_22 rfl rfl ?_
  refine r_sipush (v := nI 640) (q := 26) dX9_init_23 (by decide) rfl ?_
  refine r_newa (k := 7) (n := 8721) (q := 28) (t := 0) (i1 := 151) (atype := .int) (ty := .int) (N := 640) (a0 := (640, .inl fun _ => 0)) (11, 2, 0) (hI.2.1 2 (Nat.le_of_ble_eq_true rfl)) rfl (fun _ h => by cases h) rfl aC_int (fun _ => rfl) (nI_pos (by decide)) (nI_clamp (by decide)) (by decide) dX9_init_26 rfl fun a2 => ?_
  have hI := hI.new (a := a2) (z := 640) rfl
  refine r_put' (q := 31) (kk := 2) (ty0 := tyX9) ((if_neg (by simp)).trans hS19) rfl wi_RX9 tyX9_ok nmX9 (by decide) (Or.inr ⟨rfl, rfl⟩) rfl fk_X9_16 rfl rfl (Nat.le_of_ble_eq_true rfl) dX9_init_28 rfl fun M28 hS28 hO => ?_
  replace hS28 : M28 (10, 0, 0) = some (s, .inr (6, [.ref a0, .ref a1, .ref a2, .null, .int 0, .int 0, .int 0, .int 0, .int 0, .int 0, .int 0, .int 0, .int 0, .null, .null, .int 0, .null, .int 0, .null, .null, .null, .int 0, .int 0, .int 0, .int 0, .int 0, .int 0])) := hS28
  have hI := hI.put hO
  refine r_aload_n (q := 32) dX9_init_31 rfl rfl ?_
  refine r_sipush (v := nI 5120) (q := 35) dX9_init_32 (by decide) rfl ?_
  refine r_newa (k := 6) (n := 3601) (q := 37) (t := 0) (i1 := 151) (atype := .int) (ty := .int) (N := 5120) (a0 := (5120, .inl fun _ => 0)) (11, 3, 0) (hI.2.1 3 (Nat.le_of_ble_eq_true rfl)) rfl (fun _ h => by cases h) rfl aC_int (fun _ => rfl) (nI_pos (by decide)) (nI_clamp (by decide)) (by decide) dX9_init_35 rfl fun a3 => ?_
  have hI := hI.new (a := a3) (z := 5120) rfl
  refine r_put' (q := 40) (kk := 3) (ty0 := tyX9) ((if_neg (by simp)).trans hS28) rfl wi_RX9 tyX9_ok nmX9 (by decide) (Or.inr ⟨rfl, rfl⟩) rfl fk_X9_19 rfl rfl (Nat.le_of_ble_eq_true rfl) dX9_init_37 rfl fun M37 hS37 hO => ?_
  replace hS37 : M37 (10, 0, 0) = some (s, .inr (6, [.ref a0, .ref a1, .ref a2, .ref a3, .int 0, .int 0, .int 0, .int 0, .int 0, .int 0, .int 0, .int 0, .int 0, .null, .null, .int 0, .null, .int 0, .null, .null, .null, .int 0, .int 0, .int 0, .int 0, .int 0, .int 0])) := hS37
  have hI := hI.put hO
  refine r_aload_n (q := 41) dX9_init_40 rfl rfl ?_
  refine r_iconst (v := nI 0) (q := 42) dX9_init_41 (by decide) rfl ?_
  refine r_put' (q := 45) (kk := 4) (ty0 := tyX9) hS37 rfl wi_RX9 tyX9_ok nmX9 (by decide) (Or.inl rfl) rfl fk_X9_22 rfl rfl (Nat.le_of_ble_eq_true rfl) dX9_init_42 rfl fun M42 hS42 hO => ?_
  replace hS42 : M42 (10, 0, 0) = some (s, .inr (6, [.ref a0, .ref a1, .ref a2, .ref a3, .int (nI 0), .int 0, .int 0, .int 0, .int 0, .int 0, .int 0, .int 0, .int 0, .null, .null, .int 0, .null, .int 0, .null, .null, .null, .int 0, .int 0, .int 0, .int 0, .int 0, .int 0])) := hS42
  have hI := hI.put hO
  refine r_aload_n (q := 46) dX9_init_45 rfl rfl ?_
  refine r_iconst (v := nI 0) (q := 47) dX9_init_46 (by decide) rfl ?_
  refine r_put' (q := 50) (kk := 5) (ty0 := tyX9) hS42 rfl wi_RX9 tyX9_ok nmX9 (by decide) (Or.inl rfl) rfl fk_X9_26 rfl rfl (Nat.le_of_ble_eq_true rfl) dX9_init_47 rfl fun M47 hS47 hO => ?_
  replace hS47 : M47 (10, 0, 0) = some (s, .inr (6, [.ref a0, .ref a1, .ref a2, .ref a3, .int (nI 0), .int (nI 0), .int 0, .int 0, .int 0, .int 0, .int 0, .int 0, .int 0, .null, .null, .int 0, .null, .int 0, .null, .null, .null, .int 0, .int 0, .int 0, .int 0, .int 0, .int 0])) := hS47
  have hI := hI.put hO
  refine r_aload_n (q := 51) dX9_init_50 rfl rfl ?_
  refine r_iconst (v := nI 0) (q := 52) dX9_init_51 (by decide) rfl ?_
  refine r_put' (q := 55) (kk := 6) (ty0 := tyX9) hS47 rfl wi_RX9 tyX9_ok nmX9 (by decide) (Or.inl rfl) rfl fk_X9_29 rfl rfl (Nat.le_of_ble_eq_true rfl) dX9_init_52 rfl fun M52 hS52 hO => ?_
  replace hS52 : M52 (10, 0, 0) = some (s, .inr (6, [.ref a0, .ref a1, .ref a2, .ref a3, .int (nI 0), .int (nI 0), .int (nI 0), .int 0, .int 0, .int 0, .int 0, .int 0, .int 0, .null, .null, .int 0, .null, .int 0, .null, .null, .null, .int 0, .int 0, .int 0, .int 0, .int 0, .int 0])) := hS52
  have hI := hI.put hO
  refine r_aload_n (q := 56) dX9_init_55 rfl rfl ?_
  refine r_iconst (v := nI 0) (q := 57) dX9_init_56 (by decide) rfl ?_
  refine r_put' (q := 60) (kk := 7) (ty0 := tyX9) hS52 rfl wi_RX9 tyX9_ok nmX9 (by decide) (Or.inl rfl) rfl fk_X9_32 rfl rfl (Nat.le_of_ble_eq_true rfl) dX9_init_57 rfl fun M57 hS57 hO => ?_
  replace hS57 : M57 (10, 0, 0) = some (s, .inr (6, [.ref a0, .ref a1, .ref a2, .ref a3, .int (nI 0), .int (nI 0), .int (nI 0), .int (nI 0), .int 0, .int 0, .int 0, .int 0, .int 0, .null, .null, .int 0, .null, .int 0, .null, .null, .null, .int 0, .int 0, .int 0, .int 0, .int 0, .int 0])) := hS57
  have hI := hI.put hO
  refine r_aload_n (q := 61) dX9_init_60 rfl rfl ?_
  refine r_iconst (v := nI 0) (q := 62) dX9_init_61 (by decide) rfl ?_
  refine r_put' (q := 65) (kk := 8) (ty0 := tyX9) hS57 rfl wi_RX9 tyX9_ok nmX9 (by decide) (Or.inl rfl) rfl fk_X9_35 rfl rfl (Nat.le_of_ble_eq_true rfl) dX9_init_62 rfl fun M62 hS62 hO => ?_
  replace hS62 : M62 (10, 0, 0) = some (s, .inr (6, [.ref a0, .ref a1, .ref a2, .ref a3, .int (nI 0), .int (nI 0), .int (nI 0), .int (nI 0), .int (nI 0), .int 0, .int 0, .int 0, .int 0, .null, .null, .int 0, .null, .int 0, .null, .null, .null, .int 0, .int 0, .int 0, .int 0, .int 0, .int 0])) := hS62
  have hI := hI.put hO
  refine r_aload_n (q := 66) dX9_init_65 rfl rfl ?_
  refine r_iconst (v := nI 0) (q := 67) dX9_init_66 (by decide) rfl ?_
  refine r_put' (q := 70) (kk := 9) (ty0 := tyX9) hS62 rfl wi_RX9 tyX9_ok nmX9 (by decide) (Or.inl rfl) rfl fk_X9_38 rfl rfl (Nat.le_of_ble_eq_true rfl) dX9_init_67 rfl fun M67 hS67 hO => ?_
  replace hS67 : M67 (10, 0, 0) = some (s, .inr (6, [.ref a0, .ref a1, .ref a2, .ref a3, .int (nI 0), .int (nI 0), .int (nI 0), .int (nI 0), .int (nI 0), .int (nI 0), .int 0, .int 0, .int 0, .null, .null, .int 0, .null, .int 0, .null, .null, .null, .int 0, .int 0, .int 0, .int 0, .int 0, .int 0])) := hS67
  have hI := hI.put hO
  refine r_aload_n (q := 71) dX9_init_70 rfl rfl ?_
  refine r_iconst (v := (-1)) (q := 72) dX9_init_71 (by decide) rfl ?_
  refine r_put' (q := 75) (kk := 10) (ty0 := tyX9) hS67 rfl wi_RX9 tyX9_ok nmX9 (by decide) (Or.inl rfl) rfl fk_X9_41 rfl rfl (Nat.le_of_ble_eq_true rfl) dX9_init_72 rfl fun M72 hS72 hO => ?_
  replace hS72 : M72 (10, 0, 0) = some (s, .inr (6, [.ref a0, .ref a1, .ref a2, .ref a3, .int (nI 0), .int (nI 0), .int (nI 0), .int (nI 0), .int (nI 0), .int (nI 0), .int (-1), .int 0, .int 0, .null, .null, .int 0, .null, .int 0, .null, .null, .null, .int 0, .int 0, .int 0, .int 0, .int 0, .int 0])) := hS72
  have hI := hI.put hO
  refine r_aload_n (q := 76) dX9_init_75 rfl rfl ?_
  refine r_iconst (v := (-1)) (q := 77) dX9_init_76 (by decide) rfl ?_
  refine r_put' (q := 80) (kk := 11) (ty0 := tyX9) hS72 rfl wi_RX9 tyX9_ok nmX9 (by decide) (Or.inl rfl) rfl fk_X9_44 rfl rfl (Nat.le_of_ble_eq_true rfl) dX9_init_77 rfl fun M77 hS77 hO => ?_
  replace hS77 : M77 (10, 0, 0) = some (s, .inr (6, [.ref a0, .ref a1, .ref a2, .ref a3, .int (nI 0), .int (nI 0), .int (nI 0), .int (nI 0), .int (nI 0), .int (nI 0), .int (-1), .int (-1), .int 0, .null, .null, .int 0, .null, .int 0, .null, .null, .null, .int 0, .int 0, .int 0, .int 0, .int 0, .int 0])) := hS77
  have hI := hI.put hO
  refine r_aload_n (q := 81) dX9_init_80 rfl rfl ?_
  refine r_iconst (v := nI 0) (q := 82) dX9_init_81 (by decide) rfl ?_
  refine r_put' (q := 85) (kk := 12) (ty0 := tyX9) hS77 rfl wi_RX9 tyX9_ok nmX9 (by decide) (Or.inl rfl) rfl fk_X9_47 rfl rfl (Nat.le_of_ble_eq_true rfl) dX9_init_82 rfl fun M82 hS82 hO => ?_
  replace hS82 : M82 (10, 0, 0) = some (s, .inr (6, [.ref a0, .ref a1, .ref a2, .ref a3, .int (nI 0), .int (nI 0), .int (nI 0), .int (nI 0), .int (nI 0), .int (nI 0), .int (-1), .int (-1), .int (nI 0), .null, .null, .int 0, .null, .int 0, .null, .null, .null, .int 0, .int 0, .int 0, .int 0, .int 0, .int 0])) := hS82
  have hI := hI.put hO
  refine r_aload_n (q := 86) dX9_init_85 rfl rfl ?_
  refine r_sipush (v := nI 1100) (q := 89) dX9_init_86 (by decide) rfl ?_
  refine r_newa (k := 5) (n := 2501) (q := 91) (t := 0) (i1 := 151) (atype := .int) (ty := .int) (N := 1100) (a0 := (1100, .inl fun _ => 0)) (11, 4, 0) (hI.2.1 4 (Nat.le_of_ble_eq_true rfl)) rfl (fun _ h => by cases h) rfl aC_int (fun _ => rfl) (nI_pos (by decide)) (nI_clamp (by decide)) (by decide) dX9_init_89 rfl fun a4 => ?_
  have hI := hI.new (a := a4) (z := 1100) rfl
  refine r_put' (q := 94) (kk := 13) (ty0 := tyX9) ((if_neg (by simp)).trans hS82) rfl wi_RX9 tyX9_ok nmX9 (by decide) (Or.inr ⟨rfl, rfl⟩) rfl fk_X9_51 rfl rfl (Nat.le_of_ble_eq_true rfl) dX9_init_91 rfl fun M91 hS91 hO => ?_
  replace hS91 : M91 (10, 0, 0) = some (s, .inr (6, [.ref a0, .ref a1, .ref a2, .ref a3, .int (nI 0), .int (nI 0), .int (nI 0), .int (nI 0), .int (nI 0), .int (nI 0), .int (-1), .int (-1), .int (nI 0), .ref a4, .null, .int 0, .null, .int 0, .null, .null, .null, .int 0, .int 0, .int 0, .int 0, .int 0, .int 0])) := hS91
  have hI := hI.put hO
  refine r_aload_n (q := 95) dX9_init_94 rfl rfl ?_
  refine r_sipush (v := nI 1101) (q := 98) dX9_init_95 (by decide) rfl ?_
  refine r_newa (k := 4) (n := 1400) (q := 100) (t := 0) (i1 := 151) (atype := .int) (ty := .int) (N := 1101) (a0 := (1101, .inl fun _ => 0)) (11, 5, 0) (hI.2.1 5 (Nat.le_of_ble_eq_true rfl)) rfl (fun _ h => by cases h) rfl aC_int (fun _ => rfl) (nI_pos (by decide)) (nI_clamp (by decide)) (by decide) dX9_init_98 rfl fun a5 => ?_
  have hI := hI.new (a := a5) (z := 1101) rfl
  refine r_put' (q := 103) (kk := 14) (ty0 := tyX9) ((if_neg (by simp)).trans hS91) rfl wi_RX9 tyX9_ok nmX9 (by decide) (Or.inr ⟨rfl, rfl⟩) rfl fk_X9_54 rfl rfl (Nat.le_of_ble_eq_true rfl) dX9_init_100 rfl fun M100 hS100 hO => ?_
  replace hS100 : M100 (10, 0, 0) = some (s, .inr (6, [.ref a0, .ref a1, .ref a2, .ref a3, .int (nI 0), .int (nI 0), .int (nI 0), .int (nI 0), .int (nI 0), .int (nI 0), .int (-1), .int (-1), .int (nI 0), .ref a4, .ref a5, .int 0, .null, .int 0, .null, .null, .null, .int 0, .int 0, .int 0, .int 0, .int 0, .int 0])) := hS100
  have hI := hI.put hO
  refine r_aload_n (q := 104) dX9_init_103 rfl rfl ?_
  refine r_iconst (v := nI 0) (q := 105) dX9_init_104 (by decide) rfl ?_
  refine r_put' (q := 108) (kk := 15) (ty0 := tyX9) hS100 rfl wi_RX9 tyX9_ok nmX9 (by decide) (Or.inl rfl) rfl fk_X9_57 rfl rfl (Nat.le_of_ble_eq_true rfl) dX9_init_105 rfl fun M105 hS105 hO => ?_
  replace hS105 : M105 (10, 0, 0) = some (s, .inr (6, [.ref a0, .ref a1, .ref a2, .ref a3, .int (nI 0), .int (nI 0), .int (nI 0), .int (nI 0), .int (nI 0), .int (nI 0), .int (-1), .int (-1), .int (nI 0), .ref a4, .ref a5, .int (nI 0), .null, .int 0, .null, .null, .null, .int 0, .int 0, .int 0, .int 0, .int 0, .int 0])) := hS105
  have hI := hI.put hO
  refine r_aload_n (q := 109) dX9_init_108 rfl rfl ?_
  refine r_sipush (v := nI 1100) (q := 112) dX9_init_109 (by decide) rfl ?_
  refine r_newa (k := 3) (n := 300) (q := 114) (t := 0) (i1 := 151) (atype := .int) (ty := .int) (N := 1100) (a0 := (1100, .inl fun _ => 0)) (11, 6, 0) (hI.2.1 6 (Nat.le_of_ble_eq_true rfl)) rfl (fun _ h => by cases h) rfl aC_int (fun _ => rfl) (nI_pos (by decide)) (nI_clamp (by decide)) (by decide) dX9_init_112 rfl fun a6 => ?_
  have hI := hI.new (a := a6) (z := 1100) rfl
  refine r_put' (q := 117) (kk := 16) (ty0 := tyX9) ((if_neg (by simp)).trans hS105) rfl wi_RX9 tyX9_ok nmX9 (by decide) (Or.inr ⟨rfl, rfl⟩) rfl fk_X9_60 rfl rfl (Nat.le_of_ble_eq_true rfl) dX9_init_114 rfl fun M114 hS114 hO => ?_
  replace hS114 : M114 (10, 0, 0) = some (s, .inr (6, [.ref a0, .ref a1, .ref a2, .ref a3, .int (nI 0), .int (nI 0), .int (nI 0), .int (nI 0), .int (nI 0), .int (nI 0), .int (-1), .int (-1), .int (nI 0), .ref a4, .ref a5, .int (nI 0), .ref a6, .int 0, .null, .null, .null, .int 0, .int 0, .int 0, .int 0, .int 0, .int 0])) := hS114
  have hI := hI.put hO
  refine r_aload_n (q := 118) dX9_init_117 rfl rfl ?_
  refine r_iconst (v := nI 0) (q := 119) dX9_init_118 (by decide) rfl ?_
  refine r_put' (q := 122) (kk := 17) (ty0 := tyX9) hS114 rfl wi_RX9 tyX9_ok nmX9 (by decide) (Or.inl rfl) rfl fk_X9_63 rfl rfl (Nat.le_of_ble_eq_true rfl) dX9_init_119 rfl fun M119 hS119 hO => ?_
  replace hS119 : M119 (10, 0, 0) = some (s, .inr (6, [.ref a0, .ref a1, .ref a2, .ref a3, .int (nI 0), .int (nI 0), .int (nI 0), .int (nI 0), .int (nI 0), .int (nI 0), .int (-1), .int (-1), .int (nI 0), .ref a4, .ref a5, .int (nI 0), .ref a6, .int (nI 0), .null, .null, .null, .int 0, .int 0, .int 0, .int 0, .int 0, .int 0])) := hS119
  have hI := hI.put hO
  refine r_aload_n (q := 123) dX9_init_122 rfl rfl ?_
  refine r_bipush (v := nI 60) (q := 125) dX9_init_123 (by decide) rfl ?_
  refine r_newa (k := 2) (n := 240) (q := 127) (t := 0) (i1 := 151) (atype := .int) (ty := .int) (N := 60) (a0 := (60, .inl fun _ => 0)) (11, 7, 0) (hI.2.1 7 (Nat.le_of_ble_eq_true rfl)) rfl (fun _ h => by cases h) rfl aC_int (fun _ => rfl) (nI_pos (by decide)) (nI_clamp (by decide)) (by decide) dX9_init_125 rfl fun a7 => ?_
  have hI := hI.new (a := a7) (z := 60) rfl
  refine r_put' (q := 130) (kk := 18) (ty0 := tyX9) ((if_neg (by simp)).trans hS119) rfl wi_RX9 tyX9_ok nmX9 (by decide) (Or.inr ⟨rfl, rfl⟩) rfl fk_X9_66 rfl rfl (Nat.le_of_ble_eq_true rfl) dX9_init_127 rfl fun M127 hS127 hO => ?_
  replace hS127 : M127 (10, 0, 0) = some (s, .inr (6, [.ref a0, .ref a1, .ref a2, .ref a3, .int (nI 0), .int (nI 0), .int (nI 0), .int (nI 0), .int (nI 0), .int (nI 0), .int (-1), .int (-1), .int (nI 0), .ref a4, .ref a5, .int (nI 0), .ref a6, .int (nI 0), .ref a7, .null, .null, .int 0, .int 0, .int 0, .int 0, .int 0, .int 0])) := hS127
  have hI := hI.put hO
  refine r_aload_n (q := 131) dX9_init_130 rfl rfl ?_
  refine r_bipush (v := nI 60) (q := 133) dX9_init_131 (by decide) rfl ?_
  refine r_newa (k := 1) (n := 180) (q := 135) (t := 0) (i1 := 151) (atype := .int) (ty := .int) (N := 60) (a0 := (60, .inl fun _ => 0)) (11, 8, 0) (hI.2.1 8 (Nat.le_of_ble_eq_true rfl)) rfl (fun _ h => by cases h) rfl aC_int (fun _ => rfl) (nI_pos (by decide)) (nI_clamp (by decide)) (by decide) dX9_init_133 rfl fun a8 => ?_
  have hI := hI.new (a := a8) (z := 60) rfl
  refine r_put' (q := 138) (kk := 19) (ty0 := tyX9) ((if_neg (by simp)).trans hS127) rfl wi_RX9 tyX9_ok nmX9 (by decide) (Or.inr ⟨rfl, rfl⟩) rfl fk_X9_69 rfl rfl (Nat.le_of_ble_eq_true rfl) dX9_init_135 rfl fun M135 hS135 hO => ?_
  replace hS135 : M135 (10, 0, 0) = some (s, .inr (6, [.ref a0, .ref a1, .ref a2, .ref a3, .int (nI 0), .int (nI 0), .int (nI 0), .int (nI 0), .int (nI 0), .int (nI 0), .int (-1), .int (-1), .int (nI 0), .ref a4, .ref a5, .int (nI 0), .ref a6, .int (nI 0), .ref a7, .ref a8, .null, .int 0, .int 0, .int 0, .int 0, .int 0, .int 0])) := hS135
  have hI := hI.put hO
  refine r_aload_n (q := 139) dX9_init_138 rfl rfl ?_
  refine r_sipush (v := nI 180) (q := 142) dX9_init_139 (by decide) rfl ?_
  refine r_newa (k := 0) (n := 0) (q := 144) (t := 0) (i1 := 151) (atype := .int) (ty := .int) (N := 180) (a0 := (180, .inl fun _ => 0)) (11, 9, 0) (hI.2.1 9 (Nat.le_of_ble_eq_true rfl)) rfl (fun _ h => by cases h) rfl aC_int (fun _ => rfl) (nI_pos (by decide)) (nI_clamp (by decide)) (by decide) dX9_init_142 rfl fun a9 => ?_
  have hI := hI.new (a := a9) (z := 180) rfl
  refine r_put' (q := 147) (kk := 20) (ty0 := tyX9) ((if_neg (by simp)).trans hS135) rfl wi_RX9 tyX9_ok nmX9 (by decide) (Or.inr ⟨rfl, rfl⟩) rfl fk_X9_72 rfl rfl (Nat.le_of_ble_eq_true rfl) dX9_init_144 rfl fun M144 hS144 hO => ?_
  replace hS144 : M144 (10, 0, 0) = some (s, .inr (6, [.ref a0, .ref a1, .ref a2, .ref a3, .int (nI 0), .int (nI 0), .int (nI 0), .int (nI 0), .int (nI 0), .int (nI 0), .int (-1), .int (-1), .int (nI 0), .ref a4, .ref a5, .int (nI 0), .ref a6, .int (nI 0), .ref a7, .ref a8, .ref a9, .int 0, .int 0, .int 0, .int 0, .int 0, .int 0])) := hS144
  have hI := hI.put hO
  refine r_aload_n (q := 148) dX9_init_147 rfl rfl ?_
  refine r_iconst (v := nI 0) (q := 149) dX9_init_148 (by decide) rfl ?_
  refine r_put' (q := 152) (kk := 21) (ty0 := tyX9) hS144 rfl wi_RX9 tyX9_ok nmX9 (by decide) (Or.inl rfl) rfl fk_X9_75 rfl rfl (Nat.le_of_ble_eq_true rfl) dX9_init_149 rfl fun M149 hS149 hO => ?_
  replace hS149 : M149 (10, 0, 0) = some (s, .inr (6, [.ref a0, .ref a1, .ref a2, .ref a3, .int (nI 0), .int (nI 0), .int (nI 0), .int (nI 0), .int (nI 0), .int (nI 0), .int (-1), .int (-1), .int (nI 0), .ref a4, .ref a5, .int (nI 0), .ref a6, .int (nI 0), .ref a7, .ref a8, .ref a9, .int (nI 0), .int 0, .int 0, .int 0, .int 0, .int 0])) := hS149
  have hI := hI.put hO
  refine r_aload_n (q := 153) dX9_init_152 rfl rfl ?_
  refine r_iconst (v := nI 0) (q := 154) dX9_init_153 (by decide) rfl ?_
  refine r_put' (q := 157) (kk := 22) (ty0 := tyX9) hS149 rfl wi_RX9 tyX9_ok nmX9 (by decide) (Or.inl rfl) rfl fk_X9_78 rfl rfl (Nat.le_of_ble_eq_true rfl) dX9_init_154 rfl fun M154 hS154 hO => ?_
  replace hS154 : M154 (10, 0, 0) = some (s, .inr (6, [.ref a0, .ref a1, .ref a2, .ref a3, .int (nI 0), .int (nI 0), .int (nI 0), .int (nI 0), .int (nI 0), .int (nI 0), .int (-1), .int (-1), .int (nI 0), .ref a4, .ref a5, .int (nI 0), .ref a6, .int (nI 0), .ref a7, .ref a8, .ref a9, .int (nI 0), .int (nI 0), .int 0, .int 0, .int 0, .int 0])) := hS154
  have hI := hI.put hO
  refine r_aload_n (q := 158) dX9_init_157 rfl rfl ?_
  refine r_iconst (v := nI 0) (q := 159) dX9_init_158 (by decide) rfl ?_
  refine r_put' (q := 162) (kk := 23) (ty0 := tyX9) hS154 rfl wi_RX9 tyX9_ok nmX9 (by decide) (Or.inl rfl) rfl fk_X9_81 rfl rfl (Nat.le_of_ble_eq_true rfl) dX9_init_159 rfl fun M159 hS159 hO => ?_
  replace hS159 : M159 (10, 0, 0) = some (s, .inr (6, [.ref a0, .ref a1, .ref a2, .ref a3, .int (nI 0), .int (nI 0), .int (nI 0), .int (nI 0), .int (nI 0), .int (nI 0), .int (-1), .int (-1), .int (nI 0), .ref a4, .ref a5, .int (nI 0), .ref a6, .int (nI 0), .ref a7, .ref a8, .ref a9, .int (nI 0), .int (nI 0), .int (nI 0), .int 0, .int 0, .int 0])) := hS159
  have hI := hI.put hO
  refine r_aload_n (q := 163) dX9_init_162 rfl rfl ?_
  refine r_iconst (v := nI 0) (q := 164) dX9_init_163 (by decide) rfl ?_
  refine r_put' (q := 167) (kk := 24) (ty0 := tyX9) hS159 rfl wi_RX9 tyX9_ok nmX9 (by decide) (Or.inl rfl) rfl fk_X9_84 rfl rfl (Nat.le_of_ble_eq_true rfl) dX9_init_164 rfl fun M164 hS164 hO => ?_
  replace hS164 : M164 (10, 0, 0) = some (s, .inr (6, [.ref a0, .ref a1, .ref a2, .ref a3, .int (nI 0), .int (nI 0), .int (nI 0), .int (nI 0), .int (nI 0), .int (nI 0), .int (-1), .int (-1), .int (nI 0), .ref a4, .ref a5, .int (nI 0), .ref a6, .int (nI 0), .ref a7, .ref a8, .ref a9, .int (nI 0), .int (nI 0), .int (nI 0), .int (nI 0), .int 0, .int 0])) := hS164
  have hI := hI.put hO
  refine r_aload_n (q := 168) dX9_init_167 rfl rfl ?_
  refine r_iconst (v := nI 0) (q := 169) dX9_init_168 (by decide) rfl ?_
  refine r_put' (q := 172) (kk := 25) (ty0 := tyX9) hS164 rfl wi_RX9 tyX9_ok nmX9 (by decide) (Or.inl rfl) rfl fk_X9_87 rfl rfl (Nat.le_of_ble_eq_true rfl) dX9_init_169 rfl fun M169 hS169 hO => ?_
  replace hS169 : M169 (10, 0, 0) = some (s, .inr (6, [.ref a0, .ref a1, .ref a2, .ref a3, .int (nI 0), .int (nI 0), .int (nI 0), .int (nI 0), .int (nI 0), .int (nI 0), .int (-1), .int (-1), .int (nI 0), .ref a4, .ref a5, .int (nI 0), .ref a6, .int (nI 0), .ref a7, .ref a8, .ref a9, .int (nI 0), .int (nI 0), .int (nI 0), .int (nI 0), .int (nI 0), .int 0])) := hS169
  have hI := hI.put hO
  refine r_aload_n (q := 173) dX9_init_172 rfl rfl ?_
  refine r_iconst (v := nI 0) (q := 174) dX9_init_173 (by decide) rfl ?_
  refine r_put' (q := 177) (kk := 26) (ty0 := tyX9) hS169 rfl wi_RX9 tyX9_ok nmX9 (by decide) (Or.inl rfl) rfl fk_X9_90 rfl rfl (Nat.le_of_ble_eq_true rfl) dX9_init_174 rfl fun M174 hS174 hO => ?_
  replace hS174 : M174 (10, 0, 0) = some (s, .inr (6, [.ref a0, .ref a1, .ref a2, .ref a3, .int (nI 0), .int (nI 0), .int (nI 0), .int (nI 0), .int (nI 0), .int (nI 0), .int (-1), .int (-1), .int (nI 0), .ref a4, .ref a5, .int (nI 0), .ref a6, .int (nI 0), .ref a7, .ref a8, .ref a9, .int (nI 0), .int (nI 0), .int (nI 0), .int (nI 0), .int (nI 0), .int (nI 0)])) := hS174
  have hI := hI.put hO
  refine r_aload_n (q := 178) dX9_init_177 rfl rfl ?_
  have hR : RM G (fun o => if o.1 = 10 then s else [a0, a1, a2, a3, a4, a5, a6, a7, a8, a9].getD o.2.1 0) M (sA m1 0 fun _ => 0) M174 := by
    refine ⟨hS174, fun i hi => ⟨fun j _ => ?_, fun _ => 0, hI.1 i hi, fun j _ => ?_⟩, hI.2.2⟩
    · show (if i = 0 then fun _ => 0 else fun _ => 0) j < 2 ^ 31
      split <;> exact (by decide : (0 : Nat) < 2 ^ 31)
    · show 0 = nI ((if i = 0 then fun _ => 0 else fun _ => 0) j)
      split <;> rfl
  refine r_cV (q := 181) (As := []) wc_X9_93 rfl im_X9_clears se_X9_clears hS174 rfl rfl (Nat.le_of_ble_eq_true rfl) (Nat.le_of_eq (Nat.zero_add _)) (Nat.le_of_eq (Nat.zero_add _)) dX9_init_178 rfl rfl (s_X9_clears hR fun M9 h9 => ?_)
  refine r_vret dX9_init_181 ?_
  exact hQ M9 _ rfl h9
end W92
