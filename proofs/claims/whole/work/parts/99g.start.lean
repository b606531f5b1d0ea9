/-! THE LAW: its start -/
section W99g
variable {G : En} {tb : List ExceptionTableEntry × String} {Λ Λ2 : Ob → Nat} {k0 n0 : Nat} {Z : List Frame → Array Value → State → State → Prop} {ρ M : Me} {σ : Sg} {μ : Mg}
theorem sS_0 {a : Nat} (ha : a < 11) : gS σ0 a = s0 := by
  refine Prod.ext (funext fun b => ?_) rfl
  exact if_pos ha
theorem jr_0 : JR 10 σ0 m0 := by
  have e0 := sS_0 (a := 0) (by decide)
  have eA : ∀ i, i ≠ 0 → ∀ j, gA m0 i j = 0 := fun i hi j => by rw [m0, gA_n hi]; rfl
  refine JR.mk (by rw [e0, m0, gA_s]; exact en_s0) (by rw [e0]; exact iv_s0) ⟨0, 0, by decide, by decide, rfl, rfl, rfl, fun i hi => absurd hi (Nat.not_lt_zero i)⟩ (Or.inl ⟨rfl, rfl⟩) ?_
  exact JT.mk rfl rfl rfl rfl rfl (fun j hj => absurd hj (Nat.not_lt_zero j)) (Nat.zero_le _) (fun x hx => absurd hx List.not_mem_nil) (Or.inl rfl) rfl (fun j hj => absurd hj (Nat.not_lt_zero j)) (Nat.zero_le _) (fun x hx => absurd hx List.not_mem_nil) ⟨0, rfl⟩ (fun j => by rw [eA 9 (by decide)]; decide)
theorem RX.cg (h : RX G Λ ρ σ M) (e : ∀ o : Ob, o.1 < 10 → Λ2 o = Λ o) : RX G Λ2 ρ σ M := by
  obtain ⟨h1, h2, h3, h4, ⟨f, h5, h5'⟩, h6, h7, h8, h9⟩ := h
  have e1 : ∀ a, Λ2 (1, a, 0) = Λ (1, a, 0) := fun a => e _ (by show (1 : Nat) < 10; decide)
  have e2 : ∀ a b, Λ2 (2, a, b) = Λ (2, a, b) := fun a b => e _ (by show (2 : Nat) < 10; decide)
  have e3 : ∀ a b, Λ2 (3, a, b) = Λ (3, a, b) := fun a b => e _ (by show (3 : Nat) < 10; decide)
  refine ⟨?_, fun a ha => ?_, fun a b hr => (h3 a b hr).cong (e2 a b) (e3 a b), ?_, ⟨f, ?_, fun j hj => ?_⟩, ?_, ?_, ?_, h9⟩
  · have : xF Λ2 σ = xF Λ σ := by rw [xF, xF, e1, e1, e1, e (4, 0, 0) (by decide), e (6, 0, 0) (by decide), e (7, 0, 0) (by decide), e (8, 0, 0) (by decide)]
    rw [this, e (0, 0, 0) (by decide)]; exact h1
  · have : sF Λ2 σ a = sF Λ σ a := by rw [sF, sF, e2, e2, e2, e2, e2, e2, e2, e2, e2, e2, e2, e2, e2]
    rw [this, e1]; exact h2 a ha
  · rw [e (4, 0, 0) (by decide), e (5, 0, 0) (by decide)]; exact h4
  · rw [e (5, 0, 0) (by decide)]; exact h5
  · rw [e1]; exact h5' j hj
  · rw [e (6, 0, 0) (by decide), e2, e2, e2, e2]; exact h6
  · rw [e (7, 0, 0) (by decide), e2, e2]; exact h7
  · obtain ⟨q, ml, f, a, b⟩ := h8
    exact ⟨q, ml, f, by rw [e (8, 0, 0) (by decide)]; exact a, b⟩
theorem RM.cg (h : RM G Λ ρ μ M) (e : ∀ o : Ob, o.1 = 10 ∨ o.1 = 11 → Λ2 o = Λ o) : RM G Λ2 ρ μ M := by
  obtain ⟨h1, h2, h3⟩ := h
  have e1 : ∀ i, Λ2 (11, i, 0) = Λ (11, i, 0) := fun i => e _ (Or.inr rfl)
  refine ⟨?_, fun i hi => ?_, h3⟩
  · have : mF Λ2 μ = mF Λ μ := by rw [mF, mF, e1, e1, e1, e1, e1, e1, e1, e1, e1, e1]
    rw [this, e (10, 0, 0) (Or.inl rfl)]; exact h1
  · obtain ⟨a, f, b, c⟩ := h2 i hi
    exact ⟨a, f, by rw [e1]; exact b, c⟩
/-- class and model, made one after the other -/
theorem hx_made {s x m : Nat} {Λ1 : Ob → Nat} {M0 M1 M2 M3 : Me} {e0 e1 : Nat × va_E} {ao ad : Nat} {g : Nat → Int64} {g2 : Nat → UInt64} (hX : RX G Λ1 (fun y => if y = (0, 0, 0) then some e0 else none) σ M1) (hM : RM G Λ2 (fun y => if y = (10, 0, 0) then some e1 else M1 y) μ M2) (h3 : M3 = fun y => if y = (12, 1, 0) then some (ad, .inl (G.2.2.1 2, 1, .inr (.inr (.inr (.inl g2))))) else if y = (12, 0, 0) then some (ao, .inl (G.2.2.1 1, 1, .inr (.inl g))) else M2 y) : HX G (fun o => if o.1 = 10 ∨ o.1 = 11 then Λ2 o else Λ1 o) ao ad σ μ M3 := by
  have k : ∀ o : Ob, o.1 ≠ 12 → M3 o = M2 o := fun o ho => by
    rw [h3]
    show (if o = (12, 1, 0) then _ else if o = (12, 0, 0) then _ else M2 o) = _
    rw [if_neg (fun e => ho (by rw [e])), if_neg (fun e => ho (by rw [e]))]
  have k2 : ∀ o : Ob, o.1 < 10 → M2 o = M1 o := fun o ho => (hM.2.2 o (by omega) (by omega)).trans (if_neg (fun e => by rw [e] at ho; exact absurd ho (by decide)))
  have hX2 := (hX.own.kept (M2 := M3) fun o ho => (k o (by omega)).trans (k2 o ho)).cg (Λ2 := fun o => if o.1 = 10 ∨ o.1 = 11 then Λ2 o else Λ1 o) fun o ho => if_neg (by omega)
  have hM2 := (hM.own.kept (M2 := M3) (k _ (by decide)) fun i => k _ (by show (11 : Nat) ≠ 12; decide)).cg (Λ2 := fun o => if o.1 = 10 ∨ o.1 = 11 then Λ2 o else Λ1 o) fun o ho => if_pos ho
  refine ⟨hX2, hM2, ⟨g, by rw [h3]; rfl⟩, ⟨g2, by rw [h3]; rfl⟩, ?_⟩
  rw [k _ (by decide), hM.2.2 _ (by decide) (by decide)]
  show (if _ then _ else _) = _
  rw [if_neg (by decide), hX.fr _ (by decide)]
  rfl
theorem vX8_ok : ∀ j, j < 12 → defaultValue (tyX8 j) = vp_V [.null, .null, .null, .int 0, .null, .null, .null, .null, .int 0, .int 0, .int 0, .int 0] j
  | 0, _ => rfl
  | 1, _ => rfl
  | 2, _ => rfl
  | 3, _ => rfl
  | 4, _ => rfl
  | 5, _ => rfl
  | 6, _ => rfl
  | 7, _ => rfl
  | 8, _ => rfl
  | 9, _ => rfl
  | 10, _ => rfl
  | 11, _ => rfl
  | j + 12, h => absurd h (by omega)
theorem vX9_ok : ∀ j, j < 27 → defaultValue (tyX9 j) = vp_V [.null, .null, .null, .null, .int 0, .int 0, .int 0, .int 0, .int 0, .int 0, .int 0, .int 0, .int 0, .null, .null, .int 0, .null, .int 0, .null, .null, .null, .int 0, .int 0, .int 0, .int 0, .int 0, .int 0] j
  | 0, _ => rfl
  | 1, _ => rfl
  | 2, _ => rfl
  | 3, _ => rfl
  | 4, _ => rfl
  | 5, _ => rfl
  | 6, _ => rfl
  | 7, _ => rfl
  | 8, _ => rfl
  | 9, _ => rfl
  | 10, _ => rfl
  | 11, _ => rfl
  | 12, _ => rfl
  | 13, _ => rfl
  | 14, _ => rfl
  | 15, _ => rfl
  | 16, _ => rfl
  | 17, _ => rfl
  | 18, _ => rfl
  | 19, _ => rfl
  | 20, _ => rfl
  | 21, _ => rfl
  | 22, _ => rfl
  | 23, _ => rfl
  | 24, _ => rfl
  | 25, _ => rfl
  | 26, _ => rfl
  | j + 27, h => absurd h (by omega)
theorem is_X8 : lw_tbl[125]? = some (.instantiable RX8 12) := by decide +kernel
theorem is_X9 : lw_tbl[1607]? = some (.instantiable RX9 27) := by decide +kernel
theorem ni_X8 : lw_tbl[91]? = some (.initialized RX8) := by decide +kernel
theorem ni_X9 : lw_tbl[102]? = some (.initialized RX9) := by decide +kernel
theorem aC_long : lw_tbl[2113]? = some (.arrayClass .long) := by decide +kernel
theorem aC_double : lw_tbl[2114]? = some (.arrayClass .double) := by decide +kernel
theorem law_start (hl : scL G ≤ 2048) (kend : ∀ Λ ao ad σ μ M i, HX G Λ ao ad σ μ M → AW G (XL tb k0 n0 Z) 15 0 0 2117 (lvl G Λ ao ad i) [] M) : AW G (XL tb k0 n0 Z) 15 603072 7194730 0 [some (.ref (scA G)), none, none, none, none, none, none, none, none] [] (fun _ => none) := by
  refine AW.less (k' := 602742 + 1) (n' := 7100000 + 12) (by decide) (by decide) ?_
  refine r_new (ci := 0) (q := 3) (0, 0, 0) rfl rfl wi_RX8 tyX8_ok kl_L_8 is_X8 ni_X8 vX8_ok dL_law_0 rfl fun x => ?_
  refine r_dup (q := 4) dL_law_3 rfl rfl ?_
  refine r_cI (q := 7) (As := []) (k' := 315) (n' := 6435) (k2 := 602427) (n2 := 7093565) wc_L_117 im_X8_init rfl rfl (Nat.le_of_ble_eq_true rfl) (by decide) (by decide) dL_law_4 rfl rfl (s_X8_init (d := 9) (if_pos rfl) (fun o h1 h9 => if_neg (fun e => by rw [e] at h1; exact absurd h1 (by decide))) fun M1 Λ1 eΛ1 hX => ?_)
  have hx : M1 (0, 0, 0) = some (x, .inr (0, xF Λ1 σ0)) := by rw [← eΛ1]; exact hX.1
  refine r_astore_n (q := 8) dL_law_7 (Nat.le_of_ble_eq_true rfl) rfl rfl ?_
  refine AW.less (k' := 602426 + 1) (n' := 7093538 + 27) (by decide) (by decide) ?_
  refine r_new (ci := 6) (q := 11) (10, 0, 0) ((hX.fr _ (by decide)).trans rfl) rfl wi_RX9 tyX9_ok kl_L_118 is_X9 ni_X9 vX9_ok dL_law_8 rfl fun m => ?_
  refine r_dup (q := 12) dL_law_11 rfl rfl ?_
  refine r_cI (q := 15) (As := []) (k' := 10) (n' := 10641) (k2 := 602416) (n2 := 7082897) wc_L_120 im_X9_init rfl rfl (Nat.le_of_ble_eq_true rfl) (by decide) (by decide) dL_law_12 rfl rfl (s_X9_init (d := 11) (if_pos rfl) (fun j => (if_neg (by simp)).trans ((hX.fr _ (by show (10 : Nat) ≤ 11; decide)).trans rfl)) fun M2 Λ2 eΛ2 hM => ?_)
  refine r_astore_n (q := 16) dL_law_15 (Nat.le_of_ble_eq_true rfl) rfl rfl ?_
  refine r_iconst (v := nI 1) (q := 17) dL_law_16 (by decide) rfl ?_
  have z0 : M2 (12, 0, 0) = none := (hM.2.2 _ (by decide) (by decide)).trans ((if_neg (by decide)).trans ((hX.fr _ (by decide)).trans rfl))
  have z1 : M2 (12, 1, 0) = none := (hM.2.2 _ (by decide) (by decide)).trans ((if_neg (by decide)).trans ((hX.fr _ (by decide)).trans rfl))
  refine AW.less (k' := 602415 + 1) (n' := 7082896 + 1) (by decide) (by decide) ?_
  refine r_newa (q := 19) (t := 1) (i1 := 2113) (atype := .long) (ty := .long) (N := 1) (z := nI 1) (a0 := (1, .inr (.inl fun _ => 0))) (12, 0, 0) z0 rfl (fun _ h => by cases h) rfl aC_long (fun _ => rfl) (nI_pos (by decide)) (nI_clamp (by decide)) (by decide) dL_law_17 rfl fun ao => ?_
  refine r_astore_n (q := 20) dL_law_19 (Nat.le_of_ble_eq_true rfl) rfl rfl ?_
  refine r_iconst (v := nI 1) (q := 21) dL_law_20 (by decide) rfl ?_
  refine AW.less (k' := 602414 + 1) (n' := 7082895 + 1) (by decide) (by decide) ?_
  refine r_newa (q := 23) (t := 2) (i1 := 2114) (atype := .double) (ty := .double) (N := 1) (z := nI 1) (a0 := (1, .inr (.inr (.inr (.inl fun _ => 0))))) (12, 1, 0) ((if_neg (by decide)).trans z1) rfl (fun _ h => by cases h) rfl aC_double (fun _ => rfl) (nI_pos (by decide)) (nI_clamp (by decide)) (by decide) dL_law_21 rfl fun ad => ?_
  refine r_astore (q := 25) dL_law_23 (Nat.le_of_ble_eq_true rfl) rfl rfl ?_
  refine r_iconst (v := nI 0) (q := 26) dL_law_25 (by decide) rfl ?_
  refine r_istore (q := 28) dL_law_26 (Nat.le_of_ble_eq_true rfl) rfl rfl ?_
  have hH := hx_made (s := 0) (x := x) (m := m) (M0 := M1) (ao := ao) (ad := ad) (g := fun _ => 0) (g2 := fun _ => 0) hX hM rfl
  have key := law_loop (K := 0) (N := 0) (d := 0) hl (fun σ μ M i h => kend _ _ _ σ μ M i h) (scL G) 0 10 σ0 m0 _ rfl (Nat.zero_le _) hH jr_0 (Nat.le_refl _) (Nat.le_refl _)
  refine AW.less (k' := 0 + 2 * (scL G - 0)) (n' := 0 + 600 * (scL G - 0)) (by omega) (by omega) ?_
  have el : lvl G (fun o => if o.1 = 10 ∨ o.1 = 11 then Λ2 o else Λ1 o) ao ad 0 = [some (.ref (scA G)), some (.ref x), some (.ref m), some (.ref ao), some (.ref ad), some (.int (nI 0)), none, none, none] := by
    rw [← eΛ1, ← eΛ2]; rfl
  rw [el] at key
  exact key
end W99g
