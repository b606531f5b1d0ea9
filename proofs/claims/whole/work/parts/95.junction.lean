/-! MADE ANEW: the class -/
section W95
variable {G : En} {Λ Λ2 : Ob → Nat} {ρ : Me} {M M1 M2 : Me} {d : Nat} {Q : Option Value → Me → Prop} {QX : String → Me → Prop} {a b : Nat} {S : St} {L : List Nat}
def gid (o : Ob) : Nat × Nat := if o.1 = 1 ∨ o.1 = 2 ∨ o.1 = 3 then (1, o.2.1) else (o.1, 0)
/-- only objects of these groups differ -/
def FX (L : List (Nat × Nat)) (M M' : Me) : Prop := ∀ o, gid o ∉ L → M' o = M o
theorem FX.tr {L1 L2 : List (Nat × Nat)} (h1 : FX L1 M M1) (h2 : FX L2 M1 M2) : FX (L1 ++ L2) M M2 := fun o ho =>
  (h2 o fun e => ho (List.mem_append_right _ e)).trans (h1 o fun e => ho (List.mem_append_left _ e))
theorem gid_0 : ∀ o : Ob, gid o ∉ ([(0, 0)] : List (Nat × Nat)) → o ≠ (0, 0, 0) := fun o h e => h (by rw [e]; decide)
theorem RW.cong (h : RW G Λ a b L M) (h2 : Λ2 (2, a, b) = Λ (2, a, b)) (h3 : Λ2 (3, a, b) = Λ (3, a, b)) : RW G Λ2 a b L M := by
  rw [RW, h2, h3]; exact h
theorem SB.cong (h : SB G Λ a S M) (h1 : Λ2 (1, a, 0) = Λ (1, a, 0)) (h2 : ∀ b, Λ2 (2, a, b) = Λ (2, a, b)) (h3 : ∀ b, Λ2 (3, a, b) = Λ (3, a, b)) : SB G Λ2 a S M := by
  refine ⟨?_, fun b hb => (h.2 b hb).cong (h2 b) (h3 b)⟩
  have e : sFS Λ2 a S = sFS Λ a S := by rw [sFS, sFS, h2, h2, h2, h2, h2, h2, h2, h2, h2, h2, h2, h2, h2]
  rw [h1, e]; exact h.1
theorem SB.fx {L : List (Nat × Nat)} (h : SB G Λ a S M) (hF : FX L M M2) (ha : (1, a) ∉ L) : SB G Λ a S M2 := h.kept fun o h1 h2 => hF o (by rw [gid, if_pos h1, h2]; exact ha)
theorem SA.fx {T : List (Nat × Nat)} {s : Nat} {e : Nat × va_E} (h : SA G (lmS s T) a (fun y => if y = (1, a, 0) then some e else M y) S M2) : FX [(1, a)] M M2 := fun o ho => by
  have n1 : o ≠ (1, a, 0) := fun e => ho (by rw [e]; exact List.mem_singleton.mpr rfl)
  refine (h.2.2 o n1 fun h1 h2 => ho ?_).trans (if_neg n1)
  rw [gid, if_pos (Or.inr h1), h2]; exact List.mem_singleton.mpr rfl
theorem put_fx (hO : ∀ x, x ≠ (0, 0, 0) → M2 x = M x) : FX [(0, 0)] M M2 := fun o ho => hO o (gid_0 o ho)
theorem RI.fx {O : Ob} {T : List (Nat × Nat)} {e : Nat × va_E} {k : Nat} (h : RI G O a T (fun y => if y = O then some e else M y) M2) (hO : O = (k, 0, 0)) (hk : k ≠ 1 ∧ k ≠ 2 ∧ k ≠ 3) : FX [(k, 0), (1, a)] M M2 := fun o ho => by
  have n1 : o ≠ O := fun e => ho (by rw [e, hO, gid, if_neg (by show ¬ (k = 1 ∨ k = 2 ∨ k = 3); omega)]; exact List.mem_cons_self ..)
  refine (h.2.2 o n1 fun h1 h2 => ho ?_).trans (if_neg n1)
  rw [gid, if_pos (Or.inr h1), h2]; exact List.mem_cons_of_mem _ (List.mem_singleton.mpr rfl)
def hGr : List (Nat × Nat) := [(4, 0), (5, 0), (1, 3), (1, 4), (1, 5), (1, 6), (1, 7), (1, 8), (1, 9), (1, 10)]
theorem HI.fx {LH : HL} {e : Nat × va_E} (h : HI G LH (fun y => if y = (4, 0, 0) then some e else M y) M2) : FX hGr M M2 := fun o ho => by
  have n4 : o ≠ (4, 0, 0) := fun e => ho (by rw [e]; decide)
  have n5 : o ≠ (5, 0, 0) := fun e => ho (by rw [e]; decide)
  refine (h.2.2 o n4 n5 fun h1 => ?_).trans (if_neg n4)
  rw [gid, if_pos h1] at ho
  apply Decidable.byContradiction
  intro g
  have hc : o.2.1 = 3 ∨ o.2.1 = 4 ∨ o.2.1 = 5 ∨ o.2.1 = 6 ∨ o.2.1 = 7 ∨ o.2.1 = 8 ∨ o.2.1 = 9 ∨ o.2.1 = 10 := by omega
  rcases hc with e | e | e | e | e | e | e | e <;> (rw [e] at ho; exact ho (by decide))
def g0M : Nat → Int32 := fun k => if k = 1 ∨ k = 2 then -1 else 0
def σ0 : Sg := (fun a b => if a < 11 then s0.1 b else [], fun _ _ => 0, g0M, [], 16)
/-- all addresses -/
def lmX (s sh qh si sp sb : Nat) (x0 x1 x2 : Nat × List (Nat × Nat)) (LH : HL) (LI LS : List (Nat × Nat)) : Ob → Nat := fun o => if o.1 = 0 then s else if o.1 = 4 then sh else if o.1 = 5 then qh else if o.1 = 6 then si else if o.1 = 7 then sp else if o.1 = 8 then sb else if o.2.1 = 0 then lmS x0.1 x0.2 o else if o.2.1 = 1 then lmS x1.1 x1.2 o else if o.2.1 = 2 then lmS x2.1 x2.2 o else if o.2.1 < 11 then hlS LH (o.2.1 - 3) o else if o.2.1 = 11 then lmS si LI o else lmS sp LS o
theorem rx_made {s sh qh si sp sb qb : Nat} {x0 x1 x2 : Nat × List (Nat × Nat)} {LH : HL} {LI LS : List (Nat × Nat)} {f : Nat → Option Nat} (hl : LH.length = 8) (hli : LI.length = 4) (hls : LS.length = 2)
    (h0 : M (0, 0, 0) = some (s, .inr (0, [.ref x0.1, .ref x1.1, .ref x2.1, .int (nI 0), .ref sh, .ref si, .ref sp, .ref sb, .int (-1), .int (-1), .int (nI 0), .int (nI 0)])))
    (hx0 : SB G (lmS x0.1 x0.2) 0 s0 M) (hx1 : SB G (lmS x1.1 x1.2) 1 s0 M) (hx2 : SB G (lmS x2.1 x2.2) 2 s0 M) (hh : ∀ j, j < 8 → SB G (hlS LH j) (3 + j) s0 M)
    (h4 : M (4, 0, 0) = some (sh, .inr (1, [.ref qh, .int (nI 0), .int (nI 0)]))) (h5 : M (5, 0, 0) = some (qh, .inl (G.2.2.1 4, 8, .inr (.inr (.inr (.inr f)))))) (hf : ∀ j, j < 8 → f j = some (LH.getD j (0, [])).1)
    (h6 : M (6, 0, 0) = some (si, .inr (2, [.ref (lmS si LI (2, 11, 0)), .ref (lmS si LI (2, 11, 1)), .ref (lmS si LI (2, 11, 2)), .ref (lmS si LI (2, 11, 3)), .int (nI 0), .int (nI 0), .int (nI 0)]))) (hr6 : ∀ b, b < 4 → RW G (lmS si LI) 11 b [] M)
    (h7 : M (7, 0, 0) = some (sp, .inr (5, [.ref (lmS sp LS (2, 12, 0)), .ref (lmS sp LS (2, 12, 1))]))) (hr7 : ∀ b, b < 2 → RW G (lmS sp LS) 12 b [] M)
    (h8 : M (8, 0, 0) = some (sb, .inr (7, [.ref qb, .int (nI 0), .int 0, .int 0]))) (h9 : M (9, 0, 0) = some (qb, .inl (G.2.2.1 3, 16, .inl fun _ => 0))) (hρ : ∀ o : Ob, 10 ≤ o.1 → M o = ρ o) : RX G (lmX s sh qh si sp sb x0 x1 x2 LH LI LS) ρ σ0 M := by
  have hst : ∀ a, a < 11 → SB G (lmX s sh qh si sp sb x0 x1 x2 LH LI LS) a s0 M := by
    intro a ha
    have hc : a = 0 ∨ a = 1 ∨ a = 2 ∨ a = 3 ∨ a = 4 ∨ a = 5 ∨ a = 6 ∨ a = 7 ∨ a = 8 ∨ a = 9 ∨ a = 10 := by omega
    rcases hc with rfl | rfl | rfl | rfl | rfl | rfl | rfl | rfl | rfl | rfl | rfl
    · exact hx0.cong rfl (fun _ => rfl) fun _ => rfl
    · exact hx1.cong rfl (fun _ => rfl) fun _ => rfl
    · exact hx2.cong rfl (fun _ => rfl) fun _ => rfl
    · exact (hh 0 (by decide)).cong rfl (fun _ => rfl) fun _ => rfl
    · exact (hh 1 (by decide)).cong rfl (fun _ => rfl) fun _ => rfl
    · exact (hh 2 (by decide)).cong rfl (fun _ => rfl) fun _ => rfl
    · exact (hh 3 (by decide)).cong rfl (fun _ => rfl) fun _ => rfl
    · exact (hh 4 (by decide)).cong rfl (fun _ => rfl) fun _ => rfl
    · exact (hh 5 (by decide)).cong rfl (fun _ => rfl) fun _ => rfl
    · exact (hh 6 (by decide)).cong rfl (fun _ => rfl) fun _ => rfl
    · exact (hh 7 (by decide)).cong rfl (fun _ => rfl) fun _ => rfl
  refine ⟨h0, fun a ha => (hst a ha).1, fun a b hr => ?_, h4, ⟨f, h5, fun j hj => ?_⟩, h6, h7, ?_, hρ⟩
  · simp only [wR, Bool.or_eq_true, Bool.and_eq_true, decide_eq_true_eq] at hr
    rcases hr with (⟨ha, hb⟩ | ⟨rfl, hb⟩) | ⟨rfl, hb⟩
    · have e : gR σ0 a b = s0.1 b := if_pos ha
      rw [e]; exact (hst a ha).2 b hb
    · exact (hr6 b hb).cong rfl rfl
    · exact (hr7 b hb).cong rfl rfl
  · have hc : j = 0 ∨ j = 1 ∨ j = 2 ∨ j = 3 ∨ j = 4 ∨ j = 5 ∨ j = 6 ∨ j = 7 := by omega
    rcases hc with rfl | rfl | rfl | rfl | rfl | rfl | rfl | rfl <;> exact hf _ (by decide)
  · refine ⟨qb, 0, fun _ => 0, h8, h9, Nat.zero_le _, by decide, fun x hx => absurd hx List.not_mem_nil, fun j hj => absurd hj (Nat.not_lt_zero j), fun j => ⟨0, by decide, rfl⟩⟩
theorem vX0_ok : ∀ j, j < 3 → defaultValue (tyX0 j) = vp_V [.null, .int 0, .int 0] j
  | 0, _ => rfl
  | 1, _ => rfl
  | 2, _ => rfl
  | j + 3, h => absurd h (by omega)
theorem is_X0 : lw_tbl[229]? = some (.instantiable RX0 3) := by decide +kernel
theorem ni_X0 : lw_tbl[95]? = some (.initialized RX0) := by decide +kernel
theorem vX1_ok : ∀ j, j < 7 → defaultValue (tyX1 j) = vp_V [.null, .null, .null, .null, .int 0, .int 0, .int 0] j
  | 0, _ => rfl
  | 1, _ => rfl
  | 2, _ => rfl
  | 3, _ => rfl
  | 4, _ => rfl
  | 5, _ => rfl
  | 6, _ => rfl
  | j + 7, h => absurd h (by omega)
theorem is_X1 : lw_tbl[248]? = some (.instantiable RX1 7) := by decide +kernel
theorem ni_X1 : lw_tbl[96]? = some (.initialized RX1) := by decide +kernel
theorem vX6_ok : ∀ j, j < 2 → defaultValue (tyX6 j) = vp_V [.null, .null] j
  | 0, _ => rfl
  | 1, _ => rfl
  | j + 2, h => absurd h (by omega)
theorem is_X6 : lw_tbl[278]? = some (.instantiable RX6 2) := by decide +kernel
theorem ni_X6 : lw_tbl[97]? = some (.initialized RX6) := by decide +kernel
theorem vJ4_ok : ∀ j, j < 4 → defaultValue (tyJ4 j) = vp_V [.null, .int 0, .int 0, .int 0] j
  | 0, _ => rfl
  | 1, _ => rfl
  | 2, _ => rfl
  | 3, _ => rfl
  | j + 4, h => absurd h (by omega)
theorem is_J4 : lw_tbl[293]? = some (.instantiable RJ4 4) := by decide +kernel
theorem ni_J4 : lw_tbl[99]? = some (.initialized RJ4) := by decide +kernel
theorem cl_X8_9 : lw_tbl[132]? = some (.classLink RX8 9 RX5) := by decide +kernel
theorem cl_X8_26 : lw_tbl[228]? = some (.classLink RX8 26 RX0) := by decide +kernel
theorem cl_X8_33 : lw_tbl[247]? = some (.classLink RX8 33 RX1) := by decide +kernel
theorem cl_X8_40 : lw_tbl[277]? = some (.classLink RX8 40 RX6) := by decide +kernel
theorem cl_X8_47 : lw_tbl[292]? = some (.classLink RX8 47 RJ4) := by decide +kernel
theorem ne_X8_35 : lw_tbl[249]? = some (.methodLinkNest RX8 35 yX1_init "WhistleJunction") := by decide +kernel
theorem ne_X8_42 : lw_tbl[279]? = some (.methodLinkNest RX8 42 yX6_init "WhistleJunction") := by decide +kernel
theorem s_X8_init {s : Nat} (hM : M (0, 0, 0) = some (s, .inr (0, [.null, .null, .null, .int 0, .null, .null, .null, .null, .int 0, .int 0, .int 0, .int 0]))) (hn : ∀ o : Ob, 1 ≤ o.1 → o.1 ≤ 9 → M o = none) (hQ : ∀ M' Λ, Λ (0, 0, 0) = s → RX G Λ M σ0 M' → Q none M') : MS G yX8_init cX8_init 1 none (d + 5) 315 6435 [.ref s] M Q QX := by
  refine MS.of (by decide) (by simp [Value.category]) (Nat.le_of_ble_eq_true rfl) ?_
  show AW _ (_, _, _, _, _, _, _, _, _) _ _ _ _ [some _] _ _
  refine r_aload_n (q := 1) dX8_init_0 rfl rfl ?_
  refine r_objInit (q := 4) oi_X8 dX8_init_1 rfl (Nat.le_of_ble_eq_true rfl) ?_
  refine r_aload_n (q := 5) dX8_init_4 rfl rfl ?_
  refine r_new (ci := 4) (k := 314) (n := 6418) (q := 8) (1, 0, 0) (hn (1, 0, 0) (Nat.le_of_ble_eq_true rfl) (Nat.le_of_ble_eq_true rfl)) rfl wi_RX5 tyX5_ok cl_X8_9 is_X5 ni_X5 v5_ok dX8_init_5 rfl fun x0 => ?_
  refine r_dup (q := 9) dX8_init_8 rfl rfl ?_
  refine r_cI (q := 12) (As := []) (k' := 26) (n' := 381) (k2 := 288) (n2 := 6037) wc_X8_11 im_X5_init rfl rfl (Nat.le_of_ble_eq_true rfl) (by decide) (by decide) dX8_init_9 rfl rfl (s_X5_init (if_pos rfl) (fun b => ⟨(if_neg (by simp)).trans (hn (2, 0, b) (Nat.le_of_ble_eq_true rfl) (Nat.le_of_ble_eq_true rfl)), (if_neg (by simp)).trans (hn (3, 0, b) (Nat.le_of_ble_eq_true rfl) (Nat.le_of_ble_eq_true rfl))⟩) (by decide) fun M9 T0 k0 => ?_)
  have f1 := k0.fx
  have b0 := k0.sb
  refine r_put' (q := 15) (kk := 0) (ty0 := tyX8) ((f1 (0, 0, 0) (by decide)).trans hM) rfl wi_RX8 tyX8_ok nmX8 (by decide) (Or.inr ⟨rfl, rfl⟩) rfl fk_X8_12 rfl rfl (Nat.le_of_ble_eq_true rfl) dX8_init_12 rfl fun N12 hS12 hO => ?_
  replace hS12 : N12 (0, 0, 0) = some (s, .inr (0, [.ref x0, .null, .null, .int 0, .null, .null, .null, .null, .int 0, .int 0, .int 0, .int 0])) := hS12
  have f2 := put_fx hO
  have f3 := f1.tr f2
  replace b0 := b0.fx f2 (by decide)
  have hF := f3
  refine r_aload_n (q := 16) dX8_init_15 rfl rfl ?_
  refine r_new (ci := 4) (k := 287) (n := 6020) (q := 19) (1, 1, 0) ((hF (1, 1, 0) (by decide)).trans (hn (1, 1, 0) (Nat.le_of_ble_eq_true rfl) (Nat.le_of_ble_eq_true rfl))) rfl wi_RX5 tyX5_ok cl_X8_9 is_X5 ni_X5 v5_ok dX8_init_16 rfl fun x1 => ?_
  refine r_dup (q := 20) dX8_init_19 rfl rfl ?_
  refine r_cI (q := 23) (As := []) (k' := 26) (n' := 381) (k2 := 261) (n2 := 5639) wc_X8_11 im_X5_init rfl rfl (Nat.le_of_ble_eq_true rfl) (by decide) (by decide) dX8_init_20 rfl rfl (s_X5_init (if_pos rfl) (fun b => ⟨(if_neg (by simp)).trans ((hF (2, 1, b) (by simp [gid, hGr])).trans (hn (2, 1, b) (Nat.le_of_ble_eq_true rfl) (Nat.le_of_ble_eq_true rfl))), (if_neg (by simp)).trans ((hF (3, 1, b) (by simp [gid, hGr])).trans (hn (3, 1, b) (Nat.le_of_ble_eq_true rfl) (Nat.le_of_ble_eq_true rfl)))⟩) (by decide) fun M20 T1 k1 => ?_)
  have f1 := k1.fx
  have b1 := k1.sb
  refine r_put' (q := 26) (kk := 1) (ty0 := tyX8) ((f1 (0, 0, 0) (by decide)).trans hS12) rfl wi_RX8 tyX8_ok nmX8 (by decide) (Or.inr ⟨rfl, rfl⟩) rfl fk_X8_16 rfl rfl (Nat.le_of_ble_eq_true rfl) dX8_init_23 rfl fun N23 hS23 hO => ?_
  replace hS23 : N23 (0, 0, 0) = some (s, .inr (0, [.ref x0, .ref x1, .null, .int 0, .null, .null, .null, .null, .int 0, .int 0, .int 0, .int 0])) := hS23
  have f2 := put_fx hO
  have f3 := f1.tr f2
  replace b0 := b0.fx f3 (by decide)
  replace b1 := b1.fx f2 (by decide)
  have hF := hF.tr f3
  refine r_aload_n (q := 27) dX8_init_26 rfl rfl ?_
  refine r_new (ci := 4) (k := 260) (n := 5622) (q := 30) (1, 2, 0) ((hF (1, 2, 0) (by decide)).trans (hn (1, 2, 0) (Nat.le_of_ble_eq_true rfl) (Nat.le_of_ble_eq_true rfl))) rfl wi_RX5 tyX5_ok cl_X8_9 is_X5 ni_X5 v5_ok dX8_init_27 rfl fun x2 => ?_
  refine r_dup (q := 31) dX8_init_30 rfl rfl ?_
  refine r_cI (q := 34) (As := []) (k' := 26) (n' := 381) (k2 := 234) (n2 := 5241) wc_X8_11 im_X5_init rfl rfl (Nat.le_of_ble_eq_true rfl) (by decide) (by decide) dX8_init_31 rfl rfl (s_X5_init (if_pos rfl) (fun b => ⟨(if_neg (by simp)).trans ((hF (2, 2, b) (by simp [gid, hGr])).trans (hn (2, 2, b) (Nat.le_of_ble_eq_true rfl) (Nat.le_of_ble_eq_true rfl))), (if_neg (by simp)).trans ((hF (3, 2, b) (by simp [gid, hGr])).trans (hn (3, 2, b) (Nat.le_of_ble_eq_true rfl) (Nat.le_of_ble_eq_true rfl)))⟩) (by decide) fun M31 T2 k2 => ?_)
  have f1 := k2.fx
  have b2 := k2.sb
  refine r_put' (q := 37) (kk := 2) (ty0 := tyX8) ((f1 (0, 0, 0) (by decide)).trans hS23) rfl wi_RX8 tyX8_ok nmX8 (by decide) (Or.inr ⟨rfl, rfl⟩) rfl fk_X8_19 rfl rfl (Nat.le_of_ble_eq_true rfl) dX8_init_34 rfl fun N34 hS34 hO => ?_
  replace hS34 : N34 (0, 0, 0) = some (s, .inr (0, [.ref x0, .ref x1, .ref x2, .int 0, .null, .null, .null, .null, .int 0, .int 0, .int 0, .int 0])) := hS34
  have f2 := put_fx hO
  have f3 := f1.tr f2
  replace b0 := b0.fx f3 (by decide)
  replace b1 := b1.fx f3 (by decide)
  replace b2 := b2.fx f2 (by decide)
  have hF := hF.tr f3
  refine r_aload_n (q := 38) dX8_init_37 rfl rfl ?_
  refine r_iconst (v := nI 0) (q := 39) dX8_init_38 (by decide) rfl ?_
  refine r_put' (q := 42) (kk := 3) (ty0 := tyX8) hS34 rfl wi_RX8 tyX8_ok nmX8 (by decide) (Or.inl rfl) rfl fk_X8_22 rfl rfl (Nat.le_of_ble_eq_true rfl) dX8_init_39 rfl fun N39 hS39 hO => ?_
  replace hS39 : N39 (0, 0, 0) = some (s, .inr (0, [.ref x0, .ref x1, .ref x2, .int (nI 0), .null, .null, .null, .null, .int 0, .int 0, .int 0, .int 0])) := hS39
  have f2 := put_fx hO
  replace b0 := b0.fx f2 (by decide)
  replace b1 := b1.fx f2 (by decide)
  replace b2 := b2.fx f2 (by decide)
  have hF := hF.tr f2
  refine r_aload_n (q := 43) dX8_init_42 rfl rfl ?_
  refine r_new (ci := 1) (k := 233) (n := 5238) (q := 46) (4, 0, 0) ((hF (4, 0, 0) (by decide)).trans (hn (4, 0, 0) (Nat.le_of_ble_eq_true rfl) (Nat.le_of_ble_eq_true rfl))) rfl wi_RX0 tyX0_ok cl_X8_26 is_X0 ni_X0 vX0_ok dX8_init_43 rfl fun sh => ?_
  refine r_dup (q := 47) dX8_init_46 rfl rfl ?_
  refine r_cI (q := 50) (As := []) (k' := 217) (n' := 3192) (k2 := 16) (n2 := 2046) wc_X8_28 im_X0_init rfl rfl (Nat.le_of_ble_eq_true rfl) (by decide) (by decide) dX8_init_47 rfl rfl (s_X0_init (if_pos rfl) ((if_neg (by simp)).trans ((hF (5, 0, 0) (by simp [gid, hGr])).trans (hn (5, 0, 0) (Nat.le_of_ble_eq_true rfl) (Nat.le_of_ble_eq_true rfl)))) (fun j hj => ⟨(if_neg (by simp)).trans ((hF (1, 3 + j, 0) (by simp [gid]; omega)).trans (hn _ (Nat.le_of_ble_eq_true rfl) (Nat.le_of_ble_eq_true rfl))), fun b => ⟨(if_neg (by simp)).trans ((hF (2, 3 + j, b) (by simp [gid]; omega)).trans (hn _ (Nat.le_of_ble_eq_true rfl) (Nat.le_of_ble_eq_true rfl))), (if_neg (by simp)).trans ((hF (3, 3 + j, b) (by simp [gid]; omega)).trans (hn _ (Nat.le_of_ble_eq_true rfl) (Nat.le_of_ble_eq_true rfl)))⟩⟩) fun M47 LH qh f hl c4 c5 hf k4 => ?_)
  have f1 := k4.fx
  have bh := k4.1
  refine r_put' (q := 53) (kk := 4) (ty0 := tyX8) ((f1 (0, 0, 0) (by decide)).trans hS39) rfl wi_RX8 tyX8_ok nmX8 (by decide) (Or.inr ⟨rfl, rfl⟩) rfl fk_X8_29 rfl rfl (Nat.le_of_ble_eq_true rfl) dX8_init_50 rfl fun N50 hS50 hO => ?_
  replace hS50 : N50 (0, 0, 0) = some (s, .inr (0, [.ref x0, .ref x1, .ref x2, .int (nI 0), .ref sh, .null, .null, .null, .int 0, .int 0, .int 0, .int 0])) := hS50
  have f2 := put_fx hO
  have f3 := f1.tr f2
  replace b0 := b0.fx f3 (by decide)
  replace b1 := b1.fx f3 (by decide)
  replace b2 := b2.fx f3 (by decide)
  replace bh := fun j hj => (bh j hj).fx f2 (by first | (simp [hGr]; done) | (simp [hGr]; omega))
  replace c4 := (f2 (4, 0, 0) (by decide)).trans c4
  replace c5 := (f2 (5, 0, 0) (by decide)).trans c5
  have hF := hF.tr f3
  refine r_aload_n (q := 54) dX8_init_53 rfl rfl ?_
  refine r_new (ci := 2) (k := 15) (n := 2039) (q := 57) (6, 0, 0) ((hF (6, 0, 0) (by decide)).trans (hn (6, 0, 0) (Nat.le_of_ble_eq_true rfl) (Nat.le_of_ble_eq_true rfl))) rfl wi_RX1 tyX1_ok cl_X8_33 is_X1 ni_X1 vX1_ok dX8_init_54 rfl fun si => ?_
  refine r_dup (q := 58) dX8_init_57 rfl rfl ?_
  refine r_cIN (q := 61) (As := []) (k' := 8) (n' := 248) (k2 := 7) (n2 := 1791) ne_X8_35 cd_X1_init in_RX1 (by decide +kernel) (by decide +kernel) (by decide) im_X1_init rfl rfl (Nat.le_of_ble_eq_true rfl) (by decide) (by decide) dX8_init_58 rfl rfl (s_X1_init (if_pos rfl) (fun b => ⟨(if_neg (by simp)).trans ((hF (2, 11, b) (by simp [gid, hGr])).trans (hn (2, 11, b) (Nat.le_of_ble_eq_true rfl) (Nat.le_of_ble_eq_true rfl))), (if_neg (by simp)).trans ((hF (3, 11, b) (by simp [gid, hGr])).trans (hn (3, 11, b) (Nat.le_of_ble_eq_true rfl) (Nat.le_of_ble_eq_true rfl)))⟩) fun M58 LI c6 hl6 k6 => ?_)
  have f1 := k6.fx (k := 6) rfl (by decide)
  have r6 := fun b hb => RI.rw (s := si) (b := b) k6 hb
  refine r_put' (q := 64) (kk := 5) (ty0 := tyX8) ((f1 (0, 0, 0) (by decide)).trans hS50) rfl wi_RX8 tyX8_ok nmX8 (by decide) (Or.inr ⟨rfl, rfl⟩) rfl fk_X8_36 rfl rfl (Nat.le_of_ble_eq_true rfl) dX8_init_61 rfl fun N61 hS61 hO => ?_
  replace hS61 : N61 (0, 0, 0) = some (s, .inr (0, [.ref x0, .ref x1, .ref x2, .int (nI 0), .ref sh, .ref si, .null, .null, .int 0, .int 0, .int 0, .int 0])) := hS61
  have f2 := put_fx hO
  have f3 := f1.tr f2
  replace b0 := b0.fx f3 (by decide)
  replace b1 := b1.fx f3 (by decide)
  replace b2 := b2.fx f3 (by decide)
  replace bh := fun j hj => (bh j hj).fx f3 (by first | (simp [hGr]; done) | (simp [hGr]; omega))
  replace c4 := (f3 (4, 0, 0) (by decide)).trans c4
  replace c5 := (f3 (5, 0, 0) (by decide)).trans c5
  replace c6 := (f2 (6, 0, 0) (by decide)).trans c6
  replace r6 := fun b hb => (r6 b hb).kept (f2 (2, 11, b) (by simp [gid])) (f2 (3, 11, b) (by simp [gid]))
  have hF := hF.tr f3
  refine r_aload_n (q := 65) dX8_init_64 rfl rfl ?_
  refine r_new (ci := 5) (k := 6) (n := 1789) (q := 68) (7, 0, 0) ((hF (7, 0, 0) (by decide)).trans (hn (7, 0, 0) (Nat.le_of_ble_eq_true rfl) (Nat.le_of_ble_eq_true rfl))) rfl wi_RX6 tyX6_ok cl_X8_40 is_X6 ni_X6 vX6_ok dX8_init_65 rfl fun sp => ?_
  refine r_dup (q := 69) dX8_init_68 rfl rfl ?_
  refine r_cIN (q := 72) (As := []) (k' := 4) (n' := 1769) (k2 := 2) (n2 := 20) ne_X8_42 cd_X6_init in_RX6 (by decide +kernel) (by decide +kernel) (by decide) im_X6_init rfl rfl (Nat.le_of_ble_eq_true rfl) (by decide) (by decide) dX8_init_69 rfl rfl (s_X6_init (if_pos rfl) (fun b => ⟨(if_neg (by simp)).trans ((hF (2, 12, b) (by simp [gid, hGr])).trans (hn (2, 12, b) (Nat.le_of_ble_eq_true rfl) (Nat.le_of_ble_eq_true rfl))), (if_neg (by simp)).trans ((hF (3, 12, b) (by simp [gid, hGr])).trans (hn (3, 12, b) (Nat.le_of_ble_eq_true rfl) (Nat.le_of_ble_eq_true rfl)))⟩) fun M69 LS c7 hl7 k7 => ?_)
  have f1 := k7.fx (k := 7) rfl (by decide)
  have r7 := fun b hb => RI.rw (s := sp) (b := b) k7 hb
  refine r_put' (q := 75) (kk := 6) (ty0 := tyX8) ((f1 (0, 0, 0) (by decide)).trans hS61) rfl wi_RX8 tyX8_ok nmX8 (by decide) (Or.inr ⟨rfl, rfl⟩) rfl fk_X8_43 rfl rfl (Nat.le_of_ble_eq_true rfl) dX8_init_72 rfl fun N72 hS72 hO => ?_
  replace hS72 : N72 (0, 0, 0) = some (s, .inr (0, [.ref x0, .ref x1, .ref x2, .int (nI 0), .ref sh, .ref si, .ref sp, .null, .int 0, .int 0, .int 0, .int 0])) := hS72
  have f2 := put_fx hO
  have f3 := f1.tr f2
  replace b0 := b0.fx f3 (by decide)
  replace b1 := b1.fx f3 (by decide)
  replace b2 := b2.fx f3 (by decide)
  replace bh := fun j hj => (bh j hj).fx f3 (by first | (simp [hGr]; done) | (simp [hGr]; omega))
  replace c4 := (f3 (4, 0, 0) (by decide)).trans c4
  replace c5 := (f3 (5, 0, 0) (by decide)).trans c5
  replace c6 := (f3 (6, 0, 0) (by decide)).trans c6
  replace r6 := fun b hb => (r6 b hb).kept (f3 (2, 11, b) (by simp [gid])) (f3 (3, 11, b) (by simp [gid]))
  replace c7 := (f2 (7, 0, 0) (by decide)).trans c7
  replace r7 := fun b hb => (r7 b hb).kept (f2 (2, 12, b) (by simp [gid])) (f2 (3, 12, b) (by simp [gid]))
  have hF := hF.tr f3
  refine r_aload_n (q := 76) dX8_init_75 rfl rfl ?_
  refine r_new (ci := 7) (k := 1) (n := 16) (q := 79) (8, 0, 0) ((hF (8, 0, 0) (by decide)).trans (hn (8, 0, 0) (Nat.le_of_ble_eq_true rfl) (Nat.le_of_ble_eq_true rfl))) rfl wi_RJ4 tyJ4_ok cl_X8_47 is_J4 ni_J4 vJ4_ok dX8_init_76 rfl fun sb => ?_
  refine r_dup (q := 80) dX8_init_79 rfl rfl ?_
  refine r_cI (q := 83) (As := []) (k' := 1) (n' := 16) (k2 := 0) (n2 := 0) wc_X8_49 im_J4_init_da8c8 rfl rfl (Nat.le_of_ble_eq_true rfl) (by decide) (by decide) dX8_init_80 rfl rfl (s_J4_init (if_pos rfl) ((if_neg (by simp)).trans ((hF (9, 0, 0) (by simp [gid, hGr])).trans (hn (9, 0, 0) (Nat.le_of_ble_eq_true rfl) (Nat.le_of_ble_eq_true rfl)))) fun M80 qb c8 c9 k8 => ?_)
  have f1 : FX [(8, 0), (9, 0)] _ M80 := fun o ho => (k8 o (fun e => ho (by rw [e]; decide)) (fun e => ho (by rw [e]; decide))).trans (if_neg (fun e => ho (by rw [e]; decide)))
  refine r_put' (q := 86) (kk := 7) (ty0 := tyX8) ((f1 (0, 0, 0) (by decide)).trans hS72) rfl wi_RX8 tyX8_ok nmX8 (by decide) (Or.inr ⟨rfl, rfl⟩) rfl fk_X8_50 rfl rfl (Nat.le_of_ble_eq_true rfl) dX8_init_83 rfl fun N83 hS83 hO => ?_
  replace hS83 : N83 (0, 0, 0) = some (s, .inr (0, [.ref x0, .ref x1, .ref x2, .int (nI 0), .ref sh, .ref si, .ref sp, .ref sb, .int 0, .int 0, .int 0, .int 0])) := hS83
  have f2 := put_fx hO
  have f3 := f1.tr f2
  replace b0 := b0.fx f3 (by decide)
  replace b1 := b1.fx f3 (by decide)
  replace b2 := b2.fx f3 (by decide)
  replace bh := fun j hj => (bh j hj).fx f3 (by first | (simp [hGr]; done) | (simp [hGr]; omega))
  replace c4 := (f3 (4, 0, 0) (by decide)).trans c4
  replace c5 := (f3 (5, 0, 0) (by decide)).trans c5
  replace c6 := (f3 (6, 0, 0) (by decide)).trans c6
  replace r6 := fun b hb => (r6 b hb).kept (f3 (2, 11, b) (by simp [gid])) (f3 (3, 11, b) (by simp [gid]))
  replace c7 := (f3 (7, 0, 0) (by decide)).trans c7
  replace r7 := fun b hb => (r7 b hb).kept (f3 (2, 12, b) (by simp [gid])) (f3 (3, 12, b) (by simp [gid]))
  replace c8 := (f2 (8, 0, 0) (by decide)).trans c8
  replace c9 := (f2 (9, 0, 0) (by decide)).trans c9
  have hF := hF.tr f3
  refine r_aload_n (q := 87) dX8_init_86 rfl rfl ?_
  refine r_iconst (v := (-1)) (q := 88) dX8_init_87 (by decide) rfl ?_
  refine r_put' (q := 91) (kk := 8) (ty0 := tyX8) hS83 rfl wi_RX8 tyX8_ok nmX8 (by decide) (Or.inl rfl) rfl fk_X8_54 rfl rfl (Nat.le_of_ble_eq_true rfl) dX8_init_88 rfl fun N88 hS88 hO => ?_
  replace hS88 : N88 (0, 0, 0) = some (s, .inr (0, [.ref x0, .ref x1, .ref x2, .int (nI 0), .ref sh, .ref si, .ref sp, .ref sb, .int (-1), .int 0, .int 0, .int 0])) := hS88
  have f2 := put_fx hO
  replace b0 := b0.fx f2 (by decide)
  replace b1 := b1.fx f2 (by decide)
  replace b2 := b2.fx f2 (by decide)
  replace bh := fun j hj => (bh j hj).fx f2 (by first | (simp [hGr]; done) | (simp [hGr]; omega))
  replace c4 := (f2 (4, 0, 0) (by decide)).trans c4
  replace c5 := (f2 (5, 0, 0) (by decide)).trans c5
  replace c6 := (f2 (6, 0, 0) (by decide)).trans c6
  replace r6 := fun b hb => (r6 b hb).kept (f2 (2, 11, b) (by simp [gid])) (f2 (3, 11, b) (by simp [gid]))
  replace c7 := (f2 (7, 0, 0) (by decide)).trans c7
  replace r7 := fun b hb => (r7 b hb).kept (f2 (2, 12, b) (by simp [gid])) (f2 (3, 12, b) (by simp [gid]))
  replace c8 := (f2 (8, 0, 0) (by decide)).trans c8
  replace c9 := (f2 (9, 0, 0) (by decide)).trans c9
  have hF := hF.tr f2
  refine r_aload_n (q := 92) dX8_init_91 rfl rfl ?_
  refine r_iconst (v := (-1)) (q := 93) dX8_init_92 (by decide) rfl ?_
  refine r_put' (q := 96) (kk := 9) (ty0 := tyX8) hS88 rfl wi_RX8 tyX8_ok nmX8 (by decide) (Or.inl rfl) rfl fk_X8_58 rfl rfl (Nat.le_of_ble_eq_true rfl) dX8_init_93 rfl fun N93 hS93 hO => ?_
  replace hS93 : N93 (0, 0, 0) = some (s, .inr (0, [.ref x0, .ref x1, .ref x2, .int (nI 0), .ref sh, .ref si, .ref sp, .ref sb, .int (-1), .int (-1), .int 0, .int 0])) := hS93
  have f2 := put_fx hO
  replace b0 := b0.fx f2 (by decide)
  replace b1 := b1.fx f2 (by decide)
  replace b2 := b2.fx f2 (by decide)
  replace bh := fun j hj => (bh j hj).fx f2 (by first | (simp [hGr]; done) | (simp [hGr]; omega))
  replace c4 := (f2 (4, 0, 0) (by decide)).trans c4
  replace c5 := (f2 (5, 0, 0) (by decide)).trans c5
  replace c6 := (f2 (6, 0, 0) (by decide)).trans c6
  replace r6 := fun b hb => (r6 b hb).kept (f2 (2, 11, b) (by simp [gid])) (f2 (3, 11, b) (by simp [gid]))
  replace c7 := (f2 (7, 0, 0) (by decide)).trans c7
  replace r7 := fun b hb => (r7 b hb).kept (f2 (2, 12, b) (by simp [gid])) (f2 (3, 12, b) (by simp [gid]))
  replace c8 := (f2 (8, 0, 0) (by decide)).trans c8
  replace c9 := (f2 (9, 0, 0) (by decide)).trans c9
  have hF := hF.tr f2
  refine r_aload_n (q := 97) dX8_init_96 rfl rfl ?_
  refine r_iconst (v := nI 0) (q := 98) dX8_init_97 (by decide) rfl ?_
  refine r_put' (q := 101) (kk := 10) (ty0 := tyX8) hS93 rfl wi_RX8 tyX8_ok nmX8 (by decide) (Or.inl rfl) rfl fk_X8_61 rfl rfl (Nat.le_of_ble_eq_true rfl) dX8_init_98 rfl fun N98 hS98 hO => ?_
  replace hS98 : N98 (0, 0, 0) = some (s, .inr (0, [.ref x0, .ref x1, .ref x2, .int (nI 0), .ref sh, .ref si, .ref sp, .ref sb, .int (-1), .int (-1), .int (nI 0), .int 0])) := hS98
  have f2 := put_fx hO
  replace b0 := b0.fx f2 (by decide)
  replace b1 := b1.fx f2 (by decide)
  replace b2 := b2.fx f2 (by decide)
  replace bh := fun j hj => (bh j hj).fx f2 (by first | (simp [hGr]; done) | (simp [hGr]; omega))
  replace c4 := (f2 (4, 0, 0) (by decide)).trans c4
  replace c5 := (f2 (5, 0, 0) (by decide)).trans c5
  replace c6 := (f2 (6, 0, 0) (by decide)).trans c6
  replace r6 := fun b hb => (r6 b hb).kept (f2 (2, 11, b) (by simp [gid])) (f2 (3, 11, b) (by simp [gid]))
  replace c7 := (f2 (7, 0, 0) (by decide)).trans c7
  replace r7 := fun b hb => (r7 b hb).kept (f2 (2, 12, b) (by simp [gid])) (f2 (3, 12, b) (by simp [gid]))
  replace c8 := (f2 (8, 0, 0) (by decide)).trans c8
  replace c9 := (f2 (9, 0, 0) (by decide)).trans c9
  have hF := hF.tr f2
  refine r_aload_n (q := 102) dX8_init_101 rfl rfl ?_
  refine r_iconst (v := nI 0) (q := 103) dX8_init_102 (by decide) rfl ?_
  refine r_put' (q := 106) (kk := 11) (ty0 := tyX8) hS98 rfl wi_RX8 tyX8_ok nmX8 (by decide) (Or.inl rfl) rfl fk_X8_64 rfl rfl (Nat.le_of_ble_eq_true rfl) dX8_init_103 rfl fun N103 hS103 hO => ?_
  replace hS103 : N103 (0, 0, 0) = some (s, .inr (0, [.ref x0, .ref x1, .ref x2, .int (nI 0), .ref sh, .ref si, .ref sp, .ref sb, .int (-1), .int (-1), .int (nI 0), .int (nI 0)])) := hS103
  have f2 := put_fx hO
  replace b0 := b0.fx f2 (by decide)
  replace b1 := b1.fx f2 (by decide)
  replace b2 := b2.fx f2 (by decide)
  replace bh := fun j hj => (bh j hj).fx f2 (by first | (simp [hGr]; done) | (simp [hGr]; omega))
  replace c4 := (f2 (4, 0, 0) (by decide)).trans c4
  replace c5 := (f2 (5, 0, 0) (by decide)).trans c5
  replace c6 := (f2 (6, 0, 0) (by decide)).trans c6
  replace r6 := fun b hb => (r6 b hb).kept (f2 (2, 11, b) (by simp [gid])) (f2 (3, 11, b) (by simp [gid]))
  replace c7 := (f2 (7, 0, 0) (by decide)).trans c7
  replace r7 := fun b hb => (r7 b hb).kept (f2 (2, 12, b) (by simp [gid])) (f2 (3, 12, b) (by simp [gid]))
  replace c8 := (f2 (8, 0, 0) (by decide)).trans c8
  replace c9 := (f2 (9, 0, 0) (by decide)).trans c9
  have hF := hF.tr f2
  refine r_vret dX8_init_106 ?_
  refine hQ _ (lmX s sh qh si sp sb (x0, T0) (x1, T1) (x2, T2) LH LI LS) rfl (rx_made hl hl6 hl7 hS103 b0 b1 b2 (fun j hj => bh j (by omega)) c4 c5 hf c6 (fun b hb => r6 b (by omega)) c7 (fun b hb => r7 b (by omega)) c8 c9 fun o ho => ?_)
  refine hF o ?_
  rw [gid, if_neg (by omega)]
  intro e
  simp only [hGr, List.mem_append, List.mem_cons, List.not_mem_nil, or_false, Prod.mk.injEq] at e
  omega
end W95
