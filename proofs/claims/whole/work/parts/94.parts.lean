/-! MADE ANEW: input, strip, text, history -/
section W94
variable {G : En} {Λ : Ob → Nat} {ρ : Me} {M M' : Me} {d : Nat} {Q : Option Value → Me → Prop} {QX : String → Me → Prop} {a b : Nat} {S : St}
theorem s_X1_init {s : Nat} (hM : M (6, 0, 0) = some (s, .inr (2, [.null, .null, .null, .null, .int 0, .int 0, .int 0]))) (hn : ∀ b, M (2, 11, b) = none ∧ M (3, 11, b) = none) (hQ : ∀ M' L, M' (6, 0, 0) = some (s, .inr (2, [.ref (lmS s L (2, 11, 0)), .ref (lmS s L (2, 11, 1)), .ref (lmS s L (2, 11, 2)), .ref (lmS s L (2, 11, 3)), .int (nI 0), .int (nI 0), .int (nI 0)])) → L.length = 4 → RI G (6, 0, 0) 11 L M M' → Q none M') : MS G yX1_init cX1_init 1 none (d + 2) 8 248 [.ref s] M Q QX := by
  refine MS.of (by decide) (by simp [Value.category]) (Nat.le_of_ble_eq_true rfl) ?_
  show AW _ (_, _, _, _, _, _, _, _, _) _ _ _ _ [some _] _ _
  have hI : RI G (6, 0, 0) 11 [] M M := ⟨fun b hb => absurd hb (Nat.not_lt_zero b), fun b _ => hn b, fun _ _ _ => rfl⟩
  refine r_aload_n (q := 1) dX1_init_0 rfl rfl ?_
  refine r_objInit (q := 4) oi_X1 dX1_init_1 rfl (Nat.le_of_ble_eq_true rfl) ?_
  refine r_aload_n (q := 5) dX1_init_4 rfl rfl ?_
  refine r_new (ci := 3) (k := 7) (n := 246) (q := 8) (2, 11, 0) (hI.2.1 0 (Nat.le_of_ble_eq_true rfl)).1 rfl wi_RX2 tyX2_ok cl_X1_Row is_X2 ni_X2 v2_ok dX1_init_5 rfl fun r0 => ?_
  refine r_dup (q := 9) dX1_init_8 rfl rfl ?_
  refine r_bipush (v := nI 60) (q := 11) dX1_init_9 (by decide) rfl ?_
  refine r_cI (q := 14) (As := [.int _]) (k' := 1) (n' := 60) (k2 := 6) (n2 := 186) wc_X1_11 im_X2_init rfl rfl (Nat.le_of_ble_eq_true rfl) (by decide) (by decide) dX1_init_11 rfl rfl (s_X2_init (if_pos rfl) ((if_neg (by simp)).trans (hI.2.1 0 (Nat.le_of_ble_eq_true rfl)).2) (by decide) fun M0 d0 h1 h2 h3 => ?_)
  replace hI := hI.row (z := 60) h1 h2 h3 (by simp [wLen])
  refine r_put' (q := 17) (kk := 0) (ty0 := tyX1) ((h3 _ (by simp) (by simp)).trans ((if_neg (by simp)).trans hM)) rfl wi_RX1 tyX1_ok nmX1 (by decide) (Or.inr ⟨rfl, rfl⟩) rfl fk_X1_14 rfl rfl (Nat.le_of_ble_eq_true rfl) dX1_init_14 rfl fun N14 hS14 hO => ?_
  replace hS14 : N14 (6, 0, 0) = some (s, .inr (2, [.ref r0, .null, .null, .null, .int 0, .int 0, .int 0])) := hS14
  replace hI := hI.put (by simp) (by simp) hO
  refine r_aload_n (q := 18) dX1_init_17 rfl rfl ?_
  refine r_new (ci := 3) (k := 5) (n := 184) (q := 21) (2, 11, 1) (hI.2.1 1 (Nat.le_of_ble_eq_true rfl)).1 rfl wi_RX2 tyX2_ok cl_X1_Row is_X2 ni_X2 v2_ok dX1_init_18 rfl fun r1 => ?_
  refine r_dup (q := 22) dX1_init_21 rfl rfl ?_
  refine r_bipush (v := nI 60) (q := 24) dX1_init_22 (by decide) rfl ?_
  refine r_cI (q := 27) (As := [.int _]) (k' := 1) (n' := 60) (k2 := 4) (n2 := 124) wc_X1_11 im_X2_init rfl rfl (Nat.le_of_ble_eq_true rfl) (by decide) (by decide) dX1_init_24 rfl rfl (s_X2_init (if_pos rfl) ((if_neg (by simp)).trans (hI.2.1 1 (Nat.le_of_ble_eq_true rfl)).2) (by decide) fun M1 d1 h1 h2 h3 => ?_)
  replace hI := hI.row (z := 60) h1 h2 h3 (by simp [wLen])
  refine r_put' (q := 30) (kk := 1) (ty0 := tyX1) ((h3 _ (by simp) (by simp)).trans ((if_neg (by simp)).trans hS14)) rfl wi_RX1 tyX1_ok nmX1 (by decide) (Or.inr ⟨rfl, rfl⟩) rfl fk_X1_20 rfl rfl (Nat.le_of_ble_eq_true rfl) dX1_init_27 rfl fun N27 hS27 hO => ?_
  replace hS27 : N27 (6, 0, 0) = some (s, .inr (2, [.ref r0, .ref r1, .null, .null, .int 0, .int 0, .int 0])) := hS27
  replace hI := hI.put (by simp) (by simp) hO
  refine r_aload_n (q := 31) dX1_init_30 rfl rfl ?_
  refine r_new (ci := 3) (k := 3) (n := 122) (q := 34) (2, 11, 2) (hI.2.1 2 (Nat.le_of_ble_eq_true rfl)).1 rfl wi_RX2 tyX2_ok cl_X1_Row is_X2 ni_X2 v2_ok dX1_init_31 rfl fun r2 => ?_
  refine r_dup (q := 35) dX1_init_34 rfl rfl ?_
  refine r_bipush (v := nI 60) (q := 37) dX1_init_35 (by decide) rfl ?_
  refine r_cI (q := 40) (As := [.int _]) (k' := 1) (n' := 60) (k2 := 2) (n2 := 62) wc_X1_11 im_X2_init rfl rfl (Nat.le_of_ble_eq_true rfl) (by decide) (by decide) dX1_init_37 rfl rfl (s_X2_init (if_pos rfl) ((if_neg (by simp)).trans (hI.2.1 2 (Nat.le_of_ble_eq_true rfl)).2) (by decide) fun M2 d2 h1 h2 h3 => ?_)
  replace hI := hI.row (z := 60) h1 h2 h3 (by simp [wLen])
  refine r_put' (q := 43) (kk := 2) (ty0 := tyX1) ((h3 _ (by simp) (by simp)).trans ((if_neg (by simp)).trans hS27)) rfl wi_RX1 tyX1_ok nmX1 (by decide) (Or.inr ⟨rfl, rfl⟩) rfl fk_X1_23 rfl rfl (Nat.le_of_ble_eq_true rfl) dX1_init_40 rfl fun N40 hS40 hO => ?_
  replace hS40 : N40 (6, 0, 0) = some (s, .inr (2, [.ref r0, .ref r1, .ref r2, .null, .int 0, .int 0, .int 0])) := hS40
  replace hI := hI.put (by simp) (by simp) hO
  refine r_aload_n (q := 44) dX1_init_43 rfl rfl ?_
  refine r_new (ci := 3) (k := 1) (n := 60) (q := 47) (2, 11, 3) (hI.2.1 3 (Nat.le_of_ble_eq_true rfl)).1 rfl wi_RX2 tyX2_ok cl_X1_Row is_X2 ni_X2 v2_ok dX1_init_44 rfl fun r3 => ?_
  refine r_dup (q := 48) dX1_init_47 rfl rfl ?_
  refine r_bipush (v := nI 60) (q := 50) dX1_init_48 (by decide) rfl ?_
  refine r_cI (q := 53) (As := [.int _]) (k' := 1) (n' := 60) (k2 := 0) (n2 := 0) wc_X1_11 im_X2_init rfl rfl (Nat.le_of_ble_eq_true rfl) (by decide) (by decide) dX1_init_50 rfl rfl (s_X2_init (if_pos rfl) ((if_neg (by simp)).trans (hI.2.1 3 (Nat.le_of_ble_eq_true rfl)).2) (by decide) fun M3 d3 h1 h2 h3 => ?_)
  replace hI := hI.row (z := 60) h1 h2 h3 (by simp [wLen])
  refine r_put' (q := 56) (kk := 3) (ty0 := tyX1) ((h3 _ (by simp) (by simp)).trans ((if_neg (by simp)).trans hS40)) rfl wi_RX1 tyX1_ok nmX1 (by decide) (Or.inr ⟨rfl, rfl⟩) rfl fk_X1_26 rfl rfl (Nat.le_of_ble_eq_true rfl) dX1_init_53 rfl fun N53 hS53 hO => ?_
  replace hS53 : N53 (6, 0, 0) = some (s, .inr (2, [.ref r0, .ref r1, .ref r2, .ref r3, .int 0, .int 0, .int 0])) := hS53
  replace hI := hI.put (by simp) (by simp) hO
  refine r_aload_n (q := 57) dX1_init_56 rfl rfl ?_
  refine r_iconst (v := nI 0) (q := 58) dX1_init_57 (by decide) rfl ?_
  refine r_put' (q := 61) (kk := 4) (ty0 := tyX1) hS53 rfl wi_RX1 tyX1_ok nmX1 (by decide) (Or.inl rfl) rfl fk_X1_29 rfl rfl (Nat.le_of_ble_eq_true rfl) dX1_init_58 rfl fun N58 hS58 hO => ?_
  replace hS58 : N58 (6, 0, 0) = some (s, .inr (2, [.ref r0, .ref r1, .ref r2, .ref r3, .int (nI 0), .int 0, .int 0])) := hS58
  replace hI := hI.put (by simp) (by simp) hO
  refine r_aload_n (q := 62) dX1_init_61 rfl rfl ?_
  refine r_iconst (v := nI 0) (q := 63) dX1_init_62 (by decide) rfl ?_
  refine r_put' (q := 66) (kk := 5) (ty0 := tyX1) hS58 rfl wi_RX1 tyX1_ok nmX1 (by decide) (Or.inl rfl) rfl fk_X1_33 rfl rfl (Nat.le_of_ble_eq_true rfl) dX1_init_63 rfl fun N63 hS63 hO => ?_
  replace hS63 : N63 (6, 0, 0) = some (s, .inr (2, [.ref r0, .ref r1, .ref r2, .ref r3, .int (nI 0), .int (nI 0), .int 0])) := hS63
  replace hI := hI.put (by simp) (by simp) hO
  refine r_aload_n (q := 67) dX1_init_66 rfl rfl ?_
  refine r_iconst (v := nI 0) (q := 68) dX1_init_67 (by decide) rfl ?_
  refine r_put' (q := 71) (kk := 6) (ty0 := tyX1) hS63 rfl wi_RX1 tyX1_ok nmX1 (by decide) (Or.inl rfl) rfl fk_X1_36 rfl rfl (Nat.le_of_ble_eq_true rfl) dX1_init_68 rfl fun N68 hS68 hO => ?_
  replace hS68 : N68 (6, 0, 0) = some (s, .inr (2, [.ref r0, .ref r1, .ref r2, .ref r3, .int (nI 0), .int (nI 0), .int (nI 0)])) := hS68
  replace hI := hI.put (by simp) (by simp) hO
  refine r_vret dX1_init_71 ?_
  exact hQ _ [(r0, d0), (r1, d1), (r2, d2), (r3, d3)] hS68 rfl hI
theorem s_X6_init {s : Nat} (hM : M (7, 0, 0) = some (s, .inr (5, [.null, .null]))) (hn : ∀ b, M (2, 12, b) = none ∧ M (3, 12, b) = none) (hQ : ∀ M' L, M' (7, 0, 0) = some (s, .inr (5, [.ref (lmS s L (2, 12, 0)), .ref (lmS s L (2, 12, 1))])) → L.length = 2 → RI G (7, 0, 0) 12 L M M' → Q none M') : MS G yX6_init cX6_init 1 none (d + 2) 4 1769 [.ref s] M Q QX := by
  refine MS.of (by decide) (by simp [Value.category]) (Nat.le_of_ble_eq_true rfl) ?_
  show AW _ (_, _, _, _, _, _, _, _, _) _ _ _ _ [some _] _ _
  have hI : RI G (7, 0, 0) 12 [] M M := ⟨fun b hb => absurd hb (Nat.not_lt_zero b), fun b _ => hn b, fun _ _ _ => rfl⟩
  refine r_aload_n (q := 1) dX6_init_0 rfl rfl ?_
  refine r_objInit (q := 4) oi_X6 dX6_init_1 rfl (Nat.le_of_ble_eq_true rfl) ?_
  refine r_aload_n (q := 5) dX6_init_4 rfl rfl ?_
  refine r_new (ci := 3) (k := 3) (n := 1767) (q := 8) (2, 12, 0) (hI.2.1 0 (Nat.le_of_ble_eq_true rfl)).1 rfl wi_RX2 tyX2_ok cl_X6_Row is_X2 ni_X2 v2_ok dX6_init_5 rfl fun r0 => ?_
  refine r_dup (q := 9) dX6_init_8 rfl rfl ?_
  refine r_sipush (v := nI 882) (q := 12) dX6_init_9 (by decide) rfl ?_
  refine r_cI (q := 15) (As := [.int _]) (k' := 1) (n' := 882) (k2 := 2) (n2 := 885) wc_X6_11 im_X2_init rfl rfl (Nat.le_of_ble_eq_true rfl) (by decide) (by decide) dX6_init_12 rfl rfl (s_X2_init (if_pos rfl) ((if_neg (by simp)).trans (hI.2.1 0 (Nat.le_of_ble_eq_true rfl)).2) (by decide) fun M0 d0 h1 h2 h3 => ?_)
  replace hI := hI.row (z := 882) h1 h2 h3 (by simp [wLen])
  refine r_put' (q := 18) (kk := 0) (ty0 := tyX6) ((h3 _ (by simp) (by simp)).trans ((if_neg (by simp)).trans hM)) rfl wi_RX6 tyX6_ok nmX6 (by decide) (Or.inr ⟨rfl, rfl⟩) rfl fk_X6_14 rfl rfl (Nat.le_of_ble_eq_true rfl) dX6_init_15 rfl fun N15 hS15 hO => ?_
  replace hS15 : N15 (7, 0, 0) = some (s, .inr (5, [.ref r0, .null])) := hS15
  replace hI := hI.put (by simp) (by simp) hO
  refine r_aload_n (q := 19) dX6_init_18 rfl rfl ?_
  refine r_new (ci := 3) (k := 1) (n := 883) (q := 22) (2, 12, 1) (hI.2.1 1 (Nat.le_of_ble_eq_true rfl)).1 rfl wi_RX2 tyX2_ok cl_X6_Row is_X2 ni_X2 v2_ok dX6_init_19 rfl fun r1 => ?_
  refine r_dup (q := 23) dX6_init_22 rfl rfl ?_
  refine r_sipush (v := nI 883) (q := 26) dX6_init_23 (by decide) rfl ?_
  refine r_cI (q := 29) (As := [.int _]) (k' := 1) (n' := 883) (k2 := 0) (n2 := 0) wc_X6_11 im_X2_init rfl rfl (Nat.le_of_ble_eq_true rfl) (by decide) (by decide) dX6_init_26 rfl rfl (s_X2_init (if_pos rfl) ((if_neg (by simp)).trans (hI.2.1 1 (Nat.le_of_ble_eq_true rfl)).2) (by decide) fun M1 d1 h1 h2 h3 => ?_)
  replace hI := hI.row (z := 883) h1 h2 h3 (by simp [wLen])
  refine r_put' (q := 32) (kk := 1) (ty0 := tyX6) ((h3 _ (by simp) (by simp)).trans ((if_neg (by simp)).trans hS15)) rfl wi_RX6 tyX6_ok nmX6 (by decide) (Or.inr ⟨rfl, rfl⟩) rfl fk_X6_20 rfl rfl (Nat.le_of_ble_eq_true rfl) dX6_init_29 rfl fun N29 hS29 hO => ?_
  replace hS29 : N29 (7, 0, 0) = some (s, .inr (5, [.ref r0, .ref r1])) := hS29
  replace hI := hI.put (by simp) (by simp) hO
  refine r_vret dX6_init_32 ?_
  exact hQ _ [(r0, d0), (r1, d1)] hS29 rfl hI
theorem oi_J5 : lw_tbl[300]? = some (.methodLink RJ5 3 Lib.objectInit) := by decide +kernel
theorem s_J5_init {s : Nat} (hM : M (8, 0, 0) = some (s, .inr (7, [.null, .int 0, .int 0, .int 0]))) (hn : M (9, 0, 0) = none) (hQ : ∀ M' q, M' (8, 0, 0) = some (s, .inr (7, [.ref q, .int (nI 0), .int 0, .int 0])) → M' (9, 0, 0) = some (q, .inl (G.2.2.1 3, 16, .inl fun _ => 0)) → (∀ o : Ob, o ≠ (8, 0, 0) → o ≠ (9, 0, 0) → M' o = M o) → Q none M') : MS G yJ5_init_d00df cJ5_init_d00df 2 none (d + 1) 1 16 [.ref s, .int (nI 16)] M Q QX := by
  refine MS.of (by decide) (by simp [Value.category]) (Nat.le_of_ble_eq_true rfl) ?_
  show AW _ (_, _, _, _, _, _, _, _, _) _ _ _ _ [some _, some _] _ _
  refine r_aload_n (q := 1) dJ5_init_d00df_0 rfl rfl ?_
  refine r_objInit (q := 4) oi_J5 dJ5_init_d00df_1 rfl (Nat.le_of_ble_eq_true rfl) ?_
  refine r_gets (q := 7) (fun s hE => hE.2.2.2.2.1) fk_J5_18 dJ5_init_d00df_4 rfl ?_
  refine r_if_eq (q := 10) (t := 25) dJ5_init_d00df_7 rfl rfl (fun c => absurd c (by decide)) (fun _ => ?_)
  refine r_aload_n (q := 11) dJ5_init_d00df_10 rfl rfl ?_
  refine r_iload_n (q := 12) dJ5_init_d00df_11 rfl rfl ?_
  refine r_newa (k := 0) (n := 0) (q := 14) (t := 3) (i1 := 324) (atype := .byte) (ty := .byte) (N := 16) (z := nI 16) (a0 := (16, .inl fun _ => 0)) (9, 0, 0) hn rfl (fun _ h => by cases h) rfl aC_byte (fun _ => rfl) (nI_pos (by decide)) (nI_clamp (by decide)) (by decide) dJ5_init_d00df_12 rfl fun q => ?_
  refine r_put' (q := 17) (kk := 0) (ty0 := tyJ4) ((if_neg (by simp)).trans hM) rfl wi_RJ4 tyJ4_ok nmJ4 (by decide) (Or.inl rfl) rfl fk_J5_15 rfl rfl (Nat.le_of_ble_eq_true rfl) dJ5_init_d00df_14 rfl fun M2 hM2 hO2 => ?_
  refine r_aload_n (q := 18) dJ5_init_d00df_17 rfl rfl ?_
  refine r_iconst (v := nI 0) (q := 19) dJ5_init_d00df_18 (by decide) rfl ?_
  refine r_put' (q := 22) (kk := 1) (ty0 := tyJ4) hM2 rfl wi_RJ4 tyJ4_ok nmJ4 (by decide) (Or.inl rfl) rfl fk_J5_22 rfl rfl (Nat.le_of_ble_eq_true rfl) dJ5_init_d00df_19 rfl fun M3 hM3 hO3 => ?_
  refine r_goto (t := 38) dJ5_init_d00df_22 (by decide) ?_
  refine r_vret dJ5_init_d00df_38 ?_
  exact hQ M3 q hM3 ((hO3 _ (by simp)).trans ((hO2 _ (by simp)).trans (if_pos rfl))) fun o h8 h9 => (hO3 o h8).trans ((hO2 o h8).trans (if_neg h9))
theorem s_J4_init {s : Nat} (hM : M (8, 0, 0) = some (s, .inr (7, [.null, .int 0, .int 0, .int 0]))) (hn : M (9, 0, 0) = none) (hQ : ∀ M' q, M' (8, 0, 0) = some (s, .inr (7, [.ref q, .int (nI 0), .int 0, .int 0])) → M' (9, 0, 0) = some (q, .inl (G.2.2.1 3, 16, .inl fun _ => 0)) → (∀ o : Ob, o ≠ (8, 0, 0) → o ≠ (9, 0, 0) → M' o = M o) → Q none M') : MS G yJ4_init_da8c8 cJ4_init_da8c8 1 none (d + 2) 1 16 [.ref s] M Q QX := by
  refine MS.of (by decide) (by simp [Value.category]) (Nat.le_of_ble_eq_true rfl) ?_
  show AW _ (_, _, _, _, _, _, _, _, _) _ _ _ _ [some _] _ _
  refine r_aload_n (q := 1) dJ4_init_da8c8_0 rfl rfl ?_
  refine r_bipush (v := nI 16) (q := 3) dJ4_init_da8c8_1 (by decide) rfl ?_
  refine r_cI (q := 6) (As := [.int _]) (k' := 1) (n' := 16) (k2 := 0) (n2 := 0) wc_J4_1 im_J5_init_d00df rfl rfl (Nat.le_of_ble_eq_true rfl) (by decide) (by decide) dJ4_init_da8c8_3 rfl rfl (s_J5_init hM hn fun M2 q h1 h2 h3 => ?_)
  refine r_vret dJ4_init_da8c8_6 ?_
  exact hQ M2 q h1 h2 h3
/-- a state's cells, no more -/
def SB (G : En) (Λ : Ob → Nat) (a : Nat) (S : St) (M : Me) : Prop := M (1, a, 0) = some (Λ (1, a, 0), .inr (4, sFS Λ a S)) ∧ ∀ b, b < 13 → RW G Λ a b (S.1 b) M
theorem SA.sb (h : SA G Λ a ρ S M) : SB G Λ a S M := ⟨h.1, h.2.1⟩
theorem SB.kept (h : SB G Λ a S M) (hO : ∀ o : Ob, (o.1 = 1 ∨ o.1 = 2 ∨ o.1 = 3) → o.2.1 = a → M' o = M o) : SB G Λ a S M' :=
  ⟨(hO (1, a, 0) (Or.inl rfl) rfl).trans h.1, fun b hb => (h.2 b hb).kept (hO (2, a, b) (Or.inr (Or.inl rfl)) rfl) (hO (3, a, b) (Or.inr (Or.inr rfl)) rfl)⟩
abbrev HL : Type := List (Nat × List (Nat × Nat))
def hlS (L : HL) (j : Nat) : Ob → Nat := lmS (L.getD j (0, [])).1 (L.getD j (0, [])).2
/-- the states of the history so far -/
def HI (G : En) (L : HL) (ρ M : Me) : Prop := (∀ j, j < L.length → SB G (hlS L j) (3 + j) s0 M) ∧ (∀ j, L.length ≤ j → j < 8 → M (1, 3 + j, 0) = none ∧ ∀ b, M (2, 3 + j, b) = none ∧ M (3, 3 + j, b) = none) ∧ ∀ o : Ob, o ≠ (4, 0, 0) → o ≠ (5, 0, 0) → (o.1 = 1 ∨ o.1 = 2 ∨ o.1 = 3 → o.2.1 < 3 ∨ 11 ≤ o.2.1) → M o = ρ o
theorem HI.put {L : HL} {O : Ob} (h : HI G L ρ M) (h0 : O = (4, 0, 0) ∨ O = (5, 0, 0)) (hO : ∀ x, x ≠ O → M' x = M x) : HI G L ρ M' := by
  have e : ∀ o : Ob, (o.1 = 1 ∨ o.1 = 2 ∨ o.1 = 3) → M' o = M o := fun o ho => hO o (fun e => by
    rcases h0 with g | g <;> (rw [e, g] at ho; simp at ho))
  refine ⟨fun j hj => (h.1 j hj).kept fun o ho _ => e o ho, fun j hj h8 => ⟨(e _ (Or.inl rfl)).trans (h.2.1 j hj h8).1, fun b => ⟨(e _ (Or.inr (Or.inl rfl))).trans ((h.2.1 j hj h8).2 b).1, (e _ (Or.inr (Or.inr rfl))).trans ((h.2.1 j hj h8).2 b).2⟩⟩, fun o h4 h5 hx => ?_⟩
  refine (hO o ?_).trans (h.2.2 o h4 h5 hx)
  rcases h0 with g | g
  · rw [g]; exact h4
  · rw [g]; exact h5
theorem hl_last {L : HL} {x : Nat × List (Nat × Nat)} : (L ++ [x]).getD L.length (0, []) = x := by
  rw [List.getD_eq_getElem?_getD, List.getElem?_append_right (Nat.le_refl _), Nat.sub_self]; rfl
theorem hl_app {L : HL} {x : Nat × List (Nat × Nat)} {i : Nat} (h : i < L.length) : (L ++ [x]).getD i (0, []) = L.getD i (0, []) := by
  rw [List.getD_eq_getElem?_getD, List.getD_eq_getElem?_getD, List.getElem?_append_left h]
theorem HI.state {L : HL} {s : Nat} {T : List (Nat × Nat)} {e : Nat × va_E} (h : HI G L ρ M) (h8 : L.length < 8) (h1 : SA G (lmS s T) (3 + L.length) (fun y => if y = (1, 3 + L.length, 0) then some e else M y) s0 M') : HI G (L ++ [(s, T)]) ρ M' := by
  have g : ∀ o : Ob, (o.1 = 1 ∨ o.1 = 2 ∨ o.1 = 3 → o.2.1 ≠ 3 + L.length) → M' o = M o := fun o ho => by
    have n1 : o ≠ (1, 3 + L.length, 0) := fun e => ho (Or.inl (by rw [e])) (by rw [e])
    refine (h1.2.2 o n1 fun hx => ho (Or.inr hx)).trans (if_neg n1)
  refine ⟨fun j hj => ?_, fun j hj h8 => ?_, fun o h4 h5 hx => ?_⟩
  · rw [List.length_append] at hj
    replace hj : j < L.length + 1 := hj
    by_cases ej : j = L.length
    · subst ej
      rw [hlS, hl_last]; exact h1.sb
    · rw [hlS, hl_app (by omega)]
      exact (h.1 j (by omega)).kept fun o _ ho => g o (fun _ => by omega)
  · rw [List.length_append] at hj
    replace hj : L.length + 1 ≤ j := hj
    obtain ⟨x1, x2⟩ := h.2.1 j (by omega) h8
    exact ⟨(g _ (fun _ => by show 3 + j ≠ _; omega)).trans x1, fun b => ⟨(g _ (fun _ => by show 3 + j ≠ _; omega)).trans (x2 b).1, (g _ (fun _ => by show 3 + j ≠ _; omega)).trans (x2 b).2⟩⟩
  · by_cases ho : o.1 = 1 ∨ o.1 = 2 ∨ o.1 = 3
    · by_cases e3 : o.2.1 = 3 + L.length
      · rcases hx ho with y | y <;> omega
      · exact (g o fun _ => e3).trans (h.2.2 o h4 h5 hx)
    · exact (g o fun hh => absurd hh ho).trans (h.2.2 o h4 h5 hx)
theorem v5_ok : ∀ j, j < 17 → defaultValue (tyX5 j) = vp_V [.null, .null, .null, .null, .null, .null, .null, .null, .null, .null, .null, .null, .null, .int 0, .int 0, .int 0, .int 0] j
  | 0, _ => rfl
  | 1, _ => rfl
  | 2, _ => rfl
  | 3, _ => rfl
  | 4, _ => rfl
  | 5, _ => rfl
  | 6, _ => rfl
  | 7, _ => rfl
  | 8, _ => rfl
  | 9, _ => rfl
  | 10, _ => rfl
  | 11, _ => rfl
  | 12, _ => rfl
  | 13, _ => rfl
  | 14, _ => rfl
  | 15, _ => rfl
  | 16, _ => rfl
  | j + 17, h => absurd h (by omega)
theorem is_X5 : lw_tbl[133]? = some (.instantiable RX5 17) := by decide +kernel
theorem ni_X5 : lw_tbl[92]? = some (.initialized RX5) := by decide +kernel
theorem cl_X0_State : lw_tbl[234]? = some (.classLink RX0 9 RX5) := by decide +kernel
theorem s_X0_init {s : Nat} (hM : M (4, 0, 0) = some (s, .inr (1, [.null, .int 0, .int 0]))) (hn5 : M (5, 0, 0) = none) (hn : ∀ j, j < 8 → M (1, 3 + j, 0) = none ∧ ∀ b, M (2, 3 + j, b) = none ∧ M (3, 3 + j, b) = none) (hQ : ∀ M' L q f, L.length = 8 → M' (4, 0, 0) = some (s, .inr (1, [.ref q, .int (nI 0), .int (nI 0)])) → M' (5, 0, 0) = some (q, .inl (G.2.2.1 4, 8, .inr (.inr (.inr (.inr f))))) → (∀ j, j < 8 → f j = some (L.getD j (0, [])).1) → HI G L M M' → Q none M') : MS G yX0_init cX0_init 2 none (d + 4) 217 3192 [.ref s] M Q QX := by
  have loop : ∀ (m : Nat) (L : HL) (q : Nat) (f : Nat → Option Nat) (M1 : Me), m = 8 - L.length → L.length ≤ 8 → M1 (4, 0, 0) = some (s, .inr (1, [.ref q, .int (nI 0), .int (nI 0)])) → M1 (5, 0, 0) = some (q, .inl (G.2.2.1 4, 8, .inr (.inr (.inr (.inr f))))) → (∀ j, j < L.length → f j = some (L.getD j (0, [])).1) → HI G L M M1 → AW G (wX G yX0_init cX0_init 2 none 217 3192 Q QX) (d + 4) (27 * (8 - L.length)) (398 * (8 - L.length)) 25 [some (.ref s), some (.int (nI L.length))] [] M1 := by
    intro m
    induction m using Nat.strongRecOn with
    | _ m ih =>
    intro L q f M1 hm hL h4 h5 hf hI
    subst hm
    refine r_iload_n (q := 26) dX0_init_25 rfl rfl ?_
    refine r_aload_n (q := 27) dX0_init_26 rfl rfl ?_
    refine r_get (q := 30) (kk := 0) h4 rfl wi_RX0 (by decide) rfl fk_X0_11 rfl dX0_init_27 rfl ?_
    refine r_alen (q := 31) h5 (t := 4) (v := nI 8) rfl rfl dX0_init_30 rfl ?_
    refine r_icmp_ge (q := 34) (t := 53) dX0_init_31 rfl rfl (fun c => ?_) (fun c => ?_)
    · have e8 : L.length = 8 := by
        have := (nI_leI (by decide) (by omega)).mp c
        omega
      refine r_vret dX0_init_53 ?_
      exact hQ M1 L q f e8 h4 h5 (fun j hj => hf j (by omega)) hI
    · have h8 : L.length < 8 := Decidable.byContradiction fun g => c ((nI_leI (by decide) (by omega)).mpr (by omega))
      obtain ⟨n1, n2⟩ := hI.2.1 L.length (Nat.le_refl _) h8
      refine AW.less (k' := 26 + 27 * (8 - (L.length + 1)) + 1) (n' := 381 + 398 * (8 - (L.length + 1)) + 17) (by omega) (by omega) ?_
      refine r_aload_n (q := 35) dX0_init_34 rfl rfl ?_
      refine r_get (q := 38) (kk := 0) h4 rfl wi_RX0 (by decide) rfl fk_X0_11 rfl dX0_init_35 rfl ?_
      refine r_iload_n (q := 39) dX0_init_38 rfl rfl ?_
      refine r_new (ci := 4) (q := 42) (1, 3 + L.length, 0) n1 rfl wi_RX5 tyX5_ok cl_X0_State is_X5 ni_X5 v5_ok dX0_init_39 rfl fun r => ?_
      refine r_dup (q := 43) dX0_init_42 rfl rfl ?_
      refine r_cI (q := 46) (As := []) (k' := 26) (n' := 381) (k2 := 27 * (8 - (L.length + 1))) (n2 := 398 * (8 - (L.length + 1))) wc_X0_24 im_X5_init rfl rfl (Nat.le_of_ble_eq_true rfl) (Nat.le_refl _) (Nat.le_refl _) dX0_init_43 rfl rfl (s_X5_init (if_pos rfl) (fun b => ⟨(if_neg (by simp)).trans (n2 b).1, (if_neg (by simp)).trans (n2 b).2⟩) (by omega) fun M2 T h2 => ?_)
      have hI2 := hI.state h8 h2
      have k4 : M2 (4, 0, 0) = M1 (4, 0, 0) := (h2.2.2 _ (by simp) (fun e => by simp at e)).trans (if_neg (by simp))
      have k5 : M2 (5, 0, 0) = M1 (5, 0, 0) := (h2.2.2 _ (by simp) (fun e => by simp at e)).trans (if_neg (by simp))
      refine r_aast (q := 47) (o := (5, 0, 0)) (k5.trans h5) h2.1 (vp_in_nI (by omega) (by omega)) dX0_init_46 rfl ?_
      refine r_inc1 (q := 50) dX0_init_47 rfl (Nat.le_of_ble_eq_true rfl) rfl rfl ?_
      refine r_goto (t := 25) dX0_init_50 (by decide) ?_
      have e1 : (L ++ [(r, T)]).length = L.length + 1 := by rw [List.length_append]; rfl
      have hI3 : HI G (L ++ [(r, T)]) M (fun y => if y = (5, 0, 0) then some (q, .inl (G.2.2.1 4, 8, .inr (.inr (.inr (.inr (va_up f L.length (some r))))))) else M2 y) := hI2.put (O := (5, 0, 0)) (Or.inr rfl) fun x hx => if_neg hx
      have key := ih (8 - (L.length + 1)) (by omega) (L ++ [(r, T)]) q (va_up f L.length (some r)) (fun y => if y = (5, 0, 0) then some (q, .inl (G.2.2.1 4, 8, .inr (.inr (.inr (.inr (va_up f L.length (some r))))))) else M2 y) (by rw [e1]) (by rw [e1]; omega) ((if_neg (by simp)).trans (k4.trans h4)) (if_pos rfl) (fun j hj => ?_) hI3
      · rw [e1] at key
        rw [nI_c7 (by omega)]
        exact key
      · rw [e1] at hj
        by_cases g : j = L.length
        · subst g
          rw [hl_last]; exact va_up_self _ _ _
        · rw [hl_app (by omega), va_up_ne _ _ g]; exact hf j (by omega)
  refine MS.of (by decide) (by simp [Value.category]) (Nat.le_of_ble_eq_true rfl) ?_
  show AW _ (_, _, _, _, _, _, _, _, _) _ _ _ _ [some _, _] _ _
  refine r_aload_n (q := 1) dX0_init_0 rfl rfl ?_
  refine r_objInit (q := 4) oi_X0 dX0_init_1 rfl (Nat.le_of_ble_eq_true rfl) ?_
  refine r_aload_n (q := 5) dX0_init_4 rfl rfl ?_
  refine r_bipush (v := nI 8) (q := 7) dX0_init_5 (by decide) rfl ?_
  refine r_newq (k := 216) (n := 3184) (N := 8) (q := 10) (5, 0, 0) hn5 cl_X0_State (nI_pos (by decide)) (nI_clamp (by decide)) (by decide) dX0_init_7 rfl fun q => ?_
  refine r_put' (q := 13) (kk := 0) (ty0 := tyX0) ((if_neg (by simp)).trans hM) rfl wi_RX0 tyX0_ok nmX0 (by decide) (Or.inr ⟨rfl, rfl⟩) rfl fk_X0_11 rfl rfl (Nat.le_of_ble_eq_true rfl) dX0_init_10 rfl fun M2 hM2 hO2 => ?_
  refine r_aload_n (q := 14) dX0_init_13 rfl rfl ?_
  refine r_iconst (v := nI 0) (q := 15) dX0_init_14 (by decide) rfl ?_
  refine r_put' (q := 18) (kk := 1) (ty0 := tyX0) hM2 rfl wi_RX0 tyX0_ok nmX0 (by decide) (Or.inl rfl) rfl fk_X0_17 rfl rfl (Nat.le_of_ble_eq_true rfl) dX0_init_15 rfl fun M3 hM3 hO3 => ?_
  refine r_aload_n (q := 19) dX0_init_18 rfl rfl ?_
  refine r_iconst (v := nI 0) (q := 20) dX0_init_19 (by decide) rfl ?_
  refine r_put' (q := 23) (kk := 2) (ty0 := tyX0) hM3 rfl wi_RX0 tyX0_ok nmX0 (by decide) (Or.inl rfl) rfl fk_X0_21 rfl rfl (Nat.le_of_ble_eq_true rfl) dX0_init_20 rfl fun M4 hM4 hO4 => ?_
  refine r_iconst (v := nI 0) (q := 24) dX0_init_23 (by decide) rfl ?_
  refine r_istore_n (q := 25) dX0_init_24 (Nat.le_of_ble_eq_true rfl) rfl rfl ?_
  have hI0 : HI G [] M M := ⟨fun j hj => absurd hj (Nat.not_lt_zero j), fun j _ hj => hn j hj, fun _ _ _ _ => rfl⟩
  have hI1 : HI G [] M (fun y => if y = (5, 0, 0) then some (q, .inl (G.2.2.1 4, 8, .inr (.inr (.inr (.inr (fun _ => none)))))) else M y) := hI0.put (O := (5, 0, 0)) (Or.inr rfl) fun x hx => if_neg hx
  refine (loop _ [] q (fun _ => none) M4 rfl (Nat.zero_le _) hM4 ((hO4 _ (by simp)).trans ((hO3 _ (by simp)).trans ((hO2 _ (by simp)).trans (if_pos rfl)))) (fun j hj => absurd hj (Nat.not_lt_zero j)) (((hI1.put (Or.inl rfl) hO2).put (Or.inl rfl) hO3).put (Or.inl rfl) hO4))
end W94
