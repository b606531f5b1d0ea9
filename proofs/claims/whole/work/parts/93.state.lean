/-! MADE ANEW: a state -/
section W93
variable {G : En} {Λ : Ob → Nat} {ρ : Me} {M M' : Me} {d : Nat} {Q : Option Value → Me → Prop} {QX : String → Me → Prop} {a b : Nat} {S : St} {L : List Nat}
def sFS (Λ : Ob → Nat) (a : Nat) (S : St) : List Value := [.ref (Λ (2, a, 0)), .ref (Λ (2, a, 1)), .ref (Λ (2, a, 2)), .ref (Λ (2, a, 3)), .ref (Λ (2, a, 4)), .ref (Λ (2, a, 5)), .ref (Λ (2, a, 6)), .ref (Λ (2, a, 7)), .ref (Λ (2, a, 8)), .ref (Λ (2, a, 9)), .ref (Λ (2, a, 10)), .ref (Λ (2, a, 11)), .ref (Λ (2, a, 12)), .int (nI (S.2 0)), .int (nI (S.2 1)), .int (nI (S.2 2)), .int (nI (S.2 3))]
/-- one state's cells -/
def SA (G : En) (Λ : Ob → Nat) (a : Nat) (ρ : Me) (S : St) (M : Me) : Prop := M (1, a, 0) = some (Λ (1, a, 0), .inr (4, sFS Λ a S)) ∧ (∀ b, b < 13 → RW G Λ a b (S.1 b) M) ∧ ∀ o : Ob, o ≠ (1, a, 0) → (o.1 = 2 ∨ o.1 = 3 → o.2.1 ≠ a) → M o = ρ o
theorem SA.row (h : SA G Λ a ρ S M) (hb : b < 13) : M (2, a, b) = some (Λ (2, a, b), .inr (3, [.ref (Λ (3, a, b)), .int (nI (S.1 b).length)])) := (h.2.1 b hb).1
theorem SA.setR (h : SA G Λ a ρ S M) (hw : RW G Λ a b L M') (ho : ∀ o : Ob, o ≠ (2, a, b) → o ≠ (3, a, b) → M' o = M o) : SA G Λ a ρ (uR S b L) M' := by
  refine ⟨(ho _ (by simp) (by simp)).trans h.1, fun b' hb' => ?_, fun o h0 h1 => ?_⟩
  · rw [uR_1]
    by_cases g : b' = b
    · rw [if_pos g, g]; exact hw
    · rw [if_neg g]
      exact (h.2.1 b' hb').kept (ho _ (fun e => g (by simpa using e)) (by simp)) (ho _ (by simp) (fun e => g (by simpa using e)))
  · rw [ho o (fun e => h1 (Or.inl (by rw [e])) (by rw [e])) (fun e => h1 (Or.inr (by rw [e])) (by rw [e]))]
    exact h.2.2 o h0 h1
theorem ta_fill (h : SA G Λ a ρ S M) (hb : b < 13) {m x : Nat} {v : Int32} (hm : m < 2 ^ 31) (hv : v = nI x) (hx : x < 2 ^ 31) (hQ : ∀ M', SA G Λ a ρ (uR S b (List.replicate (min m (wLen a b)) x)) M' → Q none M') : MS G yX2_fill cX2_fill 4 none (d + 1) 0 0 [.ref (Λ (2, a, b)), .int (nI m), .int v] M Q QX :=
  s_X2_fill (h.2.1 b hb) hm hv hx fun M' hw ho => hQ M' (h.setR hw ho)
theorem SA.setI (h : SA G Λ a ρ S M) {j : Nat} {M' : Me} (hM : M' (1, a, 0) = some (Λ (1, a, 0), .inr (4, sFS Λ a (uI S j 0)))) (hO : ∀ x, x ≠ (1, a, 0) → M' x = M x) : SA G Λ a ρ (uI S j 0) M' :=
  ⟨hM, fun b hb => (h.2.1 b hb).kept (hO _ (by simp)) (hO _ (by simp)), fun o h0 h1 => (hO o h0).trans (h.2.2 o h0 h1)⟩
theorem SA.cong {S' : St} (h : SA G Λ a ρ S M) (h1 : ∀ b, b < 13 → S'.1 b = S.1 b) (h2 : ∀ j, j < 4 → S'.2 j = S.2 j) : SA G Λ a ρ S' M := by
  refine ⟨?_, fun b hb => by rw [h1 b hb]; exact h.2.1 b hb, h.2.2⟩
  have e : sFS Λ a S' = sFS Λ a S := by rw [sFS, sFS, h2 0 (by decide), h2 1 (by decide), h2 2 (by decide), h2 3 (by decide)]
  rw [e]; exact h.1
theorem sa_X5_reset (h : SA G Λ a ρ S M) (ha : a < 11) (hQ : ∀ M', SA G Λ a ρ s0 M' → Q none M') : MS G yX5_reset cX5_reset 1 none (d + 2) 0 0 [.ref (Λ (1, a, 0))] M Q QX := by
  refine MS.of (by decide) (by simp [Value.category]) (Nat.le_of_ble_eq_true rfl) ?_
  show AW _ (_, _, _, _, _, _, _, _, _) _ _ _ _ [some _] _ _
  refine r_aload_n (q := 1) dX5_reset_0 rfl rfl ?_
  refine r_get (q := 4) (kk := 0) h.1 rfl wi_RX5 (by decide) rfl fk_X5_14 rfl dX5_reset_1 rfl ?_
  refine r_bipush (v := nI 7) (q := 6) dX5_reset_4 (by decide) rfl ?_
  refine r_iconst (v := nI 0) (q := 7) dX5_reset_6 (by decide) rfl ?_
  refine r_cV (q := 10) (As := [.int _, .int _]) wc_X5_72 rfl im_X2_fill se_X2_fill (h.row (by decide)) rfl rfl (Nat.le_of_ble_eq_true rfl) (Nat.le_of_eq (Nat.zero_add _)) (Nat.le_of_eq (Nat.zero_add _)) dX5_reset_7 rfl rfl (ta_fill h (by decide) (by decide) rfl (by decide) fun M_7 h_7 => ?_)
  refine r_aload_n (q := 11) dX5_reset_10 rfl rfl ?_
  refine r_get (q := 14) (kk := 1) h_7.1 rfl wi_RX5 (by decide) rfl fk_X5_20 rfl dX5_reset_11 rfl ?_
  refine r_bipush (v := nI 7) (q := 16) dX5_reset_14 (by decide) rfl ?_
  refine r_iconst (v := nI 0) (q := 17) dX5_reset_16 (by decide) rfl ?_
  refine r_cV (q := 20) (As := [.int _, .int _]) wc_X5_72 rfl im_X2_fill se_X2_fill (h_7.row (by decide)) rfl rfl (Nat.le_of_ble_eq_true rfl) (Nat.le_of_eq (Nat.zero_add _)) (Nat.le_of_eq (Nat.zero_add _)) dX5_reset_17 rfl rfl (ta_fill h_7 (by decide) (by decide) rfl (by decide) fun M_17 h_17 => ?_)
  refine r_aload_n (q := 21) dX5_reset_20 rfl rfl ?_
  refine r_get (q := 24) (kk := 2) h_17.1 rfl wi_RX5 (by decide) rfl fk_X5_23 rfl dX5_reset_21 rfl ?_
  refine r_bipush (v := nI 7) (q := 26) dX5_reset_24 (by decide) rfl ?_
  refine r_bipush (v := nI 10) (q := 28) dX5_reset_26 (by decide) rfl ?_
  refine r_cV (q := 31) (As := [.int _, .int _]) wc_X5_72 rfl im_X2_fill se_X2_fill (h_17.row (by decide)) rfl rfl (Nat.le_of_ble_eq_true rfl) (Nat.le_of_eq (Nat.zero_add _)) (Nat.le_of_eq (Nat.zero_add _)) dX5_reset_28 rfl rfl (ta_fill h_17 (by decide) (by decide) rfl (by decide) fun M_28 h_28 => ?_)
  refine r_aload_n (q := 32) dX5_reset_31 rfl rfl ?_
  refine r_get (q := 35) (kk := 3) h_28.1 rfl wi_RX5 (by decide) rfl fk_X5_26 rfl dX5_reset_32 rfl ?_
  refine r_bipush (v := nI 7) (q := 37) dX5_reset_35 (by decide) rfl ?_
  refine r_bipush (v := nI 10) (q := 39) dX5_reset_37 (by decide) rfl ?_
  refine r_cV (q := 42) (As := [.int _, .int _]) wc_X5_72 rfl im_X2_fill se_X2_fill (h_28.row (by decide)) rfl rfl (Nat.le_of_ble_eq_true rfl) (Nat.le_of_eq (Nat.zero_add _)) (Nat.le_of_eq (Nat.zero_add _)) dX5_reset_39 rfl rfl (ta_fill h_28 (by decide) (by decide) rfl (by decide) fun M_39 h_39 => ?_)
  refine r_aload_n (q := 43) dX5_reset_42 rfl rfl ?_
  refine r_get (q := 46) (kk := 4) h_39.1 rfl wi_RX5 (by decide) rfl fk_X5_29 rfl dX5_reset_43 rfl ?_
  refine r_bipush (v := nI 7) (q := 48) dX5_reset_46 (by decide) rfl ?_
  refine r_iconst (v := nI 0) (q := 49) dX5_reset_48 (by decide) rfl ?_
  refine r_cV (q := 52) (As := [.int _, .int _]) wc_X5_72 rfl im_X2_fill se_X2_fill (h_39.row (by decide)) rfl rfl (Nat.le_of_ble_eq_true rfl) (Nat.le_of_eq (Nat.zero_add _)) (Nat.le_of_eq (Nat.zero_add _)) dX5_reset_49 rfl rfl (ta_fill h_39 (by decide) (by decide) rfl (by decide) fun M_49 h_49 => ?_)
  refine r_aload_n (q := 53) dX5_reset_52 rfl rfl ?_
  refine r_get (q := 56) (kk := 5) h_49.1 rfl wi_RX5 (by decide) rfl fk_X5_32 rfl dX5_reset_53 rfl ?_
  refine r_bipush (v := nI 7) (q := 58) dX5_reset_56 (by decide) rfl ?_
  refine r_iconst (v := nI 0) (q := 59) dX5_reset_58 (by decide) rfl ?_
  refine r_cV (q := 62) (As := [.int _, .int _]) wc_X5_72 rfl im_X2_fill se_X2_fill (h_49.row (by decide)) rfl rfl (Nat.le_of_ble_eq_true rfl) (Nat.le_of_eq (Nat.zero_add _)) (Nat.le_of_eq (Nat.zero_add _)) dX5_reset_59 rfl rfl (ta_fill h_49 (by decide) (by decide) rfl (by decide) fun M_59 h_59 => ?_)
  refine r_aload_n (q := 63) dX5_reset_62 rfl rfl ?_
  refine r_get (q := 66) (kk := 6) h_59.1 rfl wi_RX5 (by decide) rfl fk_X5_35 rfl dX5_reset_63 rfl ?_
  refine r_bipush (v := nI 7) (q := 68) dX5_reset_66 (by decide) rfl ?_
  refine r_iconst (v := nI 0) (q := 69) dX5_reset_68 (by decide) rfl ?_
  refine r_cV (q := 72) (As := [.int _, .int _]) wc_X5_72 rfl im_X2_fill se_X2_fill (h_59.row (by decide)) rfl rfl (Nat.le_of_ble_eq_true rfl) (Nat.le_of_eq (Nat.zero_add _)) (Nat.le_of_eq (Nat.zero_add _)) dX5_reset_69 rfl rfl (ta_fill h_59 (by decide) (by decide) rfl (by decide) fun M_69 h_69 => ?_)
  refine r_aload_n (q := 73) dX5_reset_72 rfl rfl ?_
  refine r_get (q := 76) (kk := 7) h_69.1 rfl wi_RX5 (by decide) rfl fk_X5_38 rfl dX5_reset_73 rfl ?_
  refine r_bipush (v := nI 7) (q := 78) dX5_reset_76 (by decide) rfl ?_
  refine r_iconst (v := nI 0) (q := 79) dX5_reset_78 (by decide) rfl ?_
  refine r_cV (q := 82) (As := [.int _, .int _]) wc_X5_72 rfl im_X2_fill se_X2_fill (h_69.row (by decide)) rfl rfl (Nat.le_of_ble_eq_true rfl) (Nat.le_of_eq (Nat.zero_add _)) (Nat.le_of_eq (Nat.zero_add _)) dX5_reset_79 rfl rfl (ta_fill h_69 (by decide) (by decide) rfl (by decide) fun M_79 h_79 => ?_)
  refine r_aload_n (q := 83) dX5_reset_82 rfl rfl ?_
  refine r_get (q := 86) (kk := 8) h_79.1 rfl wi_RX5 (by decide) rfl fk_X5_41 rfl dX5_reset_83 rfl ?_
  refine r_iconst (v := nI 4) (q := 87) dX5_reset_86 (by decide) rfl ?_
  refine r_iconst (v := nI 0) (q := 88) dX5_reset_87 (by decide) rfl ?_
  refine r_cV (q := 91) (As := [.int _, .int _]) wc_X5_72 rfl im_X2_fill se_X2_fill (h_79.row (by decide)) rfl rfl (Nat.le_of_ble_eq_true rfl) (Nat.le_of_eq (Nat.zero_add _)) (Nat.le_of_eq (Nat.zero_add _)) dX5_reset_88 rfl rfl (ta_fill h_79 (by decide) (by decide) rfl (by decide) fun M_88 h_88 => ?_)
  refine r_aload_n (q := 92) dX5_reset_91 rfl rfl ?_
  refine r_get (q := 95) (kk := 9) h_88.1 rfl wi_RX5 (by decide) rfl fk_X5_44 rfl dX5_reset_92 rfl ?_
  refine r_iconst (v := nI 4) (q := 96) dX5_reset_95 (by decide) rfl ?_
  refine r_iconst (v := nI 0) (q := 97) dX5_reset_96 (by decide) rfl ?_
  refine r_cV (q := 100) (As := [.int _, .int _]) wc_X5_72 rfl im_X2_fill se_X2_fill (h_88.row (by decide)) rfl rfl (Nat.le_of_ble_eq_true rfl) (Nat.le_of_eq (Nat.zero_add _)) (Nat.le_of_eq (Nat.zero_add _)) dX5_reset_97 rfl rfl (ta_fill h_88 (by decide) (by decide) rfl (by decide) fun M_97 h_97 => ?_)
  refine r_aload_n (q := 101) dX5_reset_100 rfl rfl ?_
  refine r_get (q := 104) (kk := 10) h_97.1 rfl wi_RX5 (by decide) rfl fk_X5_47 rfl dX5_reset_101 rfl ?_
  refine r_iconst (v := nI 4) (q := 105) dX5_reset_104 (by decide) rfl ?_
  refine r_iconst (v := nI 0) (q := 106) dX5_reset_105 (by decide) rfl ?_
  refine r_cV (q := 109) (As := [.int _, .int _]) wc_X5_72 rfl im_X2_fill se_X2_fill (h_97.row (by decide)) rfl rfl (Nat.le_of_ble_eq_true rfl) (Nat.le_of_eq (Nat.zero_add _)) (Nat.le_of_eq (Nat.zero_add _)) dX5_reset_106 rfl rfl (ta_fill h_97 (by decide) (by decide) rfl (by decide) fun M_106 h_106 => ?_)
  refine r_aload_n (q := 110) dX5_reset_109 rfl rfl ?_
  refine r_get (q := 113) (kk := 11) h_106.1 rfl wi_RX5 (by decide) rfl fk_X5_50 rfl dX5_reset_110 rfl ?_
  refine r_iconst (v := nI 0) (q := 114) dX5_reset_113 (by decide) rfl ?_
  refine r_iconst (v := nI 0) (q := 115) dX5_reset_114 (by decide) rfl ?_
  refine r_cV (q := 118) (As := [.int _, .int _]) wc_X5_72 rfl im_X2_fill se_X2_fill (h_106.row (by decide)) rfl rfl (Nat.le_of_ble_eq_true rfl) (Nat.le_of_eq (Nat.zero_add _)) (Nat.le_of_eq (Nat.zero_add _)) dX5_reset_115 rfl rfl (ta_fill h_106 (by decide) (by decide) rfl (by decide) fun M_115 h_115 => ?_)
  refine r_aload_n (q := 119) dX5_reset_118 rfl rfl ?_
  refine r_get (q := 122) (kk := 12) h_115.1 rfl wi_RX5 (by decide) rfl fk_X5_53 rfl dX5_reset_119 rfl ?_
  refine r_iconst (v := nI 0) (q := 123) dX5_reset_122 (by decide) rfl ?_
  refine r_iconst (v := nI 0) (q := 124) dX5_reset_123 (by decide) rfl ?_
  refine r_cV (q := 127) (As := [.int _, .int _]) wc_X5_72 rfl im_X2_fill se_X2_fill (h_115.row (by decide)) rfl rfl (Nat.le_of_ble_eq_true rfl) (Nat.le_of_eq (Nat.zero_add _)) (Nat.le_of_eq (Nat.zero_add _)) dX5_reset_124 rfl rfl (ta_fill h_115 (by decide) (by decide) rfl (by decide) fun M_124 h_124 => ?_)
  refine r_aload_n (q := 128) dX5_reset_127 rfl rfl ?_
  refine r_iconst (v := nI 0) (q := 129) dX5_reset_128 (by decide) rfl ?_
  refine r_put' (q := 132) (kk := 13) (ty0 := tyX5) h_124.1 rfl wi_RX5 tyX5_ok nmX5 (by decide) (Or.inl rfl) rfl fk_X5_56 rfl rfl (Nat.le_of_ble_eq_true rfl) dX5_reset_129 rfl fun M_129 hM hO => ?_
  have h_129 := h_124.setI (j := 0) hM hO
  refine r_aload_n (q := 133) dX5_reset_132 rfl rfl ?_
  refine r_iconst (v := nI 0) (q := 134) dX5_reset_133 (by decide) rfl ?_
  refine r_put' (q := 137) (kk := 14) (ty0 := tyX5) h_129.1 rfl wi_RX5 tyX5_ok nmX5 (by decide) (Or.inl rfl) rfl fk_X5_60 rfl rfl (Nat.le_of_ble_eq_true rfl) dX5_reset_134 rfl fun M_134 hM hO => ?_
  have h_134 := h_129.setI (j := 1) hM hO
  refine r_aload_n (q := 138) dX5_reset_137 rfl rfl ?_
  refine r_iconst (v := nI 0) (q := 139) dX5_reset_138 (by decide) rfl ?_
  refine r_put' (q := 142) (kk := 15) (ty0 := tyX5) h_134.1 rfl wi_RX5 tyX5_ok nmX5 (by decide) (Or.inl rfl) rfl fk_X5_63 rfl rfl (Nat.le_of_ble_eq_true rfl) dX5_reset_139 rfl fun M_139 hM hO => ?_
  have h_139 := h_134.setI (j := 2) hM hO
  refine r_aload_n (q := 143) dX5_reset_142 rfl rfl ?_
  refine r_iconst (v := nI 0) (q := 144) dX5_reset_143 (by decide) rfl ?_
  refine r_put' (q := 147) (kk := 16) (ty0 := tyX5) h_139.1 rfl wi_RX5 tyX5_ok nmX5 (by decide) (Or.inl rfl) rfl fk_X5_66 rfl rfl (Nat.le_of_ble_eq_true rfl) dX5_reset_144 rfl fun M_144 hM hO => ?_
  have h_144 := h_139.setI (j := 3) hM hO
  refine r_vret dX5_reset_147 ?_
  refine hQ _ (h_144.cong (fun b hb => ?_) (fun j hj => ?_))
  · have h2 : wLen a 0 = 7 ∧ wLen a 1 = 7 ∧ wLen a 2 = 7 ∧ wLen a 3 = 7 ∧ wLen a 4 = 7 ∧ wLen a 5 = 7 ∧ wLen a 6 = 7 ∧ wLen a 7 = 7 ∧ wLen a 8 = 4 ∧ wLen a 9 = 4 ∧ wLen a 10 = 4 := by simp [wLen, ha]
    have hc : b = 0 ∨ b = 1 ∨ b = 2 ∨ b = 3 ∨ b = 4 ∨ b = 5 ∨ b = 6 ∨ b = 7 ∨ b = 8 ∨ b = 9 ∨ b = 10 ∨ b = 11 ∨ b = 12 := by omega
    rcases hc with rfl | rfl | rfl | rfl | rfl | rfl | rfl | rfl | rfl | rfl | rfl | rfl | rfl <;> simp [s0, uR_1, uI_1, h2]
  · have hc : j = 0 ∨ j = 1 ∨ j = 2 ∨ j = 3 := by omega
    rcases hc with rfl | rfl | rfl | rfl <;> simp [s0, uR_2, uI_2]
/-- rows made so far, of the object O -/
def RI (G : En) (O : Ob) (a : Nat) (L : List (Nat × Nat)) (ρ M : Me) : Prop := (∀ b, b < L.length → M (2, a, b) = some ((L.getD b (0, 0)).1, .inr (3, [.ref (L.getD b (0, 0)).2, .int (nI 0)])) ∧ M (3, a, b) = some ((L.getD b (0, 0)).2, .inl (G.2.2.1 0, wLen a b, .inl fun _ => 0))) ∧ (∀ b, L.length ≤ b → M (2, a, b) = none ∧ M (3, a, b) = none) ∧ ∀ o : Ob, o ≠ O → (o.1 = 2 ∨ o.1 = 3 → o.2.1 ≠ a) → M o = ρ o
theorem RI.put {O : Ob} {L : List (Nat × Nat)} (h : RI G O a L ρ M) (h2 : O.1 ≠ 2) (h3 : O.1 ≠ 3) (hO : ∀ x, x ≠ O → M' x = M x) : RI G O a L ρ M' := by
  have e2 : ∀ b, M' (2, a, b) = M (2, a, b) := fun b => hO _ (fun e => h2 (by rw [← e]))
  have e3 : ∀ b, M' (3, a, b) = M (3, a, b) := fun b => hO _ (fun e => h3 (by rw [← e]))
  exact ⟨fun b hb => ⟨(e2 b).trans (h.1 b hb).1, (e3 b).trans (h.1 b hb).2⟩, fun b hb => ⟨(e2 b).trans (h.2.1 b hb).1, (e3 b).trans (h.2.1 b hb).2⟩, fun o h0 h1 => (hO o h0).trans (h.2.2 o h0 h1)⟩
theorem gD_last {L : List (Nat × Nat)} {s : Nat × Nat} : (L ++ [s]).getD L.length (0, 0) = s := by
  rw [List.getD_eq_getElem?_getD, List.getElem?_append_right (Nat.le_refl _), Nat.sub_self]; rfl
theorem gD_app {L : List (Nat × Nat)} {s : Nat × Nat} {i : Nat} (h : i < L.length) : (L ++ [s]).getD i (0, 0) = L.getD i (0, 0) := by
  rw [List.getD_eq_getElem?_getD, List.getD_eq_getElem?_getD, List.getElem?_append_left h]
theorem RI.row {O : Ob} {L : List (Nat × Nat)} {r ad z : Nat} {e : Nat × va_E} (h : RI G O a L ρ M) (h1 : M' (2, a, L.length) = some (r, .inr (3, [.ref ad, .int (nI 0)]))) (h2 : M' (3, a, L.length) = some (ad, .inl (G.2.2.1 0, z, .inl fun _ => 0))) (h3 : ∀ o : Ob, o ≠ (2, a, L.length) → o ≠ (3, a, L.length) → M' o = (if o = (2, a, L.length) then some e else M o)) (hz : z = wLen a L.length) : RI G O a (L ++ [(r, ad)]) ρ M' := by
  have g : ∀ o : Ob, o ≠ (2, a, L.length) → o ≠ (3, a, L.length) → M' o = M o := fun o a b => (h3 o a b).trans (if_neg a)
  have g2 : ∀ b, b ≠ L.length → M' (2, a, b) = M (2, a, b) := fun b hb => g _ (fun e => hb (by simpa using e)) (by simp)
  have g3 : ∀ b, b ≠ L.length → M' (3, a, b) = M (3, a, b) := fun b hb => g _ (by simp) (fun e => hb (by simpa using e))
  refine ⟨fun b hb => ?_, fun b hb => ?_, fun o h0 hx => ?_⟩
  · rw [List.length_append] at hb
    replace hb : b < L.length + 1 := hb
    by_cases e : b = L.length
    · subst e
      rw [gD_last]; exact ⟨h1, by rw [h2, hz]⟩
    · rw [gD_app (by omega), g2 b e, g3 b e]; exact h.1 b (by omega)
  · rw [List.length_append] at hb
    replace hb : L.length + 1 ≤ b := hb
    rw [g2 b (by omega), g3 b (by omega)]; exact h.2.1 b (by omega)
  · rw [g o (fun e => hx (Or.inl (by rw [e])) (by rw [e])) (fun e => hx (Or.inr (by rw [e])) (by rw [e]))]; exact h.2.2 o h0 hx
theorem v2_ok : ∀ j, j < 2 → defaultValue (tyX2 j) = vp_V [.null, .int 0] j
  | 0, _ => rfl
  | 1, _ => rfl
theorem is_X2 : lw_tbl[139]? = some (.instantiable RX2 2) := by decide +kernel
theorem ni_X2 : lw_tbl[93]? = some (.initialized RX2) := by decide +kernel
def s00 : St := (fun _ => [], fun _ => 0)
/-- addresses by lists -/
def lmS (s : Nat) (L : List (Nat × Nat)) : Ob → Nat := fun o => if o.1 = 2 then (L.getD o.2.2 (0, 0)).1 else if o.1 = 3 then (L.getD o.2.2 (0, 0)).2 else s
theorem RI.rw {O : Ob} {L : List (Nat × Nat)} {s : Nat} (h : RI G O a L ρ M) (hb : b < L.length) : RW G (lmS s L) a b [] M :=
  ⟨(h.1 b hb).1, Nat.zero_le _, fun x hx => absurd hx List.not_mem_nil, fun _ => 0, (h.1 b hb).2, fun j hj => absurd hj (Nat.not_lt_zero j)⟩
theorem cl_X5_Row : lw_tbl[138]? = some (.classLink RX5 9 RX2) := by decide +kernel
theorem cl_X1_Row : lw_tbl[253]? = some (.classLink RX1 9 RX2) := by decide +kernel
theorem cl_X6_Row : lw_tbl[283]? = some (.classLink RX6 9 RX2) := by decide +kernel
theorem s_X5_init {s : Nat} (hM : M (1, a, 0) = some (s, .inr (4, [.null, .null, .null, .null, .null, .null, .null, .null, .null, .null, .null, .null, .null, .int 0, .int 0, .int 0, .int 0]))) (hn : ∀ b, M (2, a, b) = none ∧ M (3, a, b) = none) (ha : a < 11) (hQ : ∀ M' L, SA G (lmS s L) a M s0 M' → Q none M') : MS G yX5_init cX5_init 1 none (d + 3) 26 381 [.ref s] M Q QX := by
  refine MS.of (by decide) (by simp [Value.category]) (Nat.le_of_ble_eq_true rfl) ?_
  show AW _ (_, _, _, _, _, _, _, _, _) _ _ _ _ [some _] _ _
  have hI : RI G (1, a, 0) a [] M M := ⟨fun b hb => absurd hb (Nat.not_lt_zero b), fun b _ => hn b, fun _ _ _ => rfl⟩
  refine r_aload_n (q := 1) dX5_init_0 rfl rfl ?_
  refine r_objInit (q := 4) oi_X5 dX5_init_1 rfl (Nat.le_of_ble_eq_true rfl) ?_
  refine r_aload_n (q := 5) dX5_init_4 rfl rfl ?_
  refine r_new (ci := 3) (k := 25) (n := 379) (q := 8) (2, a, 0) (hI.2.1 0 (Nat.le_of_ble_eq_true rfl)).1 rfl wi_RX2 tyX2_ok cl_X5_Row is_X2 ni_X2 v2_ok dX5_init_5 rfl fun r0 => ?_
  refine r_dup (q := 9) dX5_init_8 rfl rfl ?_
  refine r_bipush (v := nI 7) (q := 11) dX5_init_9 (by decide) rfl ?_
  refine r_cI (q := 14) (As := [.int _]) (k' := 1) (n' := 7) (k2 := 24) (n2 := 372) wc_X5_11 im_X2_init rfl rfl (Nat.le_of_ble_eq_true rfl) (by decide) (by decide) dX5_init_11 rfl rfl (s_X2_init (if_pos rfl) ((if_neg (by simp)).trans (hI.2.1 0 (Nat.le_of_ble_eq_true rfl)).2) (by decide) fun M0 d0 h1 h2 h3 => ?_)
  replace hI := hI.row (z := 7) h1 h2 h3 (by simp [wLen, ha])
  refine r_put' (q := 17) (kk := 0) (ty0 := tyX5) ((h3 _ (by simp) (by simp)).trans ((if_neg (by simp)).trans hM)) rfl wi_RX5 tyX5_ok nmX5 (by decide) (Or.inr ⟨rfl, rfl⟩) rfl fk_X5_14 rfl rfl (Nat.le_of_ble_eq_true rfl) dX5_init_14 rfl fun N14 hS14 hO => ?_
  replace hS14 : N14 (1, a, 0) = some (s, .inr (4, [.ref r0, .null, .null, .null, .null, .null, .null, .null, .null, .null, .null, .null, .null, .int 0, .int 0, .int 0, .int 0])) := hS14
  replace hI := hI.put (by simp) (by simp) hO
  refine r_aload_n (q := 18) dX5_init_17 rfl rfl ?_
  refine r_new (ci := 3) (k := 23) (n := 370) (q := 21) (2, a, 1) (hI.2.1 1 (Nat.le_of_ble_eq_true rfl)).1 rfl wi_RX2 tyX2_ok cl_X5_Row is_X2 ni_X2 v2_ok dX5_init_18 rfl fun r1 => ?_
  refine r_dup (q := 22) dX5_init_21 rfl rfl ?_
  refine r_bipush (v := nI 7) (q := 24) dX5_init_22 (by decide) rfl ?_
  refine r_cI (q := 27) (As := [.int _]) (k' := 1) (n' := 7) (k2 := 22) (n2 := 363) wc_X5_11 im_X2_init rfl rfl (Nat.le_of_ble_eq_true rfl) (by decide) (by decide) dX5_init_24 rfl rfl (s_X2_init (if_pos rfl) ((if_neg (by simp)).trans (hI.2.1 1 (Nat.le_of_ble_eq_true rfl)).2) (by decide) fun M1 d1 h1 h2 h3 => ?_)
  replace hI := hI.row (z := 7) h1 h2 h3 (by simp [wLen, ha])
  refine r_put' (q := 30) (kk := 1) (ty0 := tyX5) ((h3 _ (by simp) (by simp)).trans ((if_neg (by simp)).trans hS14)) rfl wi_RX5 tyX5_ok nmX5 (by decide) (Or.inr ⟨rfl, rfl⟩) rfl fk_X5_20 rfl rfl (Nat.le_of_ble_eq_true rfl) dX5_init_27 rfl fun N27 hS27 hO => ?_
  replace hS27 : N27 (1, a, 0) = some (s, .inr (4, [.ref r0, .ref r1, .null, .null, .null, .null, .null, .null, .null, .null, .null, .null, .null, .int 0, .int 0, .int 0, .int 0])) := hS27
  replace hI := hI.put (by simp) (by simp) hO
  refine r_aload_n (q := 31) dX5_init_30 rfl rfl ?_
  refine r_new (ci := 3) (k := 21) (n := 361) (q := 34) (2, a, 2) (hI.2.1 2 (Nat.le_of_ble_eq_true rfl)).1 rfl wi_RX2 tyX2_ok cl_X5_Row is_X2 ni_X2 v2_ok dX5_init_31 rfl fun r2 => ?_
  refine r_dup (q := 35) dX5_init_34 rfl rfl ?_
  refine r_bipush (v := nI 7) (q := 37) dX5_init_35 (by decide) rfl ?_
  refine r_cI (q := 40) (As := [.int _]) (k' := 1) (n' := 7) (k2 := 20) (n2 := 354) wc_X5_11 im_X2_init rfl rfl (Nat.le_of_ble_eq_true rfl) (by decide) (by decide) dX5_init_37 rfl rfl (s_X2_init (if_pos rfl) ((if_neg (by simp)).trans (hI.2.1 2 (Nat.le_of_ble_eq_true rfl)).2) (by decide) fun M2 d2 h1 h2 h3 => ?_)
  replace hI := hI.row (z := 7) h1 h2 h3 (by simp [wLen, ha])
  refine r_put' (q := 43) (kk := 2) (ty0 := tyX5) ((h3 _ (by simp) (by simp)).trans ((if_neg (by simp)).trans hS27)) rfl wi_RX5 tyX5_ok nmX5 (by decide) (Or.inr ⟨rfl, rfl⟩) rfl fk_X5_23 rfl rfl (Nat.le_of_ble_eq_true rfl) dX5_init_40 rfl fun N40 hS40 hO => ?_
  replace hS40 : N40 (1, a, 0) = some (s, .inr (4, [.ref r0, .ref r1, .ref r2, .null, .null, .null, .null, .null, .null, .null, .null, .null, .null, .int 0, .int 0, .int 0, .int 0])) := hS40
  replace hI := hI.put (by simp) (by simp) hO
  refine r_aload_n (q := 44) dX5_init_43 rfl rfl ?_
  refine r_new (ci := 3) (k := 19) (n := 352) (q := 47) (2, a, 3) (hI.2.1 3 (Nat.le_of_ble_eq_true rfl)).1 rfl wi_RX2 tyX2_ok cl_X5_Row is_X2 ni_X2 v2_ok dX5_init_44 rfl fun r3 => ?_
  refine r_dup (q := 48) dX5_init_47 rfl rfl ?_
  refine r_bipush (v := nI 7) (q := 50) dX5_init_48 (by decide) rfl ?_
  refine r_cI (q := 53) (As := [.int _]) (k' := 1) (n' := 7) (k2 := 18) (n2 := 345) wc_X5_11 im_X2_init rfl rfl (Nat.le_of_ble_eq_true rfl) (by decide) (by decide) dX5_init_50 rfl rfl (s_X2_init (if_pos rfl) ((if_neg (by simp)).trans (hI.2.1 3 (Nat.le_of_ble_eq_true rfl)).2) (by decide) fun M3 d3 h1 h2 h3 => ?_)
  replace hI := hI.row (z := 7) h1 h2 h3 (by simp [wLen, ha])
  refine r_put' (q := 56) (kk := 3) (ty0 := tyX5) ((h3 _ (by simp) (by simp)).trans ((if_neg (by simp)).trans hS40)) rfl wi_RX5 tyX5_ok nmX5 (by decide) (Or.inr ⟨rfl, rfl⟩) rfl fk_X5_26 rfl rfl (Nat.le_of_ble_eq_true rfl) dX5_init_53 rfl fun N53 hS53 hO => ?_
  replace hS53 : N53 (1, a, 0) = some (s, .inr (4, [.ref r0, .ref r1, .ref r2, .ref r3, .null, .null, .null, .null, .null, .null, .null, .null, .null, .int 0, .int 0, .int 0, .int 0])) := hS53
  replace hI := hI.put (by simp) (by simp) hO
  refine r_aload_n (q := 57) dX5_init_56 rfl rfl ?_
  refine r_new (ci := 3) (k := 17) (n := 343) (q := 60) (2, a, 4) (hI.2.1 4 (Nat.le_of_ble_eq_true rfl)).1 rfl wi_RX2 tyX2_ok cl_X5_Row is_X2 ni_X2 v2_ok dX5_init_57 rfl fun r4 => ?_
  refine r_dup (q := 61) dX5_init_60 rfl rfl ?_
  refine r_bipush (v := nI 7) (q := 63) dX5_init_61 (by decide) rfl ?_
  refine r_cI (q := 66) (As := [.int _]) (k' := 1) (n' := 7) (k2 := 16) (n2 := 336) wc_X5_11 im_X2_init rfl rfl (Nat.le_of_ble_eq_true rfl) (by decide) (by decide) dX5_init_63 rfl rfl (s_X2_init (if_pos rfl) ((if_neg (by simp)).trans (hI.2.1 4 (Nat.le_of_ble_eq_true rfl)).2) (by decide) fun M4 d4 h1 h2 h3 => ?_)
  replace hI := hI.row (z := 7) h1 h2 h3 (by simp [wLen, ha])
  refine r_put' (q := 69) (kk := 4) (ty0 := tyX5) ((h3 _ (by simp) (by simp)).trans ((if_neg (by simp)).trans hS53)) rfl wi_RX5 tyX5_ok nmX5 (by decide) (Or.inr ⟨rfl, rfl⟩) rfl fk_X5_29 rfl rfl (Nat.le_of_ble_eq_true rfl) dX5_init_66 rfl fun N66 hS66 hO => ?_
  replace hS66 : N66 (1, a, 0) = some (s, .inr (4, [.ref r0, .ref r1, .ref r2, .ref r3, .ref r4, .null, .null, .null, .null, .null, .null, .null, .null, .int 0, .int 0, .int 0, .int 0])) := hS66
  replace hI := hI.put (by simp) (by simp) hO
  refine r_aload_n (q := 70) dX5_init_69 rfl rfl ?_
  refine r_new (ci := 3) (k := 15) (n := 334) (q := 73) (2, a, 5) (hI.2.1 5 (Nat.le_of_ble_eq_true rfl)).1 rfl wi_RX2 tyX2_ok cl_X5_Row is_X2 ni_X2 v2_ok dX5_init_70 rfl fun r5 => ?_
  refine r_dup (q := 74) dX5_init_73 rfl rfl ?_
  refine r_bipush (v := nI 7) (q := 76) dX5_init_74 (by decide) rfl ?_
  refine r_cI (q := 79) (As := [.int _]) (k' := 1) (n' := 7) (k2 := 14) (n2 := 327) wc_X5_11 im_X2_init rfl rfl (Nat.le_of_ble_eq_true rfl) (by decide) (by decide) dX5_init_76 rfl rfl (s_X2_init (if_pos rfl) ((if_neg (by simp)).trans (hI.2.1 5 (Nat.le_of_ble_eq_true rfl)).2) (by decide) fun M5 d5 h1 h2 h3 => ?_)
  replace hI := hI.row (z := 7) h1 h2 h3 (by simp [wLen, ha])
  refine r_put' (q := 82) (kk := 5) (ty0 := tyX5) ((h3 _ (by simp) (by simp)).trans ((if_neg (by simp)).trans hS66)) rfl wi_RX5 tyX5_ok nmX5 (by decide) (Or.inr ⟨rfl, rfl⟩) rfl fk_X5_32 rfl rfl (Nat.le_of_ble_eq_true rfl) dX5_init_79 rfl fun N79 hS79 hO => ?_
  replace hS79 : N79 (1, a, 0) = some (s, .inr (4, [.ref r0, .ref r1, .ref r2, .ref r3, .ref r4, .ref r5, .null, .null, .null, .null, .null, .null, .null, .int 0, .int 0, .int 0, .int 0])) := hS79
  replace hI := hI.put (by simp) (by simp) hO
  refine r_aload_n (q := 83) dX5_init_82 rfl rfl ?_
  refine r_new (ci := 3) (k := 13) (n := 325) (q := 86) (2, a, 6) (hI.2.1 6 (Nat.le_of_ble_eq_true rfl)).1 rfl wi_RX2 tyX2_ok cl_X5_Row is_X2 ni_X2 v2_ok dX5_init_83 rfl fun r6 => ?_
  refine r_dup (q := 87) dX5_init_86 rfl rfl ?_
  refine r_bipush (v := nI 7) (q := 89) dX5_init_87 (by decide) rfl ?_
  refine r_cI (q := 92) (As := [.int _]) (k' := 1) (n' := 7) (k2 := 12) (n2 := 318) wc_X5_11 im_X2_init rfl rfl (Nat.le_of_ble_eq_true rfl) (by decide) (by decide) dX5_init_89 rfl rfl (s_X2_init (if_pos rfl) ((if_neg (by simp)).trans (hI.2.1 6 (Nat.le_of_ble_eq_true rfl)).2) (by decide) fun M6 d6 h1 h2 h3 => ?_)
  replace hI := hI.row (z := 7) h1 h2 h3 (by simp [wLen, ha])
  refine r_put' (q := 95) (kk := 6) (ty0 := tyX5) ((h3 _ (by simp) (by simp)).trans ((if_neg (by simp)).trans hS79)) rfl wi_RX5 tyX5_ok nmX5 (by decide) (Or.inr ⟨rfl, rfl⟩) rfl fk_X5_35 rfl rfl (Nat.le_of_ble_eq_true rfl) dX5_init_92 rfl fun N92 hS92 hO => ?_
  replace hS92 : N92 (1, a, 0) = some (s, .inr (4, [.ref r0, .ref r1, .ref r2, .ref r3, .ref r4, .ref r5, .ref r6, .null, .null, .null, .null, .null, .null, .int 0, .int 0, .int 0, .int 0])) := hS92
  replace hI := hI.put (by simp) (by simp) hO
  refine r_aload_n (q := 96) dX5_init_95 rfl rfl ?_
  refine r_new (ci := 3) (k := 11) (n := 316) (q := 99) (2, a, 7) (hI.2.1 7 (Nat.le_of_ble_eq_true rfl)).1 rfl wi_RX2 tyX2_ok cl_X5_Row is_X2 ni_X2 v2_ok dX5_init_96 rfl fun r7 => ?_
  refine r_dup (q := 100) dX5_init_99 rfl rfl ?_
  refine r_bipush (v := nI 7) (q := 102) dX5_init_100 (by decide) rfl ?_
  refine r_cI (q := 105) (As := [.int _]) (k' := 1) (n' := 7) (k2 := 10) (n2 := 309) wc_X5_11 im_X2_init rfl rfl (Nat.le_of_ble_eq_true rfl) (by decide) (by decide) dX5_init_102 rfl rfl (s_X2_init (if_pos rfl) ((if_neg (by simp)).trans (hI.2.1 7 (Nat.le_of_ble_eq_true rfl)).2) (by decide) fun M7 d7 h1 h2 h3 => ?_)
  replace hI := hI.row (z := 7) h1 h2 h3 (by simp [wLen, ha])
  refine r_put' (q := 108) (kk := 7) (ty0 := tyX5) ((h3 _ (by simp) (by simp)).trans ((if_neg (by simp)).trans hS92)) rfl wi_RX5 tyX5_ok nmX5 (by decide) (Or.inr ⟨rfl, rfl⟩) rfl fk_X5_38 rfl rfl (Nat.le_of_ble_eq_true rfl) dX5_init_105 rfl fun N105 hS105 hO => ?_
  replace hS105 : N105 (1, a, 0) = some (s, .inr (4, [.ref r0, .ref r1, .ref r2, .ref r3, .ref r4, .ref r5, .ref r6, .ref r7, .null, .null, .null, .null, .null, .int 0, .int 0, .int 0, .int 0])) := hS105
  replace hI := hI.put (by simp) (by simp) hO
  refine r_aload_n (q := 109) dX5_init_108 rfl rfl ?_
  refine r_new (ci := 3) (k := 9) (n := 307) (q := 112) (2, a, 8) (hI.2.1 8 (Nat.le_of_ble_eq_true rfl)).1 rfl wi_RX2 tyX2_ok cl_X5_Row is_X2 ni_X2 v2_ok dX5_init_109 rfl fun r8 => ?_
  refine r_dup (q := 113) dX5_init_112 rfl rfl ?_
  refine r_iconst (v := nI 4) (q := 114) dX5_init_113 (by decide) rfl ?_
  refine r_cI (q := 117) (As := [.int _]) (k' := 1) (n' := 4) (k2 := 8) (n2 := 303) wc_X5_11 im_X2_init rfl rfl (Nat.le_of_ble_eq_true rfl) (by decide) (by decide) dX5_init_114 rfl rfl (s_X2_init (if_pos rfl) ((if_neg (by simp)).trans (hI.2.1 8 (Nat.le_of_ble_eq_true rfl)).2) (by decide) fun M8 d8 h1 h2 h3 => ?_)
  replace hI := hI.row (z := 4) h1 h2 h3 (by simp [wLen, ha])
  refine r_put' (q := 120) (kk := 8) (ty0 := tyX5) ((h3 _ (by simp) (by simp)).trans ((if_neg (by simp)).trans hS105)) rfl wi_RX5 tyX5_ok nmX5 (by decide) (Or.inr ⟨rfl, rfl⟩) rfl fk_X5_41 rfl rfl (Nat.le_of_ble_eq_true rfl) dX5_init_117 rfl fun N117 hS117 hO => ?_
  replace hS117 : N117 (1, a, 0) = some (s, .inr (4, [.ref r0, .ref r1, .ref r2, .ref r3, .ref r4, .ref r5, .ref r6, .ref r7, .ref r8, .null, .null, .null, .null, .int 0, .int 0, .int 0, .int 0])) := hS117
  replace hI := hI.put (by simp) (by simp) hO
  refine r_aload_n (q := 121) dX5_init_120 rfl rfl ?_
  refine r_new (ci := 3) (k := 7) (n := 301) (q := 124) (2, a, 9) (hI.2.1 9 (Nat.le_of_ble_eq_true rfl)).1 rfl wi_RX2 tyX2_ok cl_X5_Row is_X2 ni_X2 v2_ok dX5_init_121 rfl fun r9 => ?_
  refine r_dup (q := 125) dX5_init_124 rfl rfl ?_
  refine r_iconst (v := nI 4) (q := 126) dX5_init_125 (by decide) rfl ?_
  refine r_cI (q := 129) (As := [.int _]) (k' := 1) (n' := 4) (k2 := 6) (n2 := 297) wc_X5_11 im_X2_init rfl rfl (Nat.le_of_ble_eq_true rfl) (by decide) (by decide) dX5_init_126 rfl rfl (s_X2_init (if_pos rfl) ((if_neg (by simp)).trans (hI.2.1 9 (Nat.le_of_ble_eq_true rfl)).2) (by decide) fun M9 d9 h1 h2 h3 => ?_)
  replace hI := hI.row (z := 4) h1 h2 h3 (by simp [wLen, ha])
  refine r_put' (q := 132) (kk := 9) (ty0 := tyX5) ((h3 _ (by simp) (by simp)).trans ((if_neg (by simp)).trans hS117)) rfl wi_RX5 tyX5_ok nmX5 (by decide) (Or.inr ⟨rfl, rfl⟩) rfl fk_X5_44 rfl rfl (Nat.le_of_ble_eq_true rfl) dX5_init_129 rfl fun N129 hS129 hO => ?_
  replace hS129 : N129 (1, a, 0) = some (s, .inr (4, [.ref r0, .ref r1, .ref r2, .ref r3, .ref r4, .ref r5, .ref r6, .ref r7, .ref r8, .ref r9, .null, .null, .null, .int 0, .int 0, .int 0, .int 0])) := hS129
  replace hI := hI.put (by simp) (by simp) hO
  refine r_aload_n (q := 133) dX5_init_132 rfl rfl ?_
  refine r_new (ci := 3) (k := 5) (n := 295) (q := 136) (2, a, 10) (hI.2.1 10 (Nat.le_of_ble_eq_true rfl)).1 rfl wi_RX2 tyX2_ok cl_X5_Row is_X2 ni_X2 v2_ok dX5_init_133 rfl fun r10 => ?_
  refine r_dup (q := 137) dX5_init_136 rfl rfl ?_
  refine r_iconst (v := nI 4) (q := 138) dX5_init_137 (by decide) rfl ?_
  refine r_cI (q := 141) (As := [.int _]) (k' := 1) (n' := 4) (k2 := 4) (n2 := 291) wc_X5_11 im_X2_init rfl rfl (Nat.le_of_ble_eq_true rfl) (by decide) (by decide) dX5_init_138 rfl rfl (s_X2_init (if_pos rfl) ((if_neg (by simp)).trans (hI.2.1 10 (Nat.le_of_ble_eq_true rfl)).2) (by decide) fun M10 d10 h1 h2 h3 => ?_)
  replace hI := hI.row (z := 4) h1 h2 h3 (by simp [wLen, ha])
  refine r_put' (q := 144) (kk := 10) (ty0 := tyX5) ((h3 _ (by simp) (by simp)).trans ((if_neg (by simp)).trans hS129)) rfl wi_RX5 tyX5_ok nmX5 (by decide) (Or.inr ⟨rfl, rfl⟩) rfl fk_X5_47 rfl rfl (Nat.le_of_ble_eq_true rfl) dX5_init_141 rfl fun N141 hS141 hO => ?_
  replace hS141 : N141 (1, a, 0) = some (s, .inr (4, [.ref r0, .ref r1, .ref r2, .ref r3, .ref r4, .ref r5, .ref r6, .ref r7, .ref r8, .ref r9, .ref r10, .null, .null, .int 0, .int 0, .int 0, .int 0])) := hS141
  replace hI := hI.put (by simp) (by simp) hO
  refine r_aload_n (q := 145) dX5_init_144 rfl rfl ?_
  refine r_new (ci := 3) (k := 3) (n := 289) (q := 148) (2, a, 11) (hI.2.1 11 (Nat.le_of_ble_eq_true rfl)).1 rfl wi_RX2 tyX2_ok cl_X5_Row is_X2 ni_X2 v2_ok dX5_init_145 rfl fun r11 => ?_
  refine r_dup (q := 149) dX5_init_148 rfl rfl ?_
  refine r_sipush (v := nI 147) (q := 152) dX5_init_149 (by decide) rfl ?_
  refine r_cI (q := 155) (As := [.int _]) (k' := 1) (n' := 147) (k2 := 2) (n2 := 142) wc_X5_11 im_X2_init rfl rfl (Nat.le_of_ble_eq_true rfl) (by decide) (by decide) dX5_init_152 rfl rfl (s_X2_init (if_pos rfl) ((if_neg (by simp)).trans (hI.2.1 11 (Nat.le_of_ble_eq_true rfl)).2) (by decide) fun M11 d11 h1 h2 h3 => ?_)
  replace hI := hI.row (z := 147) h1 h2 h3 (by simp [wLen, ha])
  refine r_put' (q := 158) (kk := 11) (ty0 := tyX5) ((h3 _ (by simp) (by simp)).trans ((if_neg (by simp)).trans hS141)) rfl wi_RX5 tyX5_ok nmX5 (by decide) (Or.inr ⟨rfl, rfl⟩) rfl fk_X5_50 rfl rfl (Nat.le_of_ble_eq_true rfl) dX5_init_155 rfl fun N155 hS155 hO => ?_
  replace hS155 : N155 (1, a, 0) = some (s, .inr (4, [.ref r0, .ref r1, .ref r2, .ref r3, .ref r4, .ref r5, .ref r6, .ref r7, .ref r8, .ref r9, .ref r10, .ref r11, .null, .int 0, .int 0, .int 0, .int 0])) := hS155
  replace hI := hI.put (by simp) (by simp) hO
  refine r_aload_n (q := 159) dX5_init_158 rfl rfl ?_
  refine r_new (ci := 3) (k := 1) (n := 140) (q := 162) (2, a, 12) (hI.2.1 12 (Nat.le_of_ble_eq_true rfl)).1 rfl wi_RX2 tyX2_ok cl_X5_Row is_X2 ni_X2 v2_ok dX5_init_159 rfl fun r12 => ?_
  refine r_dup (q := 163) dX5_init_162 rfl rfl ?_
  refine r_sipush (v := nI 140) (q := 166) dX5_init_163 (by decide) rfl ?_
  refine r_cI (q := 169) (As := [.int _]) (k' := 1) (n' := 140) (k2 := 0) (n2 := 0) wc_X5_11 im_X2_init rfl rfl (Nat.le_of_ble_eq_true rfl) (by decide) (by decide) dX5_init_166 rfl rfl (s_X2_init (if_pos rfl) ((if_neg (by simp)).trans (hI.2.1 12 (Nat.le_of_ble_eq_true rfl)).2) (by decide) fun M12 d12 h1 h2 h3 => ?_)
  replace hI := hI.row (z := 140) h1 h2 h3 (by simp [wLen, ha])
  refine r_put' (q := 172) (kk := 12) (ty0 := tyX5) ((h3 _ (by simp) (by simp)).trans ((if_neg (by simp)).trans hS155)) rfl wi_RX5 tyX5_ok nmX5 (by decide) (Or.inr ⟨rfl, rfl⟩) rfl fk_X5_53 rfl rfl (Nat.le_of_ble_eq_true rfl) dX5_init_169 rfl fun N169 hS169 hO => ?_
  replace hS169 : N169 (1, a, 0) = some (s, .inr (4, [.ref r0, .ref r1, .ref r2, .ref r3, .ref r4, .ref r5, .ref r6, .ref r7, .ref r8, .ref r9, .ref r10, .ref r11, .ref r12, .int 0, .int 0, .int 0, .int 0])) := hS169
  replace hI := hI.put (by simp) (by simp) hO
  refine r_aload_n (q := 173) dX5_init_172 rfl rfl ?_
  refine r_iconst (v := nI 0) (q := 174) dX5_init_173 (by decide) rfl ?_
  refine r_put' (q := 177) (kk := 13) (ty0 := tyX5) hS169 rfl wi_RX5 tyX5_ok nmX5 (by decide) (Or.inl rfl) rfl fk_X5_56 rfl rfl (Nat.le_of_ble_eq_true rfl) dX5_init_174 rfl fun N174 hS174 hO => ?_
  replace hS174 : N174 (1, a, 0) = some (s, .inr (4, [.ref r0, .ref r1, .ref r2, .ref r3, .ref r4, .ref r5, .ref r6, .ref r7, .ref r8, .ref r9, .ref r10, .ref r11, .ref r12, .int (nI 0), .int 0, .int 0, .int 0])) := hS174
  replace hI := hI.put (by simp) (by simp) hO
  refine r_aload_n (q := 178) dX5_init_177 rfl rfl ?_
  refine r_iconst (v := nI 0) (q := 179) dX5_init_178 (by decide) rfl ?_
  refine r_put' (q := 182) (kk := 14) (ty0 := tyX5) hS174 rfl wi_RX5 tyX5_ok nmX5 (by decide) (Or.inl rfl) rfl fk_X5_60 rfl rfl (Nat.le_of_ble_eq_true rfl) dX5_init_179 rfl fun N179 hS179 hO => ?_
  replace hS179 : N179 (1, a, 0) = some (s, .inr (4, [.ref r0, .ref r1, .ref r2, .ref r3, .ref r4, .ref r5, .ref r6, .ref r7, .ref r8, .ref r9, .ref r10, .ref r11, .ref r12, .int (nI 0), .int (nI 0), .int 0, .int 0])) := hS179
  replace hI := hI.put (by simp) (by simp) hO
  refine r_aload_n (q := 183) dX5_init_182 rfl rfl ?_
  refine r_iconst (v := nI 0) (q := 184) dX5_init_183 (by decide) rfl ?_
  refine r_put' (q := 187) (kk := 15) (ty0 := tyX5) hS179 rfl wi_RX5 tyX5_ok nmX5 (by decide) (Or.inl rfl) rfl fk_X5_63 rfl rfl (Nat.le_of_ble_eq_true rfl) dX5_init_184 rfl fun N184 hS184 hO => ?_
  replace hS184 : N184 (1, a, 0) = some (s, .inr (4, [.ref r0, .ref r1, .ref r2, .ref r3, .ref r4, .ref r5, .ref r6, .ref r7, .ref r8, .ref r9, .ref r10, .ref r11, .ref r12, .int (nI 0), .int (nI 0), .int (nI 0), .int 0])) := hS184
  replace hI := hI.put (by simp) (by simp) hO
  refine r_aload_n (q := 188) dX5_init_187 rfl rfl ?_
  refine r_iconst (v := nI 0) (q := 189) dX5_init_188 (by decide) rfl ?_
  refine r_put' (q := 192) (kk := 16) (ty0 := tyX5) hS184 rfl wi_RX5 tyX5_ok nmX5 (by decide) (Or.inl rfl) rfl fk_X5_66 rfl rfl (Nat.le_of_ble_eq_true rfl) dX5_init_189 rfl fun N189 hS189 hO => ?_
  replace hS189 : N189 (1, a, 0) = some (s, .inr (4, [.ref r0, .ref r1, .ref r2, .ref r3, .ref r4, .ref r5, .ref r6, .ref r7, .ref r8, .ref r9, .ref r10, .ref r11, .ref r12, .int (nI 0), .int (nI 0), .int (nI 0), .int (nI 0)])) := hS189
  replace hI := hI.put (by simp) (by simp) hO
  refine r_aload_n (q := 193) dX5_init_192 rfl rfl ?_
  have hA : SA G (lmS s [(r0, d0), (r1, d1), (r2, d2), (r3, d3), (r4, d4), (r5, d5), (r6, d6), (r7, d7), (r8, d8), (r9, d9), (r10, d10), (r11, d11), (r12, d12)]) a M s00 _ := ⟨hS189, fun b hb => hI.rw (s := s) hb, hI.2.2⟩
  refine r_cV (q := 196) (As := []) wc_X5_69 rfl im_X5_reset se_X5_reset hS189 rfl rfl (Nat.le_of_ble_eq_true rfl) (Nat.le_of_eq (Nat.zero_add _)) (Nat.le_of_eq (Nat.zero_add _)) dX5_init_193 rfl rfl (sa_X5_reset hA ha fun M9 h9 => ?_)
  refine r_vret dX5_init_196 ?_
  exact hQ M9 _ h9
end W93
