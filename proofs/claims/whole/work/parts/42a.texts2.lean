/-! THE CLASS ITSELF: lines of text, the strip as a text -/
section W42A
variable {G : En} {Λ : Ob → Nat} {ρ : Me} {σ : Sg} {M : Me} {d : Nat} {Q : Option Value → Me → Prop} {QX : String → Me → Prop} {t : List Nat} {c : Nat}
theorem x_appC0 (h : RX G Λ ρ (sT σ t c) M) (hρ : ρ (99, 0, 0) = none) (hc : c ≤ 14000) (hm : t.length + 1 ≤ c) {x : Nat} {v : Int32} (hv : v = nI x) (hx : x < 128) (hQ : ∀ M', RX G Λ ρ (sT σ (t ++ [x]) c) M' → Q (some (.ref (Λ (8, 0, 0)))) M') : MS G yJ4_append_cf468 cJ4_append_cf468 2 (some (.object "java/lang/StringBuilder")) (d + 5) 0 0 [.ref (Λ (8, 0, 0)), .int v] M Q QX := by
  have e := x_appC (d := d) (Q := Q) (QX := QX) h hρ (by omega) hv hx (fun M' h1 => hQ M' (by rw [show gCap (t.length + 1) c = c from if_pos hm] at h1; exact h1))
  rw [show kC (t.length + 1) c = 0 from if_pos hm, show nC (t.length + 1) c = 0 from if_pos hm] at e
  exact e
theorem x_appI0 (h : RX G Λ ρ (sT σ t c) M) (hρ : ρ (99, 0, 0) = none) (hc : c ≤ 14000) (hm : t.length + 2 ≤ c) {i : Nat} (hi : i < 100) (hQ : ∀ M', RX G Λ ρ (sT σ (t ++ digs i) c) M' → Q (some (.ref (Λ (8, 0, 0)))) M') : MS G yJ4_append_bf812 cJ4_append_bf812 2 (some (.object "java/lang/StringBuilder")) (d + 5) 0 0 [.ref (Λ (8, 0, 0)), .int (nI i)] M Q QX := by
  have hs := szI_le i
  have hm2 : t.length + szI i ≤ c := by omega
  have e := x_appI (d := d) (Q := Q) (QX := QX) h hρ (by omega) (by omega) hi (fun M' h1 => hQ M' (by rw [show gCap (t.length + szI i) c = c from if_pos hm2] at h1; exact h1))
  rw [show kC (t.length + szI i) c = 0 from if_pos hm2, show nC (t.length + szI i) c = 0 from if_pos hm2] at e
  exact e
theorem x_word0 {w : Nat} (h : RX G Λ ρ (sT σ t c) M) (hρ : ρ (99, 0, 0) = none) (hw : w < 448) (hc : c ≤ 14000) (hm : t.length + 6 ≤ c) (hQ : ∀ M', RX G Λ ρ (sT σ (t ++ wl w (w / 64)) c) M' → Q none M') : MS G yX8_writeWord cX8_writeWord 3 none (d + 6) 0 0 [.ref (Λ (0, 0, 0)), .int (nI w)] M Q QX := by
  have hm2 : t.length + w / 64 ≤ c := by omega
  have e := s_X8_writeWord (d := d) (Q := Q) (QX := QX) h hρ hw hc (by omega) (by omega) (fun M' h1 => hQ M' (by rw [show gCap (t.length + w / 64) c = c from if_pos hm2] at h1; exact h1))
  rw [show kC (t.length + w / 64) c = 0 from if_pos hm2, show nC (t.length + w / 64) c = 0 from if_pos hm2] at e
  exact e
theorem x_atN {a b i : Nat} (h : RX G Λ ρ (sT σ t c) M) (hr : wR a b = true) (hi : i < 2 ^ 31) (hQ : Q (some (.int (nI ((gR σ a b).getD i 0)))) M) : MS G yX2_at cX2_at 2 (some .int) d 0 0 [.ref (Λ (2, a, b)), .int (nI i)] M Q QX := s_atN (h.rw hr) hi hQ
def gHd1 (σ : Sg) (l : Nat) : List Nat := digs l ++ (if (gR σ 0 0).getD l 0 = 0 then [] else [58] ++ wl ((gR σ 0 0).getD l 0) ((gR σ 0 0).getD l 0 / 64))
def gMu (σ : Sg) (l : Nat) : List Nat := if (gR σ 0 4).getD l 0 = 0 then [] else [33] ++ digs ((gR σ 0 4).getD l 0)
def gTx (σ : Sg) (l : Nat) : List Nat := gHd1 σ l ++ [47] ++ digs ((gR σ 0 1).getD l 0) ++ [42] ++ digs ((gR σ 0 2).getD l 0) ++ gMu σ l
def qText (σ : Sg) (l : Int32) : An := if isL l = false then (1, 0) else (0, nI (gTx σ l.toNatClampNeg).length)
def qChar (t : List Nat) (i : Int32) : An := if i < 0 then (1, 0) else if nI t.length ≤ i then (1, 0) else (0, nI (t.getD i.toNatClampNeg 0))
def gStr (L : List Nat) : List Nat := L.flatMap fun s => wl (dD s) (dD s / 64)
theorem gStr_s {L : List Nat} {j : Nat} (h : j < L.length) : gStr (L.take (j + 1)) = gStr (L.take j) ++ wl (dD (L.getD j 0)) (dD (L.getD j 0) / 64) := by
  rw [take_s h, gStr, List.flatMap_append]; simp [gStr]
theorem gStr_le {L : List Nat} (j : Nat) : (gStr (L.take j)).length ≤ (gStr L).length := by
  conv => rhs; rw [← List.take_append_drop j L]
  rw [gStr, gStr, List.flatMap_append, List.length_append]
  omega
def cOk (c : Nat) : Prop := c = 16 ∨ c = 34 ∨ c = 70 ∨ c = 142 ∨ c = 286 ∨ c = 574 ∨ c = 1150
def pNn (c : Nat) : Nat := 2400 - 2 * c

def pKk (c : Nat) : Nat := if c < 34 then 6 else if c < 70 then 5 else if c < 142 then 4 else if c < 286 then 3 else if c < 574 then 2 else if c < 1150 then 1 else 0
theorem pot {m : Nat} (hc : cOk c) (hm : m ≤ 900) (h2 : m ≤ 2 * c + 2) : cOk (gCap m c) ∧ kC m c + pKk (gCap m c) ≤ pKk c ∧ nC m c + pNn (gCap m c) ≤ pNn c := by
  unfold gCap kC nC
  by_cases h : m ≤ c
  · simp only [if_pos h]
    exact ⟨hc, by omega, by omega⟩
  · simp only [if_neg h]
    rcases hc with rfl | rfl | rfl | rfl | rfl | rfl | rfl
    · exact ⟨by unfold cOk; decide, by decide, by decide⟩
    · exact ⟨by unfold cOk; decide, by decide, by decide⟩
    · exact ⟨by unfold cOk; decide, by decide, by decide⟩
    · exact ⟨by unfold cOk; decide, by decide, by decide⟩
    · exact ⟨by unfold cOk; decide, by decide, by decide⟩
    · exact ⟨by unfold cOk; decide, by decide, by decide⟩
    · omega
theorem cOk_b (hc : cOk c) : 16 ≤ c ∧ c ≤ 1150 := by rcases hc with rfl | rfl | rfl | rfl | rfl | rfl | rfl <;> decide
theorem s_X8_writeLine {l : Nat} (h : RX G Λ ρ (sT σ [] c) M) (hρ : ρ (99, 0, 0) = none) (hw : ∀ x ∈ gR σ 0 0, x < 448) (hp : ∀ x ∈ gR σ 0 1, x < 10) (hs : ∀ x ∈ gR σ 0 2, x < 21) (hm : ∀ x ∈ gR σ 0 4, x < 13) (hc : c ≤ 14000) (hc6 : 16 ≤ c) (hl : l < 7) (hQ : ∀ M', RX G Λ ρ (sT σ (gTx σ l) c) M' → Q none M')  : MS G yX8_writeLine cX8_writeLine 2 none (d + 7) 0 0 [.ref (Λ (0, 0, 0)), .int (nI l)] M Q QX := by
  have w9 : (gR σ 0 0).getD l 0 < 448 := getD_all (by decide) hw l
  have p9 : (gR σ 0 1).getD l 0 < 10 := getD_all (by decide) hp l
  have s9 : (gR σ 0 2).getD l 0 < 21 := getD_all (by decide) hs l
  have m9 : (gR σ 0 4).getD l 0 < 13 := getD_all (by decide) hm l
  have z1 := szI_le l
  have z2 : szI ((gR σ 0 1).getD l 0) = 1 := if_pos (by omega)
  have z3 := szI_le ((gR σ 0 2).getD l 0)
  have z0 : szI l = 1 := if_pos (by omega)
  have join : ∀ (M1 : Me) (t1 : List Nat), t1.length ≤ 8 → RX G Λ ρ (sT σ t1 c) M1 → (∀ M', RX G Λ ρ (sT σ (t1 ++ ([47] ++ digs ((gR σ 0 1).getD l 0) ++ [42] ++ digs ((gR σ 0 2).getD l 0) ++ gMu σ l)) c) M' → Q none M') → AW G (wX G yX8_writeLine cX8_writeLine 2 none 0 0 Q QX) (d + 7) 0 0 48 [some (.ref (Λ (0, 0, 0))), some (.int (nI l))] [] M1 := by
    intro M1 t1 ht1 h1 hQ1
    refine r_aload_n (q := 49) dX8_writeLine_48 rfl rfl ?_
    refine r_get (q := 52) (kk := 7) h1.x rfl wi_RX8 (by decide) rfl fk_X8_50 rfl dX8_writeLine_49 rfl ?_
    refine r_bipush (v := nI 47) (q := 54) dX8_writeLine_52 (by decide) rfl ?_
    refine r_cV (q := 57) (As := [.int _]) wc_X8_441 rfl im_J4_append_cf468 se_J4_append_cf468 h1.sb rfl rfl (Nat.le_of_ble_eq_true rfl) (Nat.le_of_eq (Nat.zero_add _)) (Nat.le_of_eq (Nat.zero_add _)) dX8_writeLine_54 rfl rfl (x_appC0 h1 hρ (by omega) (by first | omega | (simp only [List.length_append, List.length_cons, List.length_nil, digs_len, wl_len]; omega)) (x := 47) rfl (by decide) fun M_54 h1_54 => ?_)
    refine r_aload_n (q := 58) dX8_writeLine_57 rfl rfl ?_
    refine r_get (q := 61) (kk := 0) h1_54.x rfl wi_RX8 (by decide) rfl fk_X8_12 rfl dX8_writeLine_58 rfl ?_
    refine r_get (q := 64) (kk := 1) (h1_54.st (by decide)) rfl wi_RX5 (by decide) rfl fk_X8_248 rfl dX8_writeLine_61 rfl ?_
    refine r_iload_n (q := 65) dX8_writeLine_64 rfl rfl ?_
    refine r_cV (q := 68) (As := [.int _]) wc_X8_215 rfl im_X2_at se_X2_at (h1_54.row (by decide)) rfl rfl (Nat.le_of_ble_eq_true rfl) (Nat.le_of_eq (Nat.zero_add _)) (Nat.le_of_eq (Nat.zero_add _)) dX8_writeLine_65 rfl rfl (x_atN h1_54 (by decide) (by omega) ?_)
    refine r_cV (q := 71) (As := [.int _]) wc_X8_437 rfl im_J4_append_bf812 se_J4_append_bf812 h1_54.sb rfl rfl (Nat.le_of_ble_eq_true rfl) (Nat.le_of_eq (Nat.zero_add _)) (Nat.le_of_eq (Nat.zero_add _)) dX8_writeLine_68 rfl rfl (x_appI0 h1_54 hρ (by omega) (by first | omega | (simp only [List.length_append, List.length_cons, List.length_nil, digs_len, wl_len]; omega)) (by omega) fun M_68 h1_68 => ?_)
    refine r_pop (q := 72) dX8_writeLine_71 rfl rfl ?_
    refine r_aload_n (q := 73) dX8_writeLine_72 rfl rfl ?_
    refine r_get (q := 76) (kk := 7) h1_68.x rfl wi_RX8 (by decide) rfl fk_X8_50 rfl dX8_writeLine_73 rfl ?_
    refine r_bipush (v := nI 42) (q := 78) dX8_writeLine_76 (by decide) rfl ?_
    refine r_cV (q := 81) (As := [.int _]) wc_X8_441 rfl im_J4_append_cf468 se_J4_append_cf468 h1_68.sb rfl rfl (Nat.le_of_ble_eq_true rfl) (Nat.le_of_eq (Nat.zero_add _)) (Nat.le_of_eq (Nat.zero_add _)) dX8_writeLine_78 rfl rfl (x_appC0 h1_68 hρ (by omega) (by first | omega | (simp only [List.length_append, List.length_cons, List.length_nil, digs_len, wl_len]; omega)) (x := 42) rfl (by decide) fun M_78 h1_78 => ?_)
    refine r_aload_n (q := 82) dX8_writeLine_81 rfl rfl ?_
    refine r_get (q := 85) (kk := 0) h1_78.x rfl wi_RX8 (by decide) rfl fk_X8_12 rfl dX8_writeLine_82 rfl ?_
    refine r_get (q := 88) (kk := 2) (h1_78.st (by decide)) rfl wi_RX5 (by decide) rfl fk_X8_251 rfl dX8_writeLine_85 rfl ?_
    refine r_iload_n (q := 89) dX8_writeLine_88 rfl rfl ?_
    refine r_cV (q := 92) (As := [.int _]) wc_X8_215 rfl im_X2_at se_X2_at (h1_78.row (by decide)) rfl rfl (Nat.le_of_ble_eq_true rfl) (Nat.le_of_eq (Nat.zero_add _)) (Nat.le_of_eq (Nat.zero_add _)) dX8_writeLine_89 rfl rfl (x_atN h1_78 (by decide) (by omega) ?_)
    refine r_cV (q := 95) (As := [.int _]) wc_X8_437 rfl im_J4_append_bf812 se_J4_append_bf812 h1_78.sb rfl rfl (Nat.le_of_ble_eq_true rfl) (Nat.le_of_eq (Nat.zero_add _)) (Nat.le_of_eq (Nat.zero_add _)) dX8_writeLine_92 rfl rfl (x_appI0 h1_78 hρ (by omega) (by first | omega | (simp only [List.length_append, List.length_cons, List.length_nil, digs_len, wl_len]; omega)) (by omega) fun M_92 h1_92 => ?_)
    refine r_pop (q := 96) dX8_writeLine_95 rfl rfl ?_
    refine r_aload_n (q := 97) dX8_writeLine_96 rfl rfl ?_
    refine r_get (q := 100) (kk := 0) h1_92.x rfl wi_RX8 (by decide) rfl fk_X8_12 rfl dX8_writeLine_97 rfl ?_
    refine r_get (q := 103) (kk := 4) (h1_92.st (by decide)) rfl wi_RX5 (by decide) rfl fk_X8_411 rfl dX8_writeLine_100 rfl ?_
    refine r_iload_n (q := 104) dX8_writeLine_103 rfl rfl ?_
    refine r_cV (q := 107) (As := [.int _]) wc_X8_215 rfl im_X2_at se_X2_at (h1_92.row (by decide)) rfl rfl (Nat.le_of_ble_eq_true rfl) (Nat.le_of_eq (Nat.zero_add _)) (Nat.le_of_eq (Nat.zero_add _)) dX8_writeLine_104 rfl rfl (x_atN h1_92 (by decide) (by omega) ?_)
    refine r_if_le (t := 134) (q := 110) dX8_writeLine_107 rfl rfl (fun c107 => ?_) (fun c107 => ?_)
    · simp (disch := omega) only [nI_leI, nI_ltI, nI_eq, nI_lt0, nI_ge0, nI_gt0, nI_le0, nI_eq0] at c107
      have hmu : gMu σ l = [] := if_pos (by omega)
      refine r_vret dX8_writeLine_134 ?_
      refine hQ1 _ ?_
      rw [hmu]
      simp only [List.append_assoc, List.append_nil] at h1_92 ⊢
      exact h1_92
    · simp (disch := omega) only [nI_leI, nI_ltI, nI_eq, nI_lt0, nI_ge0, nI_gt0, nI_le0, nI_eq0] at c107
      have hmu : gMu σ l = [33] ++ digs ((gR σ 0 4).getD l 0) := if_neg (by omega)
      refine r_aload_n (q := 111) dX8_writeLine_110 rfl rfl ?_
      refine r_get (q := 114) (kk := 7) h1_92.x rfl wi_RX8 (by decide) rfl fk_X8_50 rfl dX8_writeLine_111 rfl ?_
      refine r_bipush (v := nI 33) (q := 116) dX8_writeLine_114 (by decide) rfl ?_
      refine r_cV (q := 119) (As := [.int _]) wc_X8_441 rfl im_J4_append_cf468 se_J4_append_cf468 h1_92.sb rfl rfl (Nat.le_of_ble_eq_true rfl) (Nat.le_of_eq (Nat.zero_add _)) (Nat.le_of_eq (Nat.zero_add _)) dX8_writeLine_116 rfl rfl (x_appC0 h1_92 hρ (by omega) (by first | omega | (simp only [List.length_append, List.length_cons, List.length_nil, digs_len, wl_len]; omega)) (x := 33) rfl (by decide) fun M_116 h1_116 => ?_)
      refine r_aload_n (q := 120) dX8_writeLine_119 rfl rfl ?_
      refine r_get (q := 123) (kk := 0) h1_116.x rfl wi_RX8 (by decide) rfl fk_X8_12 rfl dX8_writeLine_120 rfl ?_
      refine r_get (q := 126) (kk := 4) (h1_116.st (by decide)) rfl wi_RX5 (by decide) rfl fk_X8_411 rfl dX8_writeLine_123 rfl ?_
      refine r_iload_n (q := 127) dX8_writeLine_126 rfl rfl ?_
      refine r_cV (q := 130) (As := [.int _]) wc_X8_215 rfl im_X2_at se_X2_at (h1_116.row (by decide)) rfl rfl (Nat.le_of_ble_eq_true rfl) (Nat.le_of_eq (Nat.zero_add _)) (Nat.le_of_eq (Nat.zero_add _)) dX8_writeLine_127 rfl rfl (x_atN h1_116 (by decide) (by omega) ?_)
      refine r_cV (q := 133) (As := [.int _]) wc_X8_437 rfl im_J4_append_bf812 se_J4_append_bf812 h1_116.sb rfl rfl (Nat.le_of_ble_eq_true rfl) (Nat.le_of_eq (Nat.zero_add _)) (Nat.le_of_eq (Nat.zero_add _)) dX8_writeLine_130 rfl rfl (x_appI0 h1_116 hρ (by omega) (by first | omega | (simp only [List.length_append, List.length_cons, List.length_nil, digs_len, wl_len]; omega)) (by omega) fun M_130 h1_130 => ?_)
      refine r_pop (q := 134) dX8_writeLine_133 rfl rfl ?_
      refine r_vret dX8_writeLine_134 ?_
      refine hQ1 _ ?_
      rw [hmu]
      simp only [List.append_assoc, List.append_nil] at h1_130 ⊢
      exact h1_130
  refine MS.of (by decide) (by simp [Value.category]) (Nat.le_of_ble_eq_true rfl) ?_
  show AW _ (_, _, _, _, _, _, _, _, _) _ _ _ _ [some _, some _] _ _
  refine r_aload_n (q := 1) dX8_writeLine_0 rfl rfl ?_
  refine r_get (q := 4) (kk := 7) h.x rfl wi_RX8 (by decide) rfl fk_X8_50 rfl dX8_writeLine_1 rfl ?_
  refine r_iload_n (q := 5) dX8_writeLine_4 rfl rfl ?_
  refine r_cV (q := 8) (As := [.int _]) wc_X8_437 rfl im_J4_append_bf812 se_J4_append_bf812 h.sb rfl rfl (Nat.le_of_ble_eq_true rfl) (Nat.le_of_eq (Nat.zero_add _)) (Nat.le_of_eq (Nat.zero_add _)) dX8_writeLine_5 rfl rfl (x_appI0 h hρ (by omega) (by first | omega | (simp only [List.length_append, List.length_cons, List.length_nil, digs_len, wl_len]; omega)) (by omega) fun M_5 h_5 => ?_)
  refine r_pop (q := 9) dX8_writeLine_8 rfl rfl ?_
  refine r_aload_n (q := 10) dX8_writeLine_9 rfl rfl ?_
  refine r_get (q := 13) (kk := 0) h_5.x rfl wi_RX8 (by decide) rfl fk_X8_12 rfl dX8_writeLine_10 rfl ?_
  refine r_get (q := 16) (kk := 0) (h_5.st (by decide)) rfl wi_RX5 (by decide) rfl fk_X8_67 rfl dX8_writeLine_13 rfl ?_
  refine r_iload_n (q := 17) dX8_writeLine_16 rfl rfl ?_
  refine r_cV (q := 20) (As := [.int _]) wc_X8_215 rfl im_X2_at se_X2_at (h_5.row (by decide)) rfl rfl (Nat.le_of_ble_eq_true rfl) (Nat.le_of_eq (Nat.zero_add _)) (Nat.le_of_eq (Nat.zero_add _)) dX8_writeLine_17 rfl rfl (x_atN h_5 (by decide) (by omega) ?_)
  refine r_if_eq (t := 48) (q := 23) dX8_writeLine_20 rfl rfl (fun c20 => ?_) (fun c20 => ?_)
  · simp (disch := omega) only [nI_leI, nI_ltI, nI_eq, nI_lt0, nI_ge0, nI_gt0, nI_le0, nI_eq0] at c20
    refine join _ _ (by first | omega | (simp only [List.length_append, List.length_cons, List.length_nil, digs_len, wl_len]; omega)) h_5 fun M2 h2 => hQ M2 ?_
    first
      | (rw [gTx, gHd1, if_pos c20]; simp only [List.append_assoc, List.append_nil, List.nil_append] at h2 ⊢; exact h2)
      | (rw [gTx, gHd1, if_neg c20]; simp only [List.append_assoc, List.append_nil, List.nil_append] at h2 ⊢; exact h2)
  · simp (disch := omega) only [nI_leI, nI_ltI, nI_eq, nI_lt0, nI_ge0, nI_gt0, nI_le0, nI_eq0] at c20
    refine r_aload_n (q := 24) dX8_writeLine_23 rfl rfl ?_
    refine r_get (q := 27) (kk := 7) h_5.x rfl wi_RX8 (by decide) rfl fk_X8_50 rfl dX8_writeLine_24 rfl ?_
    refine r_bipush (v := nI 58) (q := 29) dX8_writeLine_27 (by decide) rfl ?_
    refine r_cV (q := 32) (As := [.int _]) wc_X8_441 rfl im_J4_append_cf468 se_J4_append_cf468 h_5.sb rfl rfl (Nat.le_of_ble_eq_true rfl) (Nat.le_of_eq (Nat.zero_add _)) (Nat.le_of_eq (Nat.zero_add _)) dX8_writeLine_29 rfl rfl (x_appC0 h_5 hρ (by omega) (by first | omega | (simp only [List.length_append, List.length_cons, List.length_nil, digs_len, wl_len]; omega)) (x := 58) rfl (by decide) fun M_29 h_29 => ?_)
    refine r_pop (q := 33) dX8_writeLine_32 rfl rfl ?_
    refine r_aload_n (q := 34) dX8_writeLine_33 rfl rfl ?_
    refine r_aload_n (q := 35) dX8_writeLine_34 rfl rfl ?_
    refine r_get (q := 38) (kk := 0) h_29.x rfl wi_RX8 (by decide) rfl fk_X8_12 rfl dX8_writeLine_35 rfl ?_
    refine r_get (q := 41) (kk := 0) (h_29.st (by decide)) rfl wi_RX5 (by decide) rfl fk_X8_67 rfl dX8_writeLine_38 rfl ?_
    refine r_iload_n (q := 42) dX8_writeLine_41 rfl rfl ?_
    refine r_cV (q := 45) (As := [.int _]) wc_X8_215 rfl im_X2_at se_X2_at (h_29.row (by decide)) rfl rfl (Nat.le_of_ble_eq_true rfl) (Nat.le_of_eq (Nat.zero_add _)) (Nat.le_of_eq (Nat.zero_add _)) dX8_writeLine_42 rfl rfl (x_atN h_29 (by decide) (by omega) ?_)
    refine r_cV (q := 48) (As := [.int _]) wc_X8_282 rfl im_X8_writeWord se_X8_writeWord h_29.x rfl rfl (Nat.le_of_ble_eq_true rfl) (Nat.le_of_eq (Nat.zero_add _)) (Nat.le_of_eq (Nat.zero_add _)) dX8_writeLine_45 rfl rfl (x_word0 h_29 hρ w9 (by omega) (by first | omega | (simp only [List.length_append, List.length_cons, List.length_nil, digs_len, wl_len]; omega)) fun M_45 h_45 => ?_)
    refine join _ _ (by first | omega | (simp only [List.length_append, List.length_cons, List.length_nil, digs_len, wl_len]; omega)) h_45 fun M2 h2 => hQ M2 ?_
    first
      | (rw [gTx, gHd1, if_pos c20]; simp only [List.append_assoc, List.append_nil, List.nil_append] at h2 ⊢; exact h2)
      | (rw [gTx, gHd1, if_neg c20]; simp only [List.append_assoc, List.append_nil, List.nil_append] at h2 ⊢; exact h2)
theorem s_X8_text (h : RX G Λ ρ (sT σ t c) M) (hρ : ρ (99, 0, 0) = none) (hw : ∀ x ∈ gR σ 0 0, x < 448) (hp : ∀ x ∈ gR σ 0 1, x < 10) (hs : ∀ x ∈ gR σ 0 2, x < 21) (hm : ∀ x ∈ gR σ 0 4, x < 13) (hc : cOk c) {l : Int32} (hQ : (qText σ l).1 = 0 → ∀ M', RX G Λ ρ (sT σ (gTx σ l.toNatClampNeg) c) M' → Q (some (.int (qText σ l).2)) M') (hX : ∀ E, exL ["java/lang/IndexOutOfBoundsException"] (qText σ l).1 = some E → QX E M)  : MS G yX8_text cX8_text 2 (some .int) (d + 12) 1 6 [.ref (Λ (0, 0, 0)), .int l] M Q QX := by
  refine MS.of (by decide) (by simp [Value.category]) (Nat.le_of_ble_eq_true rfl) ?_
  show AW _ (_, _, _, _, _, _, _, _, _) _ _ _ _ [some _, some _] _ _
  refine r_iload_n (q := 1) dX8_text_0 rfl rfl ?_
  refine r_cS (q := 4) (As := [.int _]) wc_X8_119 st_X8_isLine rfl (Nat.le_of_ble_eq_true rfl) (Nat.le_of_eq (Nat.zero_add _)) (Nat.le_of_eq (Nat.zero_add _)) dX8_text_1 rfl rfl (s_X8_isLine ?_)
  refine r_if_ne (t := 17) (q := 7) dX8_text_4 rfl rfl (fun c4 => ?_) (fun c4 => ?_)
  · obtain ⟨j, hj, rfl⟩ := isL_t (bI_ne c4)
    have e4 : ¬ isL (nI j) = false := by rw [isL_n hj]; decide
    have e : qText σ (nI j) = (0, nI (gTx σ j).length) := by rw [qText, if_neg e4, nI_c7 (by omega)]
    rw [e, nI_c7 (by omega)] at hQ
    refine r_aload_n (q := 18) dX8_text_17 rfl rfl ?_
    refine r_get (q := 21) (kk := 7) h.x rfl wi_RX8 (by decide) rfl fk_X8_50 rfl dX8_text_18 rfl ?_
    refine r_iconst (v := nI 0) (q := 22) dX8_text_21 (by decide) rfl ?_
    refine r_cV (q := 25) (As := [.int _]) wc_X8_267 rfl im_J4_setLength_d00df se_J4_setLength_d00df h.sb rfl rfl (Nat.le_of_ble_eq_true rfl) (Nat.le_of_eq (Nat.zero_add _)) (Nat.le_of_eq (Nat.zero_add _)) dX8_text_22 rfl rfl (x_set0 h hρ (by have := cOk_b hc; omega) fun M_22 h_22 => ?_)
    refine r_aload_n (q := 26) dX8_text_25 rfl rfl ?_
    refine r_iload_n (q := 27) dX8_text_26 rfl rfl ?_
    refine r_cV (q := 30) (As := [.int _]) wc_X8_270 rfl im_X8_writeLine se_X8_writeLine h_22.x rfl rfl (Nat.le_of_ble_eq_true rfl) (Nat.le_of_eq (Nat.zero_add _)) (Nat.le_of_eq (Nat.zero_add _)) dX8_text_27 rfl rfl (s_X8_writeLine h_22 hρ hw hp hs hm (by have := cOk_b hc; omega) (by have := cOk_b hc; omega) hj fun M_27 h_27 => ?_)
    refine r_aload_n (q := 31) dX8_text_30 rfl rfl ?_
    refine r_get (q := 34) (kk := 7) h_27.x rfl wi_RX8 (by decide) rfl fk_X8_50 rfl dX8_text_31 rfl ?_
    refine r_cV (q := 37) (As := []) wc_X8_273 rfl im_J4_length_8abf5 se_J4_length_8abf5 h_27.sb rfl rfl (Nat.le_of_ble_eq_true rfl) (Nat.le_of_eq (Nat.zero_add _)) (Nat.le_of_eq (Nat.zero_add _)) dX8_text_34 rfl rfl (x_len h_27 ?_)
    refine r_iret dX8_text_37 ?_
    exact hQ rfl _ h_27
  · have e : qText σ l = (1, 0) := if_pos (bI_eq0.mp c4)
    exact r_throw (names := nm_IndexOutOfBoundsException) (j := 13) (by decide +kernel) (by decide +kernel) ck_X8_123 ini_IndexOutOfBoundsException rfl at_X8_127 og_X8_127 (by decide) (by omega) (Nat.le_of_ble_eq_true rfl) (Nat.le_refl _) (Nat.le_refl _) dX8_text_7 dX8_text_10 dX8_text_11 dX8_text_13 dX8_text_16 (hX _ (by rw [e]; rfl))
theorem s_X8_character (h : RX G Λ ρ (sT σ t c) M) (hρ : ρ (99, 0, 0) = none) (hc : cOk c) {i : Int32} (hQ : (qChar t i).1 = 0 → Q (some (.int (qChar t i).2)) M) (hX : ∀ E, exL ["java/lang/IndexOutOfBoundsException"] (qChar t i).1 = some E → QX E M)  : MS G yX8_character cX8_character 2 (some .char) (d + 12) 1 6 [.ref (Λ (0, 0, 0)), .int i] M Q QX := by
  obtain ⟨q9, ml9, f9, -, -, hl9, -, ht9, -, -⟩ := h.tx
  replace hl9 : t.length ≤ c := hl9
  replace ht9 : ∀ x ∈ t, x < 128 := ht9
  have hcb := cOk_b hc
  refine MS.of (by decide) (by simp [Value.category]) (Nat.le_of_ble_eq_true rfl) ?_
  show AW _ (_, _, _, _, _, _, _, _, _) _ _ _ _ [some _, some _] _ _
  refine r_iload_n (q := 1) dX8_character_0 rfl rfl ?_
  refine r_if_lt (t := 15) (q := 4) dX8_character_1 rfl rfl (fun c1 => ?_) (fun c1 => ?_)
  · have e : qChar t i = (1, 0) := if_pos c1
    exact r_throwW (names := nm_IndexOutOfBoundsException) (j := 24) (by decide +kernel) (by decide +kernel) ck_X8_123 ini_IndexOutOfBoundsException rfl at_X8_127 og_X8_127 (by decide) (by omega) (Nat.le_of_ble_eq_true rfl) (Nat.le_refl _) (Nat.le_refl _) dX8_character_15 dX8_character_18 dX8_character_19 dX8_character_22 dX8_character_25 (hX _ (by rw [e]; rfl))
  · obtain ⟨j, hj, rfl⟩ := nI_nat c1
    refine r_iload_n (q := 5) dX8_character_4 rfl rfl ?_
    refine r_aload_n (q := 6) dX8_character_5 rfl rfl ?_
    refine r_get (q := 9) (kk := 7) h.x rfl wi_RX8 (by decide) rfl fk_X8_50 rfl dX8_character_6 rfl ?_
    refine r_cV (q := 12) (As := []) wc_X8_273 rfl im_J4_length_8abf5 se_J4_length_8abf5 h.sb rfl rfl (Nat.le_of_ble_eq_true rfl) (Nat.le_of_eq (Nat.zero_add _)) (Nat.le_of_eq (Nat.zero_add _)) dX8_character_9 rfl rfl (x_len h ?_)
    refine r_icmp_lt (t := 26) (q := 15) dX8_character_12 rfl rfl (fun c12 => ?_) (fun c12 => ?_)
    · have e12 : ¬ nI t.length ≤ nI j := fun g => absurd c12 (Int32.not_lt.mpr g)
      have e : qChar t (nI j) = (0, nI (t.getD j 0)) := by rw [qChar, if_neg c1, if_neg e12, nI_c7 hj]
      rw [e] at hQ
      have hj9 : j < t.length := (nI_ltI hj (by omega)).mp c12
      have hy9 : t.getD j 0 < 128 := getD_all (by decide) ht9 j
      refine r_aload_n (q := 27) dX8_character_26 rfl rfl ?_
      refine r_get (q := 30) (kk := 7) h.x rfl wi_RX8 (by decide) rfl fk_X8_50 rfl dX8_character_27 rfl ?_
      refine r_iload_n (q := 31) dX8_character_30 rfl rfl ?_
      refine r_cV (q := 34) (As := [.int _]) wc_X8_287 rfl im_J4_charAt_5068e se_J4_charAt_5068e h.sb rfl rfl (Nat.le_of_ble_eq_true rfl) (Nat.le_of_eq (Nat.zero_add _)) (Nat.le_of_eq (Nat.zero_add _)) dX8_character_31 rfl rfl (s_J4_charAt_5068e (t := t) (c := c) h.tx (by omega) hj9 ?_)
      refine r_zret dX8_character_34 (narrow_c _ hy9) ?_
      exact hQ rfl
    · have e : qChar t (nI j) = (1, 0) := by rw [qChar, if_neg c1, if_pos (Int32.not_lt.mp c12)]
      exact r_throwW (names := nm_IndexOutOfBoundsException) (j := 24) (by decide +kernel) (by decide +kernel) ck_X8_123 ini_IndexOutOfBoundsException rfl at_X8_127 og_X8_127 (by decide) (by omega) (Nat.le_of_ble_eq_true rfl) (Nat.le_refl _) (Nat.le_refl _) dX8_character_15 dX8_character_18 dX8_character_19 dX8_character_22 dX8_character_25 (hX _ (by rw [e]; rfl))
theorem s_X8_strip (h : RX G Λ ρ (sT σ t c) M) (hρ : ρ (99, 0, 0) = none) (hc : cOk c) (hD448 : ∀ s ∈ (gR σ 0 11), dD s < 448) (hlen9 : (gStr (gR σ 0 11)).length ≤ 882) (hQ : ∀ c' M', cOk c' → RX G Λ ρ (sT σ (gStr (gR σ 0 11)) c') M' → Q (some (.int (nI (gStr (gR σ 0 11)).length))) M')  : MS G yX8_strip cX8_strip 2 (some .int) (d + 7) (pKk c) (pNn c) [.ref (Λ (0, 0, 0))] M Q QX := by
  have loop : ∀ (m : Nat) i (M1 : Me) (c1 : Nat), m = (gR σ 0 11).length - i → i ≤ (gR σ 0 11).length → cOk c1 → RX G Λ ρ (sT σ (gStr ((gR σ 0 11).take i)) c1) M1 → AW G (wX G yX8_strip cX8_strip 2 (some .int) (pKk c) (pNn c) Q QX) (d + 7) (pKk c1) (pNn c1) 10 [some (.ref (Λ (0, 0, 0))), some (.int (nI i))] [] M1 := by
    intro m
    induction m using Nat.strongRecOn with
    | _ m ih =>
    intro i M1 c1 hm hi hc1 h1
    subst hm
    have hlen : (gR σ 0 11).length ≤ 147 := (h1.rw (by decide : wR 0 11 = true)).2.1
    refine r_iload_n (q := 11) dX8_strip_10 rfl rfl ?_
    refine r_aload_n (q := 12) dX8_strip_11 rfl rfl ?_
    refine r_get (q := 15) (kk := 0) h1.x rfl wi_RX8 (by decide) rfl fk_X8_12 rfl dX8_strip_12 rfl ?_
    refine r_get (q := 18) (kk := 11) (h1.st (by decide)) rfl wi_RX5 (by decide) rfl fk_X8_212 rfl dX8_strip_15 rfl ?_
    refine r_cV (q := 21) (As := []) wc_X8_276 rfl im_X2_size se_X2_size (h1.row (by decide)) rfl rfl (Nat.le_of_ble_eq_true rfl) (Nat.le_of_eq (Nat.zero_add _)) (Nat.le_of_eq (Nat.zero_add _)) dX8_strip_18 rfl rfl (s_X2_size (h1.rw (by decide)) ?_)
    refine r_icmp_ge (t := 48) (q := 24) dX8_strip_21 rfl rfl (fun c21 => ?_) (fun c21 => ?_)
    · rw [show gR (sT σ (gStr ((gR σ 0 11).take i)) c1) 0 11 = gR σ 0 11 from rfl, nI_leI (by omega) (by omega)] at c21
      replace c21 : (gR σ 0 11).length ≤ i := c21
      refine r_aload_n (q := 49) dX8_strip_48 rfl rfl ?_
      refine r_get (q := 52) (kk := 7) h1.x rfl wi_RX8 (by decide) rfl fk_X8_50 rfl dX8_strip_49 rfl ?_
      refine r_cV (q := 55) (As := []) wc_X8_273 rfl im_J4_length_8abf5 se_J4_length_8abf5 h1.sb rfl rfl (Nat.le_of_ble_eq_true rfl) (Nat.le_of_eq (Nat.zero_add _)) (Nat.le_of_eq (Nat.zero_add _)) dX8_strip_52 rfl rfl (x_len h1 ?_)
      refine r_iret dX8_strip_55 ?_
      rw [List.take_of_length_le c21] at h1 ⊢
      exact hQ _ _ hc1 h1
    · rw [show gR (sT σ (gStr ((gR σ 0 11).take i)) c1) 0 11 = gR σ 0 11 from rfl, nI_leI (by omega) (by omega)] at c21
      replace c21 : i < (gR σ 0 11).length := Nat.lt_of_not_le c21
      have hD := dD_lt ((gR σ 0 11).getD i 0)
      have hle := gStr_le (L := (gR σ 0 11)) (i + 1)
      rw [gStr_s c21, List.length_append, wl_len] at hle
      have hcb := cOk_b hc1
      obtain ⟨q9, ml9, f9, -, -, hl9, -, -, -, -⟩ := h1.tx
      replace hl9 : (gStr ((gR σ 0 11).take i)).length ≤ c1 := hl9
      have hD6 : dD ((gR σ 0 11).getD i 0) / 64 ≤ 6 := by have := hD448 ((gR σ 0 11).getD i 0) (by rw [getD_lt c21]; exact List.getElem_mem c21); omega
      have hpo := pot (m := (gStr ((gR σ 0 11).take i)).length + dD ((gR σ 0 11).getD i 0) / 64) hc1 (by omega) (by omega)
      refine r_aload_n (q := 25) dX8_strip_24 rfl rfl ?_
      refine r_aload_n (q := 26) dX8_strip_25 rfl rfl ?_
      refine r_get (q := 29) (kk := 0) h1.x rfl wi_RX8 (by decide) rfl fk_X8_12 rfl dX8_strip_26 rfl ?_
      refine r_get (q := 32) (kk := 11) (h1.st (by decide)) rfl wi_RX5 (by decide) rfl fk_X8_212 rfl dX8_strip_29 rfl ?_
      refine r_iload_n (q := 33) dX8_strip_32 rfl rfl ?_
      refine r_cV (q := 36) (As := [.int _]) wc_X8_215 rfl im_X2_at se_X2_at (h1.row (by decide)) rfl rfl (Nat.le_of_ble_eq_true rfl) (Nat.le_of_eq (Nat.zero_add _)) (Nat.le_of_eq (Nat.zero_add _)) dX8_strip_33 rfl rfl (x_atN h1 (by decide) (by omega) ?_)
      refine r_cS (q := 39) (As := [.int _]) wc_X8_279 st_X4_word rfl (Nat.le_of_ble_eq_true rfl) (Nat.le_of_eq (Nat.zero_add _)) (Nat.le_of_eq (Nat.zero_add _)) dX8_strip_36 rfl rfl (s_X4_word (getD_all (by decide) (h1.rw (by decide : wR 0 11 = true)).2.2.1 _) ?_)
      refine r_cV (q := 42) (As := [.int _]) wc_X8_282 rfl im_X8_writeWord se_X8_writeWord h1.x rfl rfl (Nat.le_of_ble_eq_true rfl) hpo.2.1 hpo.2.2 dX8_strip_39 rfl rfl (s_X8_writeWord h1 hρ (hD448 _ (by rw [getD_lt c21]; exact List.getElem_mem c21)) (by omega) hl9 (by omega) fun M_39 h1_39 => ?_)
      refine r_inc1 (q := 45) dX8_strip_42 rfl (Nat.le_of_ble_eq_true rfl) rfl rfl ?_
      show AW _ (_, _, _, _, _, _, _, _, _) _ _ _ _ [some _, some _] _ _
      refine r_goto (t := 10) dX8_strip_45 rfl ?_
      refine ih ((gR σ 0 11).length - (i + 1)) (by omega) (i + 1) M_39 _ rfl (by omega) hpo.1 ?_
      rw [gStr_s c21]
      exact h1_39
  refine MS.of (by decide) (by simp [Value.category]) (Nat.le_of_ble_eq_true rfl) ?_
  show AW _ (_, _, _, _, _, _, _, _, _) _ _ _ _ [some _, _] _ _
  refine r_aload_n (q := 1) dX8_strip_0 rfl rfl ?_
  refine r_get (q := 4) (kk := 7) h.x rfl wi_RX8 (by decide) rfl fk_X8_50 rfl dX8_strip_1 rfl ?_
  refine r_iconst (v := nI 0) (q := 5) dX8_strip_4 (by decide) rfl ?_
  refine r_cV (q := 8) (As := [.int _]) wc_X8_267 rfl im_J4_setLength_d00df se_J4_setLength_d00df h.sb rfl rfl (Nat.le_of_ble_eq_true rfl) (Nat.le_of_eq (Nat.zero_add _)) (Nat.le_of_eq (Nat.zero_add _)) dX8_strip_5 rfl rfl (x_set0 h hρ (by have := cOk_b hc; omega) fun M_5 h_5 => ?_)
  refine r_iconst (v := nI 0) (q := 9) dX8_strip_8 (by decide) rfl ?_
  refine r_istore_n (q := 10) dX8_strip_9 (Nat.le_of_ble_eq_true rfl) rfl rfl ?_
  show AW _ (_, _, _, _, _, _, _, _, _) _ _ _ _ [some _, some _] _ _
  exact loop _ 0 _ c rfl (Nat.zero_le _) hc h_5
end W42A
