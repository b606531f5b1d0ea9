/-! THE CLASS ITSELF: texts -/
section W42
variable {G : En} {Λ : Ob → Nat} {ρ : Me} {σ : Sg} {M : Me} {d : Nat} {Q : Option Value → Me → Prop} {QX : String → Me → Prop} {t : List Nat} {c : Nat}
theorem RX.setT (h : RX G Λ ρ σ M) {M' : Me} (hw : RTx G Λ t c M') (ho : ∀ o : Ob, o ≠ (8, 0, 0) → o ≠ (9, 0, 0) → M' o = M o) : RX G Λ ρ (sT σ t c) M' := by
  obtain ⟨h1, h2, h3, h4, ⟨f, h5, h5'⟩, h6, h7, h8, h9⟩ := h
  refine ⟨?_, fun a' ha' => ?_, fun a' b' hr => ?_, ?_, ⟨f, ?_, h5'⟩, ?_, ?_, hw, fun o ho' => ?_⟩
  · rw [ho _ (by simp) (by simp)]; exact h1
  · rw [ho _ (by simp) (by simp)]; exact h2 a' ha'
  · exact (h3 a' b' hr).kept (ho _ (by simp) (by simp)) (ho _ (by simp) (by simp))
  · rw [ho _ (by simp) (by simp)]; exact h4
  · rw [ho _ (by simp) (by simp)]; exact h5
  · rw [ho _ (by simp) (by simp)]; exact h6
  · rw [ho _ (by simp) (by simp)]; exact h7
  · rw [ho o (fun e => by rw [e] at ho'; simp at ho') (fun e => by rw [e] at ho'; simp at ho')]
    exact h9 o ho'
theorem RX.tx (h : RX G Λ ρ σ M) : RTx G Λ (gT σ) (gC σ) M := h.2.2.2.2.2.2.2.1
theorem RX.toT (h : RX G Λ ρ σ M) : RX G Λ ρ (sT σ (gT σ) (gC σ)) M := h
theorem RX.z (h : RX G Λ ρ σ M) (hρ : ρ (99, 0, 0) = none) : M (99, 0, 0) = none := (h.2.2.2.2.2.2.2.2 _ (Nat.le_of_ble_eq_true rfl)).trans hρ
def sbF (M : Me) : List Value := match M (8, 0, 0) with
  | some (_, .inr (_, fs)) => fs
  | _ => []
theorem RX.sb (h : RX G Λ ρ σ M) : M (8, 0, 0) = some (Λ (8, 0, 0), .inr (7, sbF M)) := by
  obtain ⟨q, ml, f, g1, -⟩ := h.tx
  unfold sbF
  rw [g1]
theorem x_appC (h : RX G Λ ρ (sT σ t c) M) (hρ : ρ (99, 0, 0) = none) (hc : c ≤ 30000) {x : Nat} {v : Int32} (hv : v = nI x) (hx : x < 128) (hQ : ∀ M', RX G Λ ρ (sT σ (t ++ [x]) (gCap (t.length + 1) c)) M' → Q (some (.ref (Λ (8, 0, 0)))) M') : MS G yJ4_append_cf468 cJ4_append_cf468 2 (some (.object "java/lang/StringBuilder")) (d + 5) (kC (t.length + 1) c) (nC (t.length + 1) c) [.ref (Λ (8, 0, 0)), .int v] M Q QX := by
  subst hv
  exact s_J4_append_cf468 h.tx (h.z hρ) hc hx fun M' h1 h2 => hQ M' (h.setT h1 h2)
theorem x_appI (h : RX G Λ ρ (sT σ t c) M) (hρ : ρ (99, 0, 0) = none) (hc : c ≤ 30000) (hc1 : 1 ≤ c) {i : Nat} (hi : i < 100) (hQ : ∀ M', RX G Λ ρ (sT σ (t ++ digs i) (gCap (t.length + szI i) c)) M' → Q (some (.ref (Λ (8, 0, 0)))) M') : MS G yJ4_append_bf812 cJ4_append_bf812 2 (some (.object "java/lang/StringBuilder")) (d + 5) (kC (t.length + szI i) c) (nC (t.length + szI i) c) [.ref (Λ (8, 0, 0)), .int (nI i)] M Q QX :=
  s_J4_append_bf812 h.tx (h.z hρ) hc hc1 hi fun M' h1 h2 => hQ M' (h.setT h1 h2)
theorem x_set0 (h : RX G Λ ρ (sT σ t c) M) (hρ : ρ (99, 0, 0) = none) (hc : c ≤ 30000) (hQ : ∀ M', RX G Λ ρ (sT σ [] c) M' → Q none M') : MS G yJ4_setLength_d00df cJ4_setLength_d00df 2 none (d + 5) 0 0 [.ref (Λ (8, 0, 0)), .int (nI 0)] M Q QX :=
  s_J4_setLength_d00df h.tx (h.z hρ) hc fun M' h1 h2 => hQ M' (h.setT h1 h2)
theorem x_len (h : RX G Λ ρ (sT σ t c) M) (hQ : Q (some (.int (nI t.length))) M) : MS G yJ4_length_8abf5 cJ4_length_8abf5 1 (some .int) (d + 1) 0 0 [.ref (Λ (8, 0, 0))] M Q QX := s_J4_length_8abf5 h.tx hQ
def wl (w j : Nat) : List Nat := (List.range j).map fun p => if w % 64 / 2 ^ p % 2 = 1 then 108 else 115
theorem wl_s {w j : Nat} : wl w (j + 1) = wl w j ++ [if w % 64 / 2 ^ j % 2 = 1 then 108 else 115] := by rw [wl, List.range_succ, List.map_append]; rfl
theorem wl_len {w j : Nat} : (wl w j).length = j := by rw [wl, List.length_map, List.length_range]
theorem gC_step {m c : Nat} (h : m + 1 ≤ 2 * c + 2) : gCap (m + 1) (gCap m c) = gCap (m + 1) c ∧ kC (m + 1) (gCap m c) + kC m c = kC (m + 1) c ∧ nC (m + 1) (gCap m c) + nC m c = nC (m + 1) c := by
  by_cases h1 : m ≤ c
  · rw [show gCap m c = c from if_pos h1, show kC m c = 0 from if_pos h1, show nC m c = 0 from if_pos h1]
    exact ⟨rfl, rfl, rfl⟩
  · have h2 : ¬ m + 1 ≤ c := by omega
    rw [show gCap m c = 2 * c + 2 from if_neg h1, show kC m c = 1 from if_neg h1, show nC m c = 2 * c + 2 from if_neg h1, show gCap (m + 1) (2 * c + 2) = 2 * c + 2 from if_pos h, show kC (m + 1) (2 * c + 2) = 0 from if_pos h, show nC (m + 1) (2 * c + 2) = 0 from if_pos h, show gCap (m + 1) c = 2 * c + 2 from if_neg h2, show kC (m + 1) c = 1 from if_neg h2, show nC (m + 1) c = 2 * c + 2 from if_neg h2]
    exact ⟨rfl, by omega, by omega⟩
theorem kC_mono {m m' c : Nat} (h : m ≤ m') : kC m c ≤ kC m' c ∧ nC m c ≤ nC m' c := by
  by_cases h1 : m ≤ c
  · rw [show kC m c = 0 from if_pos h1, show nC m c = 0 from if_pos h1]
    exact ⟨Nat.zero_le _, Nat.zero_le _⟩
  · have h2 : ¬ m' ≤ c := by omega
    rw [show kC m c = 1 from if_neg h1, show nC m c = 2 * c + 2 from if_neg h1, show kC m' c = 1 from if_neg h2, show nC m' c = 2 * c + 2 from if_neg h2]
    exact ⟨Nat.le_refl _, Nat.le_refl _⟩
theorem s_X8_writeWord {w : Nat} (h : RX G Λ ρ (sT σ t c) M) (hρ : ρ (99, 0, 0) = none) (hw : w < 448) (hc : c ≤ 14000) (htc : t.length ≤ c) (hc6 : 6 ≤ c) (hQ : ∀ M', RX G Λ ρ (sT σ (t ++ wl w (w / 64)) (gCap (t.length + w / 64) c)) M' → Q none M')  : MS G yX8_writeWord cX8_writeWord 3 none (d + 6) (kC (t.length + w / 64) c) (nC (t.length + w / 64) c) [.ref (Λ (0, 0, 0)), .int (nI w)] M Q QX := by
  have loop : ∀ (m : Nat) j (M1 : Me), m = w / 64 - j → j ≤ w / 64 → RX G Λ ρ (sT σ (t ++ wl w j) (gCap (t.length + j) c)) M1 → AW G (wX G yX8_writeWord cX8_writeWord 3 none (kC (t.length + w / 64) c) (nC (t.length + w / 64) c) Q QX) (d + 6) (kC (t.length + w / 64) c - kC (t.length + j) c) (nC (t.length + w / 64) c - nC (t.length + j) c) 2 [some (.ref (Λ (0, 0, 0))), some (.int (nI w)), some (.int (nI j))] [] M1 := by
    intro m
    induction m using Nat.strongRecOn with
    | _ m ih =>
    intro j M1 hm hj h1
    subst hm
    refine r_iload_n (q := 3) dX8_writeWord_2 rfl rfl ?_
    refine r_iload_n (q := 4) dX8_writeWord_3 rfl rfl ?_
    refine r_cS (q := 7) (As := [.int _]) wc_X8_429 st_X7_length rfl (Nat.le_of_ble_eq_true rfl) (Nat.le_of_eq (Nat.zero_add _)) (Nat.le_of_eq (Nat.zero_add _)) dX8_writeWord_4 rfl rfl (s_X7_length (by omega) ?_)
    refine r_icmp_ge (t := 40) (q := 10) dX8_writeWord_7 rfl rfl (fun c7 => ?_) (fun c7 => ?_)
    · simp (disch := omega) only [nI_leI, nI_ltI, nI_eq, nI_lt0, nI_ge0, nI_gt0, nI_le0, nI_eq0] at c7
      obtain rfl : j = w / 64 := by omega
      refine r_vret dX8_writeWord_40 ?_
      exact hQ _ h1
    · simp (disch := omega) only [nI_leI, nI_ltI, nI_eq, nI_lt0, nI_ge0, nI_gt0, nI_le0, nI_eq0] at c7
      have hst := gC_step (m := t.length + j) (c := c) (by omega)
      have hmo := kC_mono (m := t.length + j + 1) (m' := t.length + w / 64) (c := c) (by omega)
      have hle := gCap_le (m := t.length + j) (c := c)
      have hln : (t ++ wl w j).length + 1 = t.length + j + 1 := by rw [List.length_append, wl_len]
      refine r_aload_n (q := 11) dX8_writeWord_10 rfl rfl ?_
      refine r_get (q := 14) (kk := 7) h1.x rfl wi_RX8 (by decide) rfl fk_X8_50 rfl dX8_writeWord_11 rfl ?_
      refine r_iload_n (q := 15) dX8_writeWord_14 rfl rfl ?_
      refine r_iload_n (q := 16) dX8_writeWord_15 rfl rfl ?_
      refine r_cS (q := 19) (As := [.int _, .int _]) wc_X8_444 st_X7_letter rfl (Nat.le_of_ble_eq_true rfl) (Nat.le_of_eq (Nat.zero_add _)) (Nat.le_of_eq (Nat.zero_add _)) dX8_writeWord_16 rfl rfl (s_X7_letter (by omega) (by omega) ?_)
      refine r_iconst (v := nI 1) (q := 20) dX8_writeWord_19 (by decide) rfl ?_
      refine r_icmp_ne (t := 28) (q := 23) dX8_writeWord_20 rfl rfl (fun c20 => ?_) (fun c20 => ?_)
      · rw [nI_eq (by omega) (by decide)] at c20
        have hv : (if w % 64 / 2 ^ j % 2 = 1 then 108 else 115 : Nat) = 115 := if_neg c20
        refine r_bipush (v := nI 115) (q := 30) dX8_writeWord_28 (by decide) rfl ?_
        refine r_cV (q := 33) (As := [.int _]) wc_X8_441 rfl im_J4_append_cf468 se_J4_append_cf468 h1.sb rfl rfl (Nat.le_of_ble_eq_true rfl) (show kC ((t ++ wl w j).length + 1) (gCap (t.length + j) c) + (kC (t.length + w / 64) c - kC (t.length + j + 1) c) ≤ _ by rw [hln]; omega) (show nC ((t ++ wl w j).length + 1) (gCap (t.length + j) c) + (nC (t.length + w / 64) c - nC (t.length + j + 1) c) ≤ _ by rw [hln]; omega) dX8_writeWord_30 rfl rfl (x_appC h1 hρ (by omega) (x := (if w % 64 / 2 ^ j % 2 = 1 then 108 else 115)) (by rw [hv]) (by rw [hv]; decide) fun M_30 h1_30 => ?_)
        rw [hln, hst.1] at h1_30
        refine r_pop (q := 34) dX8_writeWord_33 rfl rfl ?_
        refine r_inc1 (q := 37) dX8_writeWord_34 rfl (Nat.le_of_ble_eq_true rfl) rfl rfl ?_
        show AW _ (_, _, _, _, _, _, _, _, _) _ _ _ _ [some _, some _, some _] _ _
        refine r_goto (t := 2) dX8_writeWord_37 rfl ?_
        refine ih (w / 64 - (j + 1)) (by omega) (j + 1) _ rfl (by omega) ?_
        rw [wl_s, ← List.append_assoc, ← Nat.add_assoc]
        exact h1_30
      · rw [nI_eq (by omega) (by decide)] at c20
        have hv : (if w % 64 / 2 ^ j % 2 = 1 then 108 else 115 : Nat) = 108 := if_pos c20
        refine r_bipush (v := nI 108) (q := 25) dX8_writeWord_23 (by decide) rfl ?_
        refine r_goto (t := 30) dX8_writeWord_25 rfl ?_
        refine r_cV (q := 33) (As := [.int _]) wc_X8_441 rfl im_J4_append_cf468 se_J4_append_cf468 h1.sb rfl rfl (Nat.le_of_ble_eq_true rfl) (show kC ((t ++ wl w j).length + 1) (gCap (t.length + j) c) + (kC (t.length + w / 64) c - kC (t.length + j + 1) c) ≤ _ by rw [hln]; omega) (show nC ((t ++ wl w j).length + 1) (gCap (t.length + j) c) + (nC (t.length + w / 64) c - nC (t.length + j + 1) c) ≤ _ by rw [hln]; omega) dX8_writeWord_30 rfl rfl (x_appC h1 hρ (by omega) (x := (if w % 64 / 2 ^ j % 2 = 1 then 108 else 115)) (by rw [hv]) (by rw [hv]; decide) fun M_30 h1_30 => ?_)
        rw [hln, hst.1] at h1_30
        refine r_pop (q := 34) dX8_writeWord_33 rfl rfl ?_
        refine r_inc1 (q := 37) dX8_writeWord_34 rfl (Nat.le_of_ble_eq_true rfl) rfl rfl ?_
        show AW _ (_, _, _, _, _, _, _, _, _) _ _ _ _ [some _, some _, some _] _ _
        refine r_goto (t := 2) dX8_writeWord_37 rfl ?_
        refine ih (w / 64 - (j + 1)) (by omega) (j + 1) _ rfl (by omega) ?_
        rw [wl_s, ← List.append_assoc, ← Nat.add_assoc]
        exact h1_30
  refine MS.of (by decide) (by simp [Value.category]) (Nat.le_of_ble_eq_true rfl) ?_
  show AW _ (_, _, _, _, _, _, _, _, _) _ _ _ _ [some _, some _, _] _ _
  refine r_iconst (v := nI 0) (q := 1) dX8_writeWord_0 (by decide) rfl ?_
  refine r_istore_n (q := 2) dX8_writeWord_1 (Nat.le_of_ble_eq_true rfl) rfl rfl ?_
  show AW _ (_, _, _, _, _, _, _, _, _) _ _ _ _ [some _, some _, some _] _ _
  have e0 : kC (t.length + 0) c = 0 ∧ nC (t.length + 0) c = 0 ∧ gCap (t.length + 0) c = c := by unfold kC nC gCap; simp only [Nat.add_zero, if_pos htc]; trivial
  have go := loop _ 0 M rfl (Nat.zero_le _) (by rw [e0.2.2, show wl w 0 = [] from rfl, List.append_nil]; exact h)
  rw [e0.1, e0.2.1] at go
  exact go
end W42
