/-! ROWS: contracts of the row alone -/
section W21
variable {G : En} {Λ : Ob → Nat} {M : Me} {d : Nat} {Q : Option Value → Me → Prop} {QX : String → Me → Prop} {a b : Nat} {L : List Nat}
def rAt (L : List Nat) (i : Int32) : Int32 := if i < 0 then 0 else nI (L.getD i.toNatClampNeg 0)
theorem rAt_nI {L : List Nat} {j : Nat} (hj : j < 2 ^ 31) : rAt L (nI j) = nI (L.getD j 0) := by
  unfold rAt
  rw [if_neg (nI_pos hj), nI_clamp hj]
theorem rAt_neg {L : List Nat} {i : Int32} (h : i < 0) : rAt L i = nI 0 := if_pos h
def rPut (L : List Nat) (i : Int32) (x : Nat) : List Nat := if i < 0 then L else L.set i.toNatClampNeg x
theorem rPut_nI {L : List Nat} {j x : Nat} (hj : j < 2 ^ 31) : rPut L (nI j) x = L.set j x := by
  unfold rPut
  rw [if_neg (nI_pos hj), nI_clamp hj]
def rAdd (c : Nat) (L : List Nat) (x : Nat) : List Nat := if L.length < c then L ++ [x] else L
theorem s_X2_size (hw : RW G Λ a b L M) (hQ : Q (some (.int (nI L.length))) M) : MS G yX2_size cX2_size 1 (some .int) d 0 0 [.ref (Λ (2, a, b))] M Q QX := by
  obtain ⟨h2, hlen, hall, f, hf, hfL⟩ := hw
  have hcap := wLen_lt a b
  refine MS.of (by decide) (by simp [Value.category]) (Nat.le_of_ble_eq_true rfl) ?_
  show AW _ _ _ _ _ _ [some _] _ _
  refine r_aload_n (q := 1) dX2_size_0 rfl rfl ?_
  refine r_get (q := 4) (kk := 1) h2 rfl wi_RX2 (by decide) rfl fk_X2_7 rfl dX2_size_1 rfl ?_
  refine r_iret dX2_size_4 ?_
  exact hQ
theorem s_X2_at (hw : RW G Λ a b L M) {i : Int32} (hQ : Q (some (.int (rAt L i))) M) : MS G yX2_at cX2_at 2 (some .int) d 0 0 [.ref (Λ (2, a, b)), .int i] M Q QX := by
  obtain ⟨h2, hlen, hall, f, hf, hfL⟩ := hw
  have hcap := wLen_lt a b
  refine MS.of (by decide) (by simp [Value.category]) (Nat.le_of_ble_eq_true rfl) ?_
  show AW _ _ _ _ _ _ [some _, some _] _ _
  refine r_iload_n (q := 1) dX2_at_0 rfl rfl ?_
  refine r_if_lt (t := 30) (q := 4) dX2_at_1 rfl rfl (fun c1 => ?_) (fun c1 => ?_)
  · refine r_iconst (v := nI 0) (q := 31) dX2_at_30 (by decide) rfl ?_
    refine r_iret dX2_at_31 ?_
    first
      | exact (rAt_neg c1 ▸ hQ)
      | (rw [rAt_nI hj, getD_ge c9] at hQ; exact hQ)
      | (rw [rAt_nI hj] at hQ; rw [nI_clamp hj, hfL j (by omega)]; exact hQ)
  · obtain ⟨j, hj, rfl⟩ := nI_nat c1
    refine r_iload_n (q := 5) dX2_at_4 rfl rfl ?_
    refine r_aload_n (q := 6) dX2_at_5 rfl rfl ?_
    refine r_get (q := 9) (kk := 1) h2 rfl wi_RX2 (by decide) rfl fk_X2_7 rfl dX2_at_6 rfl ?_
    refine r_icmp_ge (t := 30) (q := 12) dX2_at_9 rfl rfl (fun c9 => ?_) (fun c9 => ?_)
    · simp (disch := omega) only [nI_leI, nI_ltI, nI_eq, nI_lt0, nI_ge0, nI_gt0, nI_le0, nI_eq0] at c9
      refine r_iconst (v := nI 0) (q := 31) dX2_at_30 (by decide) rfl ?_
      refine r_iret dX2_at_31 ?_
      first
        | exact (rAt_neg c1 ▸ hQ)
        | (rw [rAt_nI hj, getD_ge c9] at hQ; exact hQ)
        | (rw [rAt_nI hj] at hQ; rw [nI_clamp hj, hfL j (by omega)]; exact hQ)
    · simp (disch := omega) only [nI_leI, nI_ltI, nI_eq, nI_lt0, nI_ge0, nI_gt0, nI_le0, nI_eq0] at c9
      refine r_iload_n (q := 13) dX2_at_12 rfl rfl ?_
      refine r_aload_n (q := 14) dX2_at_13 rfl rfl ?_
      refine r_get (q := 17) (kk := 0) h2 rfl wi_RX2 (by decide) rfl fk_X2_13 rfl dX2_at_14 rfl ?_
      refine r_alen (q := 18) hf (t := 0) (v := nI (wLen a b)) rfl rfl dX2_at_17 rfl ?_
      refine r_icmp_ge (t := 30) (q := 21) dX2_at_18 rfl rfl (fun c18 => ?_) (fun c18 => ?_)
      · exact absurd c18 (by rw [nI_leI (by omega) (by omega)]; omega)
      · refine r_aload_n (q := 22) dX2_at_21 rfl rfl ?_
        refine r_get (q := 25) (kk := 0) h2 rfl wi_RX2 (by decide) rfl fk_X2_13 rfl dX2_at_22 rfl ?_
        refine r_iload_n (q := 26) dX2_at_25 rfl rfl ?_
        refine r_iald (q := 27) hf (vp_in_nI (by omega) (by omega)) dX2_at_26 rfl ?_
        refine r_goto (t := 31) dX2_at_27 rfl ?_
        refine r_iret dX2_at_31 ?_
        first
          | exact (rAt_neg c1 ▸ hQ)
          | (rw [rAt_nI hj, getD_ge c9] at hQ; exact hQ)
          | (rw [rAt_nI hj] at hQ; rw [nI_clamp hj, hfL j (by omega)]; exact hQ)
theorem s_X2_put (hw : RW G Λ a b L M) {i v : Int32} {x : Nat} (hv : v = nI x) (hx : x < 2 ^ 31) (hQ : ∀ M', RW G Λ a b (rPut L i x) M' → (∀ o : Ob, o ≠ (2, a, b) → o ≠ (3, a, b) → M' o = M o) → Q none M') : MS G yX2_put cX2_put 3 none d 0 0 [.ref (Λ (2, a, b)), .int i, .int v] M Q QX := by
  obtain ⟨h2, hlen, hall, f, hf, hfL⟩ := hw
  have hcap := wLen_lt a b
  refine MS.of (by decide) (by simp [Value.category]) (Nat.le_of_ble_eq_true rfl) ?_
  show AW _ _ _ _ _ _ [some _, some _, some _] _ _
  refine r_iload_n (q := 1) dX2_put_0 rfl rfl ?_
  refine r_if_lt (t := 28) (q := 4) dX2_put_1 rfl rfl (fun c1 => ?_) (fun c1 => ?_)
  · refine r_vret dX2_put_28 ?_
    first
      | exact hQ M (by rw [rPut, if_pos c1]; exact ⟨h2, hlen, hall, f, hf, hfL⟩) fun _ _ _ => rfl
      | exact hQ M (by rw [rPut_nI hj, List.set_eq_of_length_le c9]; exact ⟨h2, hlen, hall, f, hf, hfL⟩) fun _ _ _ => rfl
      | (refine hQ M1 ?_ fun o _ h3 => hO1 o h3
         rw [rPut_nI hj]
         rw [hv, nI_clamp hj] at hM1
         refine ⟨by rw [hO1 _ (by simp), List.length_set]; exact h2, by rw [List.length_set]; exact hlen, fun y hy => ?_, _, hM1, fun i hi => ?_⟩
         · rcases List.mem_or_eq_of_mem_set hy with h | rfl
           · exact hall y h
           · exact hx
         · rw [List.length_set] at hi
           by_cases hij : i = j
           · subst hij
             rw [upd_self, getD_lt (by rw [List.length_set]; exact hi), List.getElem_set_self]
           · rw [upd_ne hij, hfL i hi, getD_lt hi, getD_lt (by rw [List.length_set]; exact hi), List.getElem_set_ne (Ne.symm hij)])
  · obtain ⟨j, hj, rfl⟩ := nI_nat c1
    refine r_iload_n (q := 5) dX2_put_4 rfl rfl ?_
    refine r_aload_n (q := 6) dX2_put_5 rfl rfl ?_
    refine r_get (q := 9) (kk := 1) h2 rfl wi_RX2 (by decide) rfl fk_X2_7 rfl dX2_put_6 rfl ?_
    refine r_icmp_ge (t := 28) (q := 12) dX2_put_9 rfl rfl (fun c9 => ?_) (fun c9 => ?_)
    · simp (disch := omega) only [nI_leI, nI_ltI, nI_eq, nI_lt0, nI_ge0, nI_gt0, nI_le0, nI_eq0] at c9
      refine r_vret dX2_put_28 ?_
      first
        | exact hQ M (by rw [rPut, if_pos c1]; exact ⟨h2, hlen, hall, f, hf, hfL⟩) fun _ _ _ => rfl
        | exact hQ M (by rw [rPut_nI hj, List.set_eq_of_length_le c9]; exact ⟨h2, hlen, hall, f, hf, hfL⟩) fun _ _ _ => rfl
        | (refine hQ M1 ?_ fun o _ h3 => hO1 o h3
           rw [rPut_nI hj]
           rw [hv, nI_clamp hj] at hM1
           refine ⟨by rw [hO1 _ (by simp), List.length_set]; exact h2, by rw [List.length_set]; exact hlen, fun y hy => ?_, _, hM1, fun i hi => ?_⟩
           · rcases List.mem_or_eq_of_mem_set hy with h | rfl
             · exact hall y h
             · exact hx
           · rw [List.length_set] at hi
             by_cases hij : i = j
             · subst hij
               rw [upd_self, getD_lt (by rw [List.length_set]; exact hi), List.getElem_set_self]
             · rw [upd_ne hij, hfL i hi, getD_lt hi, getD_lt (by rw [List.length_set]; exact hi), List.getElem_set_ne (Ne.symm hij)])
    · simp (disch := omega) only [nI_leI, nI_ltI, nI_eq, nI_lt0, nI_ge0, nI_gt0, nI_le0, nI_eq0] at c9
      refine r_iload_n (q := 13) dX2_put_12 rfl rfl ?_
      refine r_aload_n (q := 14) dX2_put_13 rfl rfl ?_
      refine r_get (q := 17) (kk := 0) h2 rfl wi_RX2 (by decide) rfl fk_X2_13 rfl dX2_put_14 rfl ?_
      refine r_alen (q := 18) hf (t := 0) (v := nI (wLen a b)) rfl rfl dX2_put_17 rfl ?_
      refine r_icmp_ge (t := 28) (q := 21) dX2_put_18 rfl rfl (fun c18 => ?_) (fun c18 => ?_)
      · exact absurd c18 (by rw [nI_leI (by omega) (by omega)]; omega)
      · refine r_aload_n (q := 22) dX2_put_21 rfl rfl ?_
        refine r_get (q := 25) (kk := 0) h2 rfl wi_RX2 (by decide) rfl fk_X2_13 rfl dX2_put_22 rfl ?_
        refine r_iload_n (q := 26) dX2_put_25 rfl rfl ?_
        refine r_iload_n (q := 27) dX2_put_26 rfl rfl ?_
        refine r_iast' (q := 28) hf (vp_in_nI (by omega) (by omega)) dX2_put_27 rfl fun M1 hM1 hO1 => ?_
        refine r_vret dX2_put_28 ?_
        first
          | exact hQ M (by rw [rPut, if_pos c1]; exact ⟨h2, hlen, hall, f, hf, hfL⟩) fun _ _ _ => rfl
          | exact hQ M (by rw [rPut_nI hj, List.set_eq_of_length_le c9]; exact ⟨h2, hlen, hall, f, hf, hfL⟩) fun _ _ _ => rfl
          | (refine hQ M1 ?_ fun o _ h3 => hO1 o h3
             rw [rPut_nI hj]
             rw [hv, nI_clamp hj] at hM1
             refine ⟨by rw [hO1 _ (by simp), List.length_set]; exact h2, by rw [List.length_set]; exact hlen, fun y hy => ?_, _, hM1, fun i hi => ?_⟩
             · rcases List.mem_or_eq_of_mem_set hy with h | rfl
               · exact hall y h
               · exact hx
             · rw [List.length_set] at hi
               by_cases hij : i = j
               · subst hij
                 rw [upd_self, getD_lt (by rw [List.length_set]; exact hi), List.getElem_set_self]
               · rw [upd_ne hij, hfL i hi, getD_lt hi, getD_lt (by rw [List.length_set]; exact hi), List.getElem_set_ne (Ne.symm hij)])
theorem s_X2_raise (hw : RW G Λ a b L M) {i v : Int32} {x : Nat} (hv : rAt L i + v = nI x) (hx : x < 2 ^ 31) (hQ : ∀ M', RW G Λ a b (rPut L i x) M' → (∀ o : Ob, o ≠ (2, a, b) → o ≠ (3, a, b) → M' o = M o) → Q none M') : MS G yX2_raise cX2_raise 3 none (d + 1) 0 0 [.ref (Λ (2, a, b)), .int i, .int v] M Q QX := by
  have h2 := hw.1
  refine MS.of (by decide) (by simp [Value.category]) (Nat.le_of_ble_eq_true rfl) ?_
  show AW _ _ _ _ _ _ [some _, some _, some _] _ _
  refine r_aload_n (q := 1) dX2_raise_0 rfl rfl ?_
  refine r_iload_n (q := 2) dX2_raise_1 rfl rfl ?_
  refine r_aload_n (q := 3) dX2_raise_2 rfl rfl ?_
  refine r_iload_n (q := 4) dX2_raise_3 rfl rfl ?_
  refine r_invV (q := 7) (As := [.int _]) wc_X2_17 rfl im_X2_at se_X2_at h2 rfl rfl (Nat.le_of_ble_eq_true rfl) (Nat.le_of_eq (Nat.zero_add _)) (Nat.le_of_eq (Nat.zero_add _)) dX2_raise_4 rfl rfl (s_X2_at hw ?_)
  refine r_iload_n (q := 8) dX2_raise_7 rfl rfl ?_
  refine r_iadd (q := 9) dX2_raise_8 rfl ?_
  refine r_invV (q := 12) (As := [.int _, .int _]) wc_X2_21 rfl im_X2_put se_X2_put h2 rfl rfl (Nat.le_of_ble_eq_true rfl) (Nat.le_of_eq (Nat.zero_add _)) (Nat.le_of_eq (Nat.zero_add _)) dX2_raise_9 rfl rfl (s_X2_put hw hv hx fun M2 h5 h6 => ?_)
  refine r_vret dX2_raise_12 ?_
  exact hQ M2 h5 h6
theorem s_X2_add (hw : RW G Λ a b L M) {v : Int32} {x : Nat} (hv : v = nI x) (hx : x < 2 ^ 31) (hQ : ∀ M', RW G Λ a b (rAdd (wLen a b) L x) M' → (∀ o : Ob, o ≠ (2, a, b) → o ≠ (3, a, b) → M' o = M o) → Q none M') : MS G yX2_add cX2_add 2 none d 0 0 [.ref (Λ (2, a, b)), .int v] M Q QX := by
  obtain ⟨h2, hlen, hall, f, hf, hfL⟩ := hw
  have hcap := wLen_lt a b
  refine MS.of (by decide) (by simp [Value.category]) (Nat.le_of_ble_eq_true rfl) ?_
  show AW _ _ _ _ _ _ [some _, some _] _ _
  refine r_aload_n (q := 1) dX2_add_0 rfl rfl ?_
  refine r_get (q := 4) (kk := 1) h2 rfl wi_RX2 (by decide) rfl fk_X2_7 rfl dX2_add_1 rfl ?_
  refine r_if_lt (t := 39) (q := 7) dX2_add_4 rfl rfl (fun c4 => ?_) (fun c4 => ?_)
  · exact absurd c4 (nI_pos (by omega))
  · refine r_aload_n (q := 8) dX2_add_7 rfl rfl ?_
    refine r_get (q := 11) (kk := 1) h2 rfl wi_RX2 (by decide) rfl fk_X2_7 rfl dX2_add_8 rfl ?_
    refine r_aload_n (q := 12) dX2_add_11 rfl rfl ?_
    refine r_get (q := 15) (kk := 0) h2 rfl wi_RX2 (by decide) rfl fk_X2_13 rfl dX2_add_12 rfl ?_
    refine r_alen (q := 16) hf (t := 0) (v := nI (wLen a b)) rfl rfl dX2_add_15 rfl ?_
    refine r_icmp_ge (t := 39) (q := 19) dX2_add_16 rfl rfl (fun c16 => ?_) (fun c16 => ?_)
    · simp (disch := omega) only [nI_leI, nI_ltI, nI_eq, nI_lt0, nI_ge0, nI_gt0, nI_le0, nI_eq0] at c16
      refine r_vret dX2_add_39 ?_
      first
        | exact hQ M (by rw [rAdd, if_neg (by omega)]; exact ⟨h2, hlen, hall, f, hf, hfL⟩) fun _ _ _ => rfl
        | (refine hQ M2 ?_ fun o h8 h9 => (hO2 o h8).trans (hO1 o h9)
           rw [rAdd, if_pos (by omega)]
           rw [hv, nI_clamp (by omega)] at hM1
           refine ⟨by rw [hM2, List.length_append, List.length_singleton, ← nI_add]; rfl, by rw [List.length_append, List.length_singleton]; omega, fun y hy => ?_, _, (hO2 _ (by simp)).trans hM1, fun i hi => ?_⟩
           · rcases List.mem_append.mp hy with h | h
             · exact hall y h
             · rw [List.mem_singleton.mp h]; exact hx
           · rw [List.length_append, List.length_singleton] at hi
             by_cases hij : i = L.length
             · subst hij
               rw [upd_self, getD_lt (by rw [List.length_append, List.length_singleton]; omega), List.getElem_append_right (by omega)]
               simp
             · rw [upd_ne hij, hfL i (by omega), getD_lt (by omega), getD_lt (by rw [List.length_append, List.length_singleton]; omega), List.getElem_append_left])
    · simp (disch := omega) only [nI_leI, nI_ltI, nI_eq, nI_lt0, nI_ge0, nI_gt0, nI_le0, nI_eq0] at c16
      refine r_aload_n (q := 20) dX2_add_19 rfl rfl ?_
      refine r_get (q := 23) (kk := 0) h2 rfl wi_RX2 (by decide) rfl fk_X2_13 rfl dX2_add_20 rfl ?_
      refine r_aload_n (q := 24) dX2_add_23 rfl rfl ?_
      refine r_get (q := 27) (kk := 1) h2 rfl wi_RX2 (by decide) rfl fk_X2_7 rfl dX2_add_24 rfl ?_
      refine r_iload_n (q := 28) dX2_add_27 rfl rfl ?_
      refine r_iast' (q := 29) hf (vp_in_nI (by omega) (by omega)) dX2_add_28 rfl fun M1 hM1 hO1 => ?_
      have h21 := (hO1 (2, a, b) (by simp)).trans h2
      refine r_aload_n (q := 30) dX2_add_29 rfl rfl ?_
      refine r_dup (q := 31) dX2_add_30 rfl rfl ?_
      refine r_get (q := 34) (kk := 1) h21 rfl wi_RX2 (by decide) rfl fk_X2_7 rfl dX2_add_31 rfl ?_
      refine r_iconst (v := nI 1) (q := 35) dX2_add_34 (by decide) rfl ?_
      refine r_iadd (q := 36) dX2_add_35 rfl ?_
      refine r_put' (q := 39) (kk := 1) (ty0 := tyX2) h21 rfl wi_RX2 tyX2_ok nmX2 (by decide) (Or.inl rfl) rfl fk_X2_7 rfl rfl (Nat.le_of_ble_eq_true rfl) dX2_add_36 rfl fun M2 hM2 hO2 => ?_
      refine r_vret dX2_add_39 ?_
      first
        | exact hQ M (by rw [rAdd, if_neg (by omega)]; exact ⟨h2, hlen, hall, f, hf, hfL⟩) fun _ _ _ => rfl
        | (refine hQ M2 ?_ fun o h8 h9 => (hO2 o h8).trans (hO1 o h9)
           rw [rAdd, if_pos (by omega)]
           rw [hv, nI_clamp (by omega)] at hM1
           refine ⟨by rw [hM2, List.length_append, List.length_singleton, ← nI_add]; rfl, by rw [List.length_append, List.length_singleton]; omega, fun y hy => ?_, _, (hO2 _ (by simp)).trans hM1, fun i hi => ?_⟩
           · rcases List.mem_append.mp hy with h | h
             · exact hall y h
             · rw [List.mem_singleton.mp h]; exact hx
           · rw [List.length_append, List.length_singleton] at hi
             by_cases hij : i = L.length
             · subst hij
               rw [upd_self, getD_lt (by rw [List.length_append, List.length_singleton]; omega), List.getElem_append_right (by omega)]
               simp
             · rw [upd_ne hij, hfL i (by omega), getD_lt (by omega), getD_lt (by rw [List.length_append, List.length_singleton]; omega), List.getElem_append_left])
theorem s_X2_shorten (hw : RW G Λ a b L M) {m : Nat} (hm : m < 2 ^ 31) (hQ : ∀ M', RW G Λ a b (L.take m) M' → (∀ o : Ob, o ≠ (2, a, b) → o ≠ (3, a, b) → M' o = M o) → Q none M') : MS G yX2_shorten cX2_shorten 2 none (d + 1) 0 0 [.ref (Λ (2, a, b)), .int (nI m)] M Q QX := by
  obtain ⟨h2, hlen, hall, f, hf, hfL⟩ := hw
  have hcap := wLen_lt a b
  refine MS.of (by decide) (by simp [Value.category]) (Nat.le_of_ble_eq_true rfl) ?_
  show AW _ _ _ _ _ _ [some _, some _] _ _
  refine r_aload_n (q := 1) dX2_shorten_0 rfl rfl ?_
  refine r_iconst (v := nI 0) (q := 2) dX2_shorten_1 (by decide) rfl ?_
  refine r_iload_n (q := 3) dX2_shorten_2 rfl rfl ?_
  refine r_aload_n (q := 4) dX2_shorten_3 rfl rfl ?_
  refine r_get (q := 7) (kk := 1) h2 rfl wi_RX2 (by decide) rfl fk_X2_7 rfl dX2_shorten_4 rfl ?_
  refine r_mmin (q := 10) ml_X2_25 dX2_shorten_7 rfl (Nat.le_of_ble_eq_true rfl) ?_
  rw [min_nI (by omega) (by omega)]
  refine r_mmax (q := 13) ml_X2_31 dX2_shorten_10 rfl (Nat.le_of_ble_eq_true rfl) ?_
  rw [max0_nI (by omega)]
  refine r_put' (q := 16) (kk := 1) (ty0 := tyX2) h2 rfl wi_RX2 tyX2_ok nmX2 (by decide) (Or.inl rfl) rfl fk_X2_7 rfl rfl (Nat.le_of_ble_eq_true rfl) dX2_shorten_13 rfl fun M2 hM2 hO2 => ?_
  refine r_vret dX2_shorten_16 ?_
  refine hQ M2 ?_ fun o h8 _ => hO2 o h8
  have hl2 : (L.take m).length = min m L.length := List.length_take
  refine ⟨by rw [hM2, hl2]; rfl, by omega, fun y hy => hall y (List.mem_of_mem_take hy), f, (hO2 _ (by simp)).trans hf, fun i hi => ?_⟩
  rw [hl2] at hi
  rw [hfL i (by omega), getD_lt (by omega), getD_lt (by omega), List.getElem_take]
theorem s_X2_total (hw : RW G Λ a b L M) (hQ : Q (some (.int (nI L.sum))) M) : MS G yX2_total cX2_total 3 (some .int) d 0 0 [.ref (Λ (2, a, b))] M Q QX := by
  obtain ⟨h2, hlen, hall, f, hf, hfL⟩ := hw
  have hcap := wLen_lt a b
  have loop : ∀ m j, m = L.length - j → j ≤ L.length → AW G (wX G yX2_total cX2_total 3 (some .int) 0 0 Q QX) d 0 0 4 [some (.ref (Λ (2, a, b))), some (.int (nI (L.take j).sum)), some (.int (nI j))] [] M := by
    intro m
    induction m using Nat.strongRecOn with
    | _ m ih =>
    intro j hm hj
    subst hm
    refine r_iload_n (q := 5) dX2_total_4 rfl rfl ?_
    refine r_aload_n (q := 6) dX2_total_5 rfl rfl ?_
    refine r_get (q := 9) (kk := 1) h2 rfl wi_RX2 (by decide) rfl fk_X2_7 rfl dX2_total_6 rfl ?_
    refine r_icmp_ge (t := 36) (q := 12) dX2_total_9 rfl rfl (fun c9 => ?_) (fun c9 => ?_)
    · simp (disch := omega) only [nI_leI, nI_ltI, nI_eq, nI_lt0, nI_ge0, nI_gt0, nI_le0, nI_eq0] at c9
      refine r_iload_n (q := 37) dX2_total_36 rfl rfl ?_
      refine r_iret dX2_total_37 ?_
      rw [List.take_of_length_le c9]; exact hQ
    · simp (disch := omega) only [nI_leI, nI_ltI, nI_eq, nI_lt0, nI_ge0, nI_gt0, nI_le0, nI_eq0] at c9
      refine r_iload_n (q := 13) dX2_total_12 rfl rfl ?_
      refine r_aload_n (q := 14) dX2_total_13 rfl rfl ?_
      refine r_get (q := 17) (kk := 0) h2 rfl wi_RX2 (by decide) rfl fk_X2_13 rfl dX2_total_14 rfl ?_
      refine r_alen (q := 18) hf (t := 0) (v := nI (wLen a b)) rfl rfl dX2_total_17 rfl ?_
      refine r_icmp_ge (t := 36) (q := 21) dX2_total_18 rfl rfl (fun c18 => ?_) (fun c18 => ?_)
      · exact absurd c18 (by rw [nI_leI (by omega) (by omega)]; omega)
      · have e : nI (L.take j).sum + f (nI j).toNatClampNeg = nI (L.take (j + 1)).sum := by
              rw [nI_clamp (by omega), hfL j (by omega), nI_add, List.take_succ, List.sum_append, List.getD_eq_getElem?_getD, List.getElem?_eq_getElem (by omega)]
              simp
        refine r_iload_n (q := 22) dX2_total_21 rfl rfl ?_
        refine r_aload_n (q := 23) dX2_total_22 rfl rfl ?_
        refine r_get (q := 26) (kk := 0) h2 rfl wi_RX2 (by decide) rfl fk_X2_13 rfl dX2_total_23 rfl ?_
        refine r_iload_n (q := 27) dX2_total_26 rfl rfl ?_
        refine r_iald (q := 28) hf (vp_in_nI (by omega) (by omega)) dX2_total_27 rfl ?_
        refine r_iadd (q := 29) dX2_total_28 rfl ?_
        refine r_istore_n (q := 30) dX2_total_29 (Nat.le_of_ble_eq_true rfl) rfl rfl ?_
        show AW _ _ _ _ _ _ [some _, some _, some _] _ _
        refine r_inc1 (q := 33) dX2_total_30 rfl (Nat.le_of_ble_eq_true rfl) rfl rfl ?_
        show AW _ _ _ _ _ _ [some _, some _, some _] _ _
        refine r_goto (t := 4) dX2_total_33 rfl ?_
        rw [e]
        exact ih (L.length - (j + 1)) (by omega) (j + 1) rfl (by omega)
  refine MS.of (by decide) (by simp [Value.category]) (Nat.le_of_ble_eq_true rfl) ?_
  show AW _ _ _ _ _ _ [some _, none, none] _ _
  refine r_iconst (v := nI 0) (q := 1) dX2_total_0 (by decide) rfl ?_
  refine r_istore_n (q := 2) dX2_total_1 (Nat.le_of_ble_eq_true rfl) rfl rfl ?_
  show AW _ _ _ _ _ _ [some _, some _, none] _ _
  refine r_iconst (v := nI 0) (q := 3) dX2_total_2 (by decide) rfl ?_
  refine r_istore_n (q := 4) dX2_total_3 (Nat.le_of_ble_eq_true rfl) rfl rfl ?_
  show AW _ _ _ _ _ _ [some _, some _, some _] _ _
  exact loop _ 0 rfl (by omega)
theorem s_X2_numberAboveZero (hw : RW G Λ a b L M) (hQ : Q (some (.int (nI (L.countP (0 < ·))))) M) : MS G yX2_numberAboveZero cX2_numberAboveZero 3 (some .int) d 0 0 [.ref (Λ (2, a, b))] M Q QX := by
  obtain ⟨h2, hlen, hall, f, hf, hfL⟩ := hw
  have hcap := wLen_lt a b
  have loop : ∀ m j, m = L.length - j → j ≤ L.length → AW G (wX G yX2_numberAboveZero cX2_numberAboveZero 3 (some .int) 0 0 Q QX) d 0 0 4 [some (.ref (Λ (2, a, b))), some (.int (nI ((L.take j).countP (0 < ·)))), some (.int (nI j))] [] M := by
    intro m
    induction m using Nat.strongRecOn with
    | _ m ih =>
    intro j hm hj
    subst hm
    refine r_iload_n (q := 5) dX2_numberAboveZero_4 rfl rfl ?_
    refine r_aload_n (q := 6) dX2_numberAboveZero_5 rfl rfl ?_
    refine r_get (q := 9) (kk := 1) h2 rfl wi_RX2 (by decide) rfl fk_X2_7 rfl dX2_numberAboveZero_6 rfl ?_
    refine r_icmp_ge (t := 39) (q := 12) dX2_numberAboveZero_9 rfl rfl (fun c9 => ?_) (fun c9 => ?_)
    · simp (disch := omega) only [nI_leI, nI_ltI, nI_eq, nI_lt0, nI_ge0, nI_gt0, nI_le0, nI_eq0] at c9
      refine r_iload_n (q := 40) dX2_numberAboveZero_39 rfl rfl ?_
      refine r_iret dX2_numberAboveZero_40 ?_
      rw [List.take_of_length_le c9]; exact hQ
    · simp (disch := omega) only [nI_leI, nI_ltI, nI_eq, nI_lt0, nI_ge0, nI_gt0, nI_le0, nI_eq0] at c9
      refine r_iload_n (q := 13) dX2_numberAboveZero_12 rfl rfl ?_
      refine r_aload_n (q := 14) dX2_numberAboveZero_13 rfl rfl ?_
      refine r_get (q := 17) (kk := 0) h2 rfl wi_RX2 (by decide) rfl fk_X2_13 rfl dX2_numberAboveZero_14 rfl ?_
      refine r_alen (q := 18) hf (t := 0) (v := nI (wLen a b)) rfl rfl dX2_numberAboveZero_17 rfl ?_
      refine r_icmp_ge (t := 39) (q := 21) dX2_numberAboveZero_18 rfl rfl (fun c18 => ?_) (fun c18 => ?_)
      · exact absurd c18 (by rw [nI_leI (by omega) (by omega)]; omega)
      · refine r_aload_n (q := 22) dX2_numberAboveZero_21 rfl rfl ?_
        refine r_get (q := 25) (kk := 0) h2 rfl wi_RX2 (by decide) rfl fk_X2_13 rfl dX2_numberAboveZero_22 rfl ?_
        refine r_iload_n (q := 26) dX2_numberAboveZero_25 rfl rfl ?_
        refine r_iald (q := 27) hf (vp_in_nI (by omega) (by omega)) dX2_numberAboveZero_26 rfl ?_
        rw [nI_clamp (by omega), hfL j (by omega)]
        have hb1 : L.getD j 0 < 2 ^ 31 := getD_all (by omega) hall j
        have e0 : L.take (j + 1) = L.take j ++ [L.getD j 0] := by rw [List.take_succ, List.getElem?_eq_getElem (by omega), getD_lt (by omega)]; rfl
        refine r_if_le (t := 33) (q := 30) dX2_numberAboveZero_27 rfl rfl (fun c27 => ?_) (fun c27 => ?_)
        · simp (disch := omega) only [nI_leI, nI_ltI, nI_eq, nI_lt0, nI_ge0, nI_gt0, nI_le0, nI_eq0] at c27
          have e : nI ((L.take j).countP (0 < ·)) = nI ((L.take (j + 1)).countP (0 < ·)) := by
                  rw [e0, List.countP_append, List.countP_singleton, if_neg (by rw [c27]; decide)]; rfl
          refine r_inc1 (q := 36) dX2_numberAboveZero_33 rfl (Nat.le_of_ble_eq_true rfl) rfl rfl ?_
          show AW _ _ _ _ _ _ [some _, some _, some _] _ _
          refine r_goto (t := 4) dX2_numberAboveZero_36 rfl ?_
          rw [e]
          exact ih (L.length - (j + 1)) (by omega) (j + 1) rfl (by omega)
        · simp (disch := omega) only [nI_leI, nI_ltI, nI_eq, nI_lt0, nI_ge0, nI_gt0, nI_le0, nI_eq0] at c27
          have e : nI ((L.take j).countP (0 < ·) + 1) = nI ((L.take (j + 1)).countP (0 < ·)) := by
                  rw [e0, List.countP_append, List.countP_singleton, if_pos (decide_eq_true (by omega))]
          refine r_inc1 (q := 33) dX2_numberAboveZero_30 rfl (Nat.le_of_ble_eq_true rfl) rfl rfl ?_
          show AW _ _ _ _ _ _ [some _, some _, some _] _ _
          refine r_inc1 (q := 36) dX2_numberAboveZero_33 rfl (Nat.le_of_ble_eq_true rfl) rfl rfl ?_
          show AW _ _ _ _ _ _ [some _, some _, some _] _ _
          refine r_goto (t := 4) dX2_numberAboveZero_36 rfl ?_
          rw [e]
          exact ih (L.length - (j + 1)) (by omega) (j + 1) rfl (by omega)
  refine MS.of (by decide) (by simp [Value.category]) (Nat.le_of_ble_eq_true rfl) ?_
  show AW _ _ _ _ _ _ [some _, none, none] _ _
  refine r_iconst (v := nI 0) (q := 1) dX2_numberAboveZero_0 (by decide) rfl ?_
  refine r_istore_n (q := 2) dX2_numberAboveZero_1 (Nat.le_of_ble_eq_true rfl) rfl rfl ?_
  show AW _ _ _ _ _ _ [some _, some _, none] _ _
  refine r_iconst (v := nI 0) (q := 3) dX2_numberAboveZero_2 (by decide) rfl ?_
  refine r_istore_n (q := 4) dX2_numberAboveZero_3 (Nat.le_of_ble_eq_true rfl) rfl rfl ?_
  show AW _ _ _ _ _ _ [some _, some _, some _] _ _
  exact loop _ 0 rfl (by omega)
theorem s_X2_fill (hw : RW G Λ a b L M) {m x : Nat} {v : Int32} (hm : m < 2 ^ 31) (hv : v = nI x) (hx : x < 2 ^ 31) (hQ : ∀ M', RW G Λ a b (List.replicate (min m (wLen a b)) x) M' → (∀ o : Ob, o ≠ (2, a, b) → o ≠ (3, a, b) → M' o = M o) → Q none M') : MS G yX2_fill cX2_fill 4 none (d + 1) 0 0 [.ref (Λ (2, a, b)), .int (nI m), .int v] M Q QX := by
  obtain ⟨h2, hlen, hall, f, hf, hfL⟩ := hw
  have hcap := wLen_lt a b
  obtain ⟨n1, hn1⟩ : ∃ n1, n1 = min m (wLen a b) := ⟨_, rfl⟩
  rw [← hn1] at hQ
  have loop : ∀ μ i (M2 : Me) (f2 : Nat → Int32), μ = n1 - i → i ≤ n1 → M2 (2, a, b) = some (Λ (2, a, b), .inr (3, [.ref (Λ (3, a, b)), .int (nI n1)])) → M2 (3, a, b) = some (Λ (3, a, b), .inl (G.2.2.1 0, wLen a b, .inl f2)) → (∀ j, j < i → f2 j = nI x) → (∀ o : Ob, o ≠ (2, a, b) → o ≠ (3, a, b) → M2 o = M o) → AW G (wX G yX2_fill cX2_fill 4 none 0 0 Q QX) (d + 1) 0 0 19 [some (.ref (Λ (2, a, b))), some (.int (nI m)), some (.int v), some (.int (nI i))] [] M2 := by
    intro μ
    induction μ using Nat.strongRecOn with
    | _ μ ih =>
    intro i M2 f2 hμ hi g2 g3 gf go
    subst hμ
    refine r_iload_n (q := 20) dX2_fill_19 rfl rfl ?_
    refine r_aload_n (q := 21) dX2_fill_20 rfl rfl ?_
    refine r_get (q := 24) (kk := 1) g2 rfl wi_RX2 (by decide) rfl fk_X2_7 rfl dX2_fill_21 rfl ?_
    refine r_icmp_ge (t := 49) (q := 27) dX2_fill_24 rfl rfl (fun c24 => ?_) (fun c24 => ?_)
    · simp (disch := omega) only [nI_leI, nI_ltI, nI_eq, nI_lt0, nI_ge0, nI_gt0, nI_le0, nI_eq0] at c24
      refine r_vret dX2_fill_49 ?_
      obtain rfl : i = n1 := by omega
      refine hQ M2 ⟨by rw [List.length_replicate]; exact g2, by rw [List.length_replicate]; omega, fun y hy => by rw [(List.mem_replicate.mp hy).2]; exact hx, f2, g3, fun j hj => ?_⟩ go
      rw [List.length_replicate] at hj
      rw [gf j hj, getD_lt (by rw [List.length_replicate]; exact hj), List.getElem_replicate]
    · simp (disch := omega) only [nI_leI, nI_ltI, nI_eq, nI_lt0, nI_ge0, nI_gt0, nI_le0, nI_eq0] at c24
      refine r_iload_n (q := 28) dX2_fill_27 rfl rfl ?_
      refine r_aload_n (q := 29) dX2_fill_28 rfl rfl ?_
      refine r_get (q := 32) (kk := 0) g2 rfl wi_RX2 (by decide) rfl fk_X2_13 rfl dX2_fill_29 rfl ?_
      refine r_alen (q := 33) g3 (t := 0) (v := nI (wLen a b)) rfl rfl dX2_fill_32 rfl ?_
      refine r_icmp_ge (t := 49) (q := 36) dX2_fill_33 rfl rfl (fun c33 => ?_) (fun c33 => ?_)
      · exact absurd c33 (by rw [nI_leI (by omega) (by omega)]; omega)
      · refine r_aload_n (q := 37) dX2_fill_36 rfl rfl ?_
        refine r_get (q := 40) (kk := 0) g2 rfl wi_RX2 (by decide) rfl fk_X2_13 rfl dX2_fill_37 rfl ?_
        refine r_iload_n (q := 41) dX2_fill_40 rfl rfl ?_
        refine r_iload_n (q := 42) dX2_fill_41 rfl rfl ?_
        refine r_iast' (q := 43) g3 (vp_in_nI (by omega) (by omega)) dX2_fill_42 rfl fun M3 hM3 hO3 => ?_
        refine r_inc1 (q := 46) dX2_fill_43 rfl (Nat.le_of_ble_eq_true rfl) rfl rfl ?_
        show AW _ _ _ _ _ _ [some _, some _, some _, some _] _ _
        refine r_goto (t := 19) dX2_fill_46 rfl ?_
        exact ih (n1 - (i + 1)) (by omega) (i + 1) M3 _ rfl (by omega) ((hO3 _ (by simp)).trans g2) hM3 (fun j hj => by
          rw [nI_clamp (by omega)]
          by_cases hji : j = i
          · subst hji; rw [upd_self]; exact hv
          · rw [upd_ne hji]; exact gf j (by omega)) fun o h8 h9 => (hO3 o h9).trans (go o h8 h9)
  refine MS.of (by decide) (by simp [Value.category]) (Nat.le_of_ble_eq_true rfl) ?_
  show AW _ _ _ _ _ _ [some _, some _, some _, none] _ _
  refine r_aload_n (q := 1) dX2_fill_0 rfl rfl ?_
  refine r_iconst (v := nI 0) (q := 2) dX2_fill_1 (by decide) rfl ?_
  refine r_iload_n (q := 3) dX2_fill_2 rfl rfl ?_
  refine r_aload_n (q := 4) dX2_fill_3 rfl rfl ?_
  refine r_get (q := 7) (kk := 0) h2 rfl wi_RX2 (by decide) rfl fk_X2_13 rfl dX2_fill_4 rfl ?_
  refine r_alen (q := 8) hf (t := 0) (v := nI (wLen a b)) rfl rfl dX2_fill_7 rfl ?_
  refine r_mmin (q := 11) ml_X2_25 dX2_fill_8 rfl (Nat.le_of_ble_eq_true rfl) ?_
  rw [min_nI (by omega) (by omega)]
  refine r_mmax (q := 14) ml_X2_31 dX2_fill_11 rfl (Nat.le_of_ble_eq_true rfl) ?_
  rw [max0_nI (by omega), ← hn1]
  refine r_put' (q := 17) (kk := 1) (ty0 := tyX2) h2 rfl wi_RX2 tyX2_ok nmX2 (by decide) (Or.inl rfl) rfl fk_X2_7 rfl rfl (Nat.le_of_ble_eq_true rfl) dX2_fill_14 rfl fun M2 hM2 hO2 => ?_
  refine r_iconst (v := nI 0) (q := 18) dX2_fill_17 (by decide) rfl ?_
  refine r_istore_n (q := 19) dX2_fill_18 (Nat.le_of_ble_eq_true rfl) rfl rfl ?_
  show AW _ _ _ _ _ _ [some _, some _, some _, some _] _ _
  exact loop _ 0 M2 f rfl (by omega) hM2 ((hO2 _ (by simp)).trans hf) (fun j hj => by omega) fun o h8 _ => hO2 o h8

theorem s_X2_copyFrom {a2 b2 : Nat} {L2 : List Nat} (hw : RW G Λ a b L M) (hw2 : RW G Λ a2 b2 L2 M) (hab : ((2, a2, b2) : Ob) ≠ (2, a, b)) (hQ : ∀ M', RW G Λ a b (L2.take (wLen a b)) M' → (∀ o : Ob, o ≠ (2, a, b) → o ≠ (3, a, b) → M' o = M o) → Q none M') : MS G yX2_copyFrom cX2_copyFrom 3 none (d + 1) 0 0 [.ref (Λ (2, a, b)), .ref (Λ (2, a2, b2))] M Q QX := by
  have h22 := hw2.1
  have hlen2 := hw2.2.1
  have hall2 := hw2.2.2.1
  have hcap2 := wLen_lt a2 b2
  have hab3 : ((3, a2, b2) : Ob) ≠ (3, a, b) := fun e => hab (by simp only [Prod.mk.injEq, true_and] at e ⊢; exact e)
  obtain ⟨h2, hlen, hall, f, hf, hfL⟩ := hw
  have hcap := wLen_lt a b
  obtain ⟨n1, hn1⟩ : ∃ n1, n1 = min L2.length (wLen a b) := ⟨_, rfl⟩
  have loop : ∀ μ i (M2 : Me) (f2 : Nat → Int32), μ = n1 - i → i ≤ n1 → M2 (2, a, b) = some (Λ (2, a, b), .inr (3, [.ref (Λ (3, a, b)), .int (nI n1)])) → M2 (3, a, b) = some (Λ (3, a, b), .inl (G.2.2.1 0, wLen a b, .inl f2)) → (∀ j, j < i → f2 j = nI (L2.getD j 0)) → (∀ o : Ob, o ≠ (2, a, b) → o ≠ (3, a, b) → M2 o = M o) → AW G (wX G yX2_copyFrom cX2_copyFrom 3 none 0 0 Q QX) (d + 1) 0 0 18 [some (.ref (Λ (2, a, b))), some (.ref (Λ (2, a2, b2))), some (.int (nI i))] [] M2 := by
    intro μ
    induction μ using Nat.strongRecOn with
    | _ μ ih =>
    intro i M2 f2 hμ hi g2 g3 gf go
    subst hμ
    refine r_iload_n (q := 19) dX2_copyFrom_18 rfl rfl ?_
    refine r_aload_n (q := 20) dX2_copyFrom_19 rfl rfl ?_
    refine r_get (q := 23) (kk := 1) g2 rfl wi_RX2 (by decide) rfl fk_X2_7 rfl dX2_copyFrom_20 rfl ?_
    refine r_icmp_ge (t := 52) (q := 26) dX2_copyFrom_23 rfl rfl (fun c23 => ?_) (fun c23 => ?_)
    · simp (disch := omega) only [nI_leI, nI_ltI, nI_eq, nI_lt0, nI_ge0, nI_gt0, nI_le0, nI_eq0] at c23
      refine r_vret dX2_copyFrom_52 ?_
      obtain rfl : i = n1 := by omega
      have hl2 : (L2.take (wLen a b)).length = i := by rw [List.length_take, hn1, Nat.min_comm]
      refine hQ M2 ⟨by rw [hl2]; exact g2, by omega, fun y hy => hall2 y (List.mem_of_mem_take hy), f2, g3, fun j hj => ?_⟩ go
      rw [hl2] at hj
      rw [gf j hj, getD_lt (by omega), getD_lt (by omega), List.getElem_take]
    · simp (disch := omega) only [nI_leI, nI_ltI, nI_eq, nI_lt0, nI_ge0, nI_gt0, nI_le0, nI_eq0] at c23
      refine r_iload_n (q := 27) dX2_copyFrom_26 rfl rfl ?_
      refine r_aload_n (q := 28) dX2_copyFrom_27 rfl rfl ?_
      refine r_get (q := 31) (kk := 0) g2 rfl wi_RX2 (by decide) rfl fk_X2_13 rfl dX2_copyFrom_28 rfl ?_
      refine r_alen (q := 32) g3 (t := 0) (v := nI (wLen a b)) rfl rfl dX2_copyFrom_31 rfl ?_
      refine r_icmp_ge (t := 52) (q := 35) dX2_copyFrom_32 rfl rfl (fun c32 => ?_) (fun c32 => ?_)
      · exact absurd c32 (by rw [nI_leI (by omega) (by omega)]; omega)
      · refine r_aload_n (q := 36) dX2_copyFrom_35 rfl rfl ?_
        refine r_get (q := 39) (kk := 0) g2 rfl wi_RX2 (by decide) rfl fk_X2_13 rfl dX2_copyFrom_36 rfl ?_
        refine r_iload_n (q := 40) dX2_copyFrom_39 rfl rfl ?_
        refine r_aload_n (q := 41) dX2_copyFrom_40 rfl rfl ?_
        refine r_iload_n (q := 42) dX2_copyFrom_41 rfl rfl ?_
        refine r_invV (q := 45) (As := [.int _]) wc_X2_17 rfl im_X2_at se_X2_at ((go _ hab (by simp)).trans h22) rfl rfl (Nat.le_of_ble_eq_true rfl) (Nat.le_of_eq (Nat.zero_add _)) (Nat.le_of_eq (Nat.zero_add _)) dX2_copyFrom_42 rfl rfl (s_X2_at (L := L2) (hw2.kept (go _ hab (by simp)) (go _ (by simp) hab3)) ?_)
        rw [rAt_nI (by omega)]
        refine r_iast' (q := 46) g3 (vp_in_nI (by omega) (by omega)) dX2_copyFrom_45 rfl fun M3 hM3 hO3 => ?_
        refine r_inc1 (q := 49) dX2_copyFrom_46 rfl (Nat.le_of_ble_eq_true rfl) rfl rfl ?_
        show AW _ _ _ _ _ _ [some _, some _, some _] _ _
        refine r_goto (t := 18) dX2_copyFrom_49 rfl ?_
        exact ih (n1 - (i + 1)) (by omega) (i + 1) M3 _ rfl (by omega) ((hO3 _ (by simp)).trans g2) hM3 (fun j hj => by
          rw [nI_clamp (by omega)]
          by_cases hji : j = i
          · subst hji; rw [upd_self]
          · rw [upd_ne hji]; exact gf j (by omega)) fun o h8 h9 => (hO3 o h9).trans (go o h8 h9)
  refine MS.of (by decide) (by simp [Value.category]) (Nat.le_of_ble_eq_true rfl) ?_
  show AW _ _ _ _ _ _ [some _, some _, none] _ _
  refine r_aload_n (q := 1) dX2_copyFrom_0 rfl rfl ?_
  refine r_aload_n (q := 2) dX2_copyFrom_1 rfl rfl ?_
  refine r_invV (q := 5) (As := []) wc_X2_34 rfl im_X2_size se_X2_size h22 rfl rfl (Nat.le_of_ble_eq_true rfl) (Nat.le_of_eq (Nat.zero_add _)) (Nat.le_of_eq (Nat.zero_add _)) dX2_copyFrom_2 rfl rfl (s_X2_size hw2 ?_)
  refine r_aload_n (q := 6) dX2_copyFrom_5 rfl rfl ?_
  refine r_get (q := 9) (kk := 0) h2 rfl wi_RX2 (by decide) rfl fk_X2_13 rfl dX2_copyFrom_6 rfl ?_
  refine r_alen (q := 10) hf (t := 0) (v := nI (wLen a b)) rfl rfl dX2_copyFrom_9 rfl ?_
  refine r_mmin (q := 13) ml_X2_25 dX2_copyFrom_10 rfl (Nat.le_of_ble_eq_true rfl) ?_
  rw [min_nI (by omega) (by omega), ← hn1]
  refine r_put' (q := 16) (kk := 1) (ty0 := tyX2) h2 rfl wi_RX2 tyX2_ok nmX2 (by decide) (Or.inl rfl) rfl fk_X2_7 rfl rfl (Nat.le_of_ble_eq_true rfl) dX2_copyFrom_13 rfl fun M2 hM2 hO2 => ?_
  refine r_iconst (v := nI 0) (q := 17) dX2_copyFrom_16 (by decide) rfl ?_
  refine r_istore_n (q := 18) dX2_copyFrom_17 (Nat.le_of_ble_eq_true rfl) rfl rfl ?_
  show AW _ _ _ _ _ _ [some _, some _, some _] _ _
  exact loop _ 0 M2 f rfl (by omega) hM2 ((hO2 _ (by simp)).trans hf) (fun j hj => by omega) fun o h8 _ => hO2 o h8

end W21
