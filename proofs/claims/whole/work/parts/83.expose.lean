/-! ONE STATE, TWICE: kept when a lie is exposed -/
section W83
variable {S : St} {F : Nat → Nat} {n : Nat} {L : List Nat}
theorem filt_set {p : Nat → Bool} : ∀ (L : List Nat) (i x : Nat), i < L.length → p (L.getD i 0) = true → p x = false → (L.set i x).filter p = (L.filter p).eraseIdx ((L.take i).countP p)
  | [], i, x, h, _, _ => absurd h (Nat.not_lt_zero _)
  | y :: L, 0, x, _, hp, hx => by
    replace hp : p y = true := hp
    show (x :: L).filter p = ((y :: L).filter p).eraseIdx 0
    rw [List.filter_cons_of_neg (by rw [hx]; decide), List.filter_cons_of_pos hp]; rfl
  | y :: L, i + 1, x, h, hp, hx => by
    have ih := filt_set L i x (by simpa using h) hp hx
    show (y :: L.set i x).filter p = ((y :: L).filter p).eraseIdx ((y :: L.take i).countP p)
    by_cases g : p y = true
    · rw [List.filter_cons_of_pos g, List.filter_cons_of_pos g, List.countP_cons_of_pos g, List.eraseIdx_cons_succ, ih]
    · rw [List.filter_cons_of_neg g, List.filter_cons_of_neg g, List.countP_cons_of_neg g, ih]
theorem getD_er {a j : Nat} : (L.eraseIdx a).getD j 0 = if j < a then L.getD j 0 else L.getD (j + 1) 0 := by
  rw [List.getD_eq_getElem?_getD, List.getElem?_eraseIdx]
  split
  · rw [List.getD_eq_getElem?_getD]
  · rw [List.getD_eq_getElem?_getD]
theorem EN.place2 (h : EN S F) {j i : Nat} (e : gWh (S.1 11) j = some i) (hx : dX ((S.1 11).getD i 0) = false) : ((S.1 11).take i).countP (fun s => !dX s) < F 1 ∧ (∀ i', i' < ((S.1 11).take i).countP (fun s => !dX s) → ¬ isW F j i') ∧ isW F j (((S.1 11).take i).countP (fun s => !dX s)) := by
  have hi := gWh_lt e
  replace hx : (!dX ((S.1 11).getD i 0)) = true := by rw [hx]; rfl
  have hw := List.find?_some e
  rw [Bool.and_eq_true, decide_eq_true_eq, decide_eq_true_eq] at hw
  obtain ⟨f1, f2⟩ := filt_pos (p := fun s => !dX s) hi hx
  refine ⟨by rw [h.c1]; exact f1, fun a' ha' hW => ?_, ?_⟩
  · have hlt : a' < (hrd S).length := by rw [hrd]; omega
    obtain ⟨i2, hi2, g1, g2, g3⟩ := filt_at (p := fun s => !dX s) (S.1 11) a' hlt
    have hii : i2 < i := by
      apply Decidable.byContradiction
      intro g
      have hle : ((S.1 11).take i).countP (fun s => !dX s) ≤ ((S.1 11).take i2).countP (fun s => !dX s) := by
        by_cases ge : i = i2
        · rw [ge]; exact Nat.le_refl _
        · exact Nat.le_of_lt (cnt_take (p := fun s => !dX s) (S.1 11) hi hx (show i < i2 by omega))
      omega
    have hc : F (110 + a') = cvS ((S.1 11).getD i2 0) := by rw [h.hd a' (by rw [h.c1]; exact hlt), g3]; rfl
    rw [isW, hc, cvS_w, cvS_e] at hW
    have hno := (List.find?_range_eq_some.mp e).2.2 i2 hii
    rw [hW.1, hW.2] at hno
    simp at hno
  · have hc : F (110 + ((S.1 11).take i).countP (fun s => !dX s)) = cvS ((S.1 11).getD i 0) := by
      rw [h.hd _ (by rw [h.c1]; exact f1), ← f2]; rfl
    rw [isW, hc, cvS_w, cvS_e]
    exact ⟨hw.2, hw.1⟩
theorem gLie_t {l i : Nat} (h : gLie L l = some i) : gWh L l = some i ∧ dT (L.getD i 0) ≠ l ∧ dX (L.getD i 0) = false := by
  unfold gLie at h
  cases e : gWh L l with
  | none => rw [e] at h; cases h
  | some j =>
    rw [e] at h
    replace h : (if dT (L.getD j 0) = l ∨ dX (L.getD j 0) = true then none else some j) = some i := h
    split at h
    · cases h
    · rename_i g
      cases h
      refine ⟨rfl, fun x => g (Or.inl x), ?_⟩
      cases e2 : dX (L.getD i 0) with
      | true => exact absurd (Or.inr e2) g
      | false => rfl
theorem gWh_f {l i : Nat} (e : gWh L l = some i) : dE (L.getD i 0) = 0 ∧ dW (L.getD i 0) = l := by
  have hw := List.find?_some e
  rwa [Bool.and_eq_true, decide_eq_true_eq, decide_eq_true_eq] at hw
theorem xp_lt {s : Nat} (h : s < 4194304) (hx : dX s = false) : s < 2097152 := by
  rw [dX, Nat.testBit_eq_decide_div_mod_eq, decide_eq_false_iff_not] at hx
  omega
theorem xp_or {s : Nat} (h : s < 2097152) : s ||| 2097152 = s + 2097152 := by
  have := Nat.two_pow_add_eq_or_of_lt (i := 21) (b := s) h 1
  rw [Nat.or_comm, Nat.add_comm]
  exact this.symm
theorem xp_f {s : Nat} (h : s < 2097152) : dT (s ||| 2097152) = dT s ∧ dW (s ||| 2097152) = dW s ∧ dE (s ||| 2097152) = dE s ∧ dD (s ||| 2097152) = dD s ∧ dH (s ||| 2097152) = dH s ∧ dX (s ||| 2097152) = true ∧ s ||| 2097152 < 4194304 := by
  rw [xp_or h]
  refine ⟨?_, ?_, ?_, ?_, ?_, ?_, ?_⟩
  · unfold dT; omega
  · unfold dW; omega
  · unfold dE; omega
  · unfold dD; omega
  · unfold dH; omega
  · rw [dX, Nat.testBit_eq_decide_div_mod_eq, decide_eq_true_eq]; omega
  · omega
theorem gWh_set {l i s : Nat} (hi : i < L.length) (he : dE s = dE (L.getD i 0)) (hw : dW s = dW (L.getD i 0)) : gWh (L.set i s) l = gWh L l := by
  rw [gWh, gWh, List.length_set]
  refine find_congr fun j _ => ?_
  rw [getD_set hi]
  by_cases g : j = i
  · rw [if_pos g, he, hw, g]
  · rw [if_neg g]
theorem ex_c {l a j : Nat} (hj : j < 110) (h16 : j < 16 ∨ 92 ≤ j) (h1 : j ≠ 1) (h6 : j ≠ 6) (hl : l < 7) : exF F l a j = F j := by
  rw [exF, cF_uN h6, cF_uL2 (by decide) hl h16, cF_uL2 (by decide) hl h16, cF_uL2 (by decide) hl h16, ex1_c hj h1]
theorem ex_h {l a j : Nat} (hj : 110 ≤ j) (hl : l < 7) : exF F l a j = ex1 F a j := by
  rw [exF, cF_uN (by omega), cF_uL2 (by decide) hl (Or.inr (by omega)), cF_uL2 (by decide) hl (Or.inr (by omega)), cF_uL2 (by decide) hl (Or.inr (by omega))]
theorem ex_1 {l a : Nat} (hl : l < 7) : exF F l a 1 = F 1 - 1 := by
  rw [exF, cF_uN (by decide), cF_uL (by decide), cF_uL (by decide), cF_uL (by decide), ex1, cF_uN (by omega), shF, if_neg (by omega), uN_s]
theorem ex1_h {a i : Nat} (hi : i < F 1 - 1) : ex1 F a (110 + i) = if i < a then F (110 + i) else F (110 + (i + 1)) := by
  rw [ex1, cF_uN (by omega), shF]
  by_cases g : i < a
  · rw [if_pos g, if_neg (by omega), cF_uN (by omega)]
  · rw [if_neg g, if_pos (by omega), cF_uN (by omega)]; rfl
theorem ex1_o {a j : Nat} (h : F 1 ≤ 170) (hj : 280 ≤ j) : ex1 F a j = F j := by
  rw [ex1, cF_uN (by omega), shF, if_neg (by omega), cF_uN (by omega)]
theorem ex_l {l a l' w : Nat} (hl' : l' < 7) (hw : w < 10) : lF (exF F l a) l' w = if l' = l ∧ w = 5 then lF F l 5 + 3 else if l' = l ∧ w = 8 then lF F l 8 + 1 else if l' = l ∧ w = 9 then 3 else lF F l' w := by
  rw [exF, lF_uN (by omega) hl' hw, lF_uL (by decide) hw, lF_uL (by decide) hw, lF_uL (by decide) hw, ex1_l hl' hw]
theorem en_expose (h : EN S F) (hs : Sh n S) (ho : So S) {l i : Nat} (hl : l < 7) (hg : gLie (S.1 11) l = some i) (h11 : (S.1 11).length ≤ 147) : EN (fExp S l i) (exF F l (mAt F l)) := by
  obtain ⟨e, hne, hx⟩ := gLie_t hg
  have hi := gWh_lt e
  have hle := hrd_le (S := S)
  obtain ⟨p1, p2, p3⟩ := h.place2 e hx
  have hfp := filt_pos (p := fun s => !dX s) hi (show (!dX ((S.1 11).getD i 0)) = true by rw [hx]; rfl)
  have c1 := h.c1
  rw [mAt_eq (a := ((S.1 11).take i).countP (fun s => !dX s)) (by omega) p2 p3]
  generalize hA : ((S.1 11).take i).countP (fun s => !dX s) = a at p1 p2 p3 hfp ⊢
  have hm : (S.1 11).getD i 0 ∈ S.1 11 := by rw [getD_lt hi]; exact List.getElem_mem hi
  have hxf := xp_f (xp_lt (ho.tx _ hm) hx)
  have e11 : (fExp S l i).1 11 = (S.1 11).set i ((S.1 11).getD i 0 ||| 2097152) := rfl
  have e7 : (fExp S l i).1 7 = (S.1 7).set l ((S.1 7).getD l 0 + 1) := rfl
  have e4 : (fExp S l i).1 4 = (S.1 4).set l ((S.1 4).getD l 0 + 3) := rfl
  have eb : ∀ b, b ≠ 11 → b ≠ 7 → b ≠ 4 → (fExp S l i).1 b = S.1 b := fun b x y z => by rw [fExp, uR_e z, uR_e y, uR_e x]
  have eh : hrd (fExp S l i) = (hrd S).eraseIdx a := by
    rw [hrd, e11, filt_set _ _ _ hi (by rw [hx]; rfl) (by rw [hxf.2.2.2.2.2.1]; rfl), hA]; rfl
  have hlen : (hrd (fExp S l i)).length = (hrd S).length - 1 := by rw [eh, List.length_eraseIdx_of_lt (by omega)]
  have c : ∀ j, j < 16 → j ≠ 1 → j ≠ 6 → exF F l a j = F j := fun j hj x y => ex_c (by omega) (Or.inl hj) x y hl
  have cc : ∀ j, 280 ≤ j → exF F l a j = F j := fun j hj => by rw [ex_h (by omega) hl, ex1_o (by omega) hj]
  refine EN.mk ?_ ?_ ?_ ?_ ?_ ?_ ?_ ?_ ?_ ?_ ?_ ?_ ?_ ?_ ?_ ?_ ?_ ?_
  · rw [c 0 (by decide) (by decide) (by decide)]; exact h.c0
  · rw [ex_1 hl, hlen, c1]
  · rw [c 2 (by decide) (by decide) (by decide), eb 12 (by decide) (by decide) (by decide)]; exact h.c2
  · rw [c 3 (by decide) (by decide) (by decide), e11, List.length_set]; exact h.c3
  · rw [c 4 (by decide) (by decide) (by decide)]; exact h.c4
  · rw [c 5 (by decide) (by decide) (by decide), eb 6 (by decide) (by decide) (by decide)]; exact h.c5
  · rw [exF, uN_s, e7, h.c6]
    have := sum_set (S.1 7) l ((S.1 7).getD l 0 + 1) (by rw [hs.l7 7 (by decide)]; exact hl)
    omega
  · rw [c 7 (by decide) (by decide) (by decide), eb 5 (by decide) (by decide) (by decide)]; exact h.c7
  · rw [c 8 (by decide) (by decide) (by decide)]; exact h.c8
  · rw [c 9 (by decide) (by decide) (by decide)]; exact h.c9
  · intro l' hl'
    rw [ex_l hl' (by decide), if_neg (by omega), if_neg (by omega), if_neg (by omega), gWd, eb 0 (by decide) (by decide) (by decide)]; exact h.w0 l' hl'
  · intro l' hl'
    rw [ex_l hl' (by decide), if_neg (by omega), if_neg (by omega), if_neg (by omega), gWd, eb 0 (by decide) (by decide) (by decide)]; exact h.w1 l' hl'
  · intro l' hl' w hw2 hw9
    rw [ex_l hl' (by omega)]
    by_cases g5 : w = 5
    · subst g5
      show _ = ((fExp S l i).1 4).getD l' 0
      rw [e4, getD_set (by rw [hs.l7 4 (by decide)]; exact hl)]
      by_cases g2 : l' = l
      · rw [if_pos ⟨g2, rfl⟩, if_pos g2, h.ln l hl 5 (by decide) (by decide)]
      · rw [if_neg (fun x => g2 x.1), if_neg (by omega), if_neg (by omega), if_neg g2]; exact h.ln l' hl' 5 (by decide) (by decide)
    · rw [if_neg (fun x => g5 x.2)]
      by_cases g8 : w = 8
      · subst g8
        show _ = ((fExp S l i).1 7).getD l' 0
        rw [e7, getD_set (by rw [hs.l7 7 (by decide)]; exact hl)]
        by_cases g2 : l' = l
        · rw [if_pos ⟨g2, rfl⟩, if_pos g2, h.ln l hl 8 (by decide) (by decide)]
        · rw [if_neg (fun x => g2 x.1), if_neg (by omega), if_neg g2]; exact h.ln l' hl' 8 (by decide) (by decide)
      · rw [if_neg (fun x => g8 x.2), if_neg (by omega), eb (w - 1) (by omega) (by omega) (by omega)]; exact h.ln l' hl' w hw2 hw9
  · intro l' hl'
    rw [ex_l hl' (by decide), if_neg (by omega), if_neg (by omega), stt, e11, gWh_set hi hxf.2.2.1 hxf.2.1]
    by_cases g2 : l' = l
    · subst g2
      rw [if_pos ⟨rfl, rfl⟩, e]
      show _ = if dX (((S.1 11).set i ((S.1 11).getD i 0 ||| 2097152)).getD i 0) = true then 3 else _
      rw [getD_set hi, if_pos rfl, if_pos hxf.2.2.2.2.2.1]
    · rw [if_neg (fun x => g2 x.1), h.l9 l' hl', stt]
      cases e2 : gWh (S.1 11) l' with
      | none => rfl
      | some i2 =>
        have hi2 : i2 ≠ i := fun x => g2 (by rw [← (gWh_f e2).2, x, (gWh_f e).2])
        show _ = if dX (((S.1 11).set i ((S.1 11).getD i 0 ||| 2097152)).getD i2 0) = true then 3 else if dT (((S.1 11).set i ((S.1 11).getD i 0 ||| 2097152)).getD i2 0) = l' then 1 else 2
        rw [getD_set hi, if_neg hi2]
  · intro p hp w hw
    rw [show pF (exF F l a) p w = pF F p w from ex_c (by omega) (Or.inr (by omega)) (by omega) (by omega) hl, eb (8 + w) (by omega) (by omega) (by omega)]; exact h.pl p hp w hw
  · intro j hj
    rw [ex_1 hl] at hj
    rw [ex_h (by omega) hl, ex1_h hj, eh, getD_er]
    by_cases g : j < a
    · rw [if_pos g, if_pos g]; exact h.hd j (by omega)
    · rw [if_neg g, if_neg g]; exact h.hd (j + 1) (by omega)
  · intro j hj
    rw [c 2 (by decide) (by decide) (by decide)] at hj
    rw [cc _ (by omega), eb 12 (by decide) (by decide) (by decide)]; exact h.nx j hj
  · intro j hj
    rw [c 3 (by decide) (by decide) (by decide)] at hj
    rw [cc _ (by omega), e11, getD_set hi]
    by_cases g : j = i
    · rw [if_pos g, hxf.2.2.2.1, g]; exact h.wd i (by omega)
    · rw [if_neg g]; exact h.wd j hj
theorem sh_expose (hs : Sh n S) {l i : Nat} (h9 : (S.1 4).getD l 0 ≤ 9) : Sh (n + 1) (fExp S l i) := by
  have h0 := hs.up (Nat.le_succ n)
  have h7 := getD_le hs.ex l
  have r1 : Sh (n + 1) (uR S 11 ((S.1 11).set i ((S.1 11).getD i 0 ||| 2097152))) := h0.rows (by decide)
  have r2 := r1.set (b := 7) (l := l) (x := (S.1 7).getD l 0 + 1) (show (S.1 7).getD l 0 + 1 ≤ n + 1 by omega)
  exact r2.set (b := 4) (l := l) (x := (S.1 4).getD l 0 + 3) (show (S.1 4).getD l 0 + 3 ≤ 12 by omega)
theorem so_expose (ho : So S) {l i : Nat} (hg : gLie (S.1 11) l = some i) : So (fExp S l i) := by
  obtain ⟨e, hne, hx⟩ := gLie_t hg
  have hi := gWh_lt e
  have hm : (S.1 11).getD i 0 ∈ S.1 11 := by rw [getD_lt hi]; exact List.getElem_mem hi
  have hxf := xp_f (xp_lt (ho.tx _ hm) hx)
  have e11 : (fExp S l i).1 11 = (S.1 11).set i ((S.1 11).getD i 0 ||| 2097152) := rfl
  have e12 : (fExp S l i).1 12 = S.1 12 := rfl
  refine So.mk ?_ ?_ ?_ ?_ ?_ ?_ (by rw [e12]; exact ho.ex) (by rw [e12]; exact ho.eh) (by rw [e12]; exact ho.et) (by rw [e12]; exact ho.ew) (by rw [e12]; exact ho.ee) (by rw [e12]; exact ho.ed)
  · rw [e11]; exact all_set ho.tx hxf.2.2.2.2.2.2
  · rw [e11]; exact all_set (P := fun s => dH s = 0) ho.th (by rw [hxf.2.2.2.2.1]; exact ho.th _ hm)
  · rw [e11]; exact all_set (P := fun s => dT s < 7) ho.tt (by rw [hxf.1]; exact ho.tt _ hm)
  · rw [e11]; exact all_set (P := fun s => dW s < 7) ho.tw (by rw [hxf.2.1]; exact ho.tw _ hm)
  · rw [e11]; exact all_set (P := fun s => dE s ≤ 4) ho.te (by rw [hxf.2.2.1]; exact ho.te _ hm)
  · rw [e11]; exact all_set (P := fun s => 64 ≤ dD s ∧ dD s < 448) ho.td (by rw [hxf.2.2.2.1]; exact ho.td _ hm)
end W83
