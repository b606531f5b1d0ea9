/-! ONE STATE, TWICE, but for what the lines did this hour: an hour goes by -/
section W84
variable {S : St} {F : Nat → Nat} {n : Nat} {L : List Nat}
theorem em_8 (h : EM S F) {x : Nat} : EM (uI S 2 x) (uN F 8 x) := by
  have c : ∀ j, j ≠ 8 → uN F 8 x j = F j := fun j hj => cF_uN hj
  refine EM.mk ?_ ?_ ?_ ?_ ?_ ?_ ?_ ?_ ?_ ?_ ?_ ?_ ?_ ?_ ?_ ?_ ?_
  · rw [c 0 (by decide)]; exact h.c0
  · rw [c 1 (by decide)]; exact h.c1
  · rw [c 2 (by decide)]; exact h.c2
  · rw [c 3 (by decide)]; exact h.c3
  · rw [c 4 (by decide)]; exact h.c4
  · rw [c 5 (by decide)]; exact h.c5
  · rw [c 6 (by decide)]; exact h.c6
  · rw [c 7 (by decide)]; exact h.c7
  · exact uN_s
  · rw [c 9 (by decide)]; exact h.c9
  · intro l' hl'
    rw [lF_uN (by omega) hl' (by decide)]; exact h.w0 l' hl'
  · intro l' hl'
    rw [lF_uN (by omega) hl' (by decide)]; exact h.w1 l' hl'
  · intro l' hl' w' h2' h9'
    rw [lF_uN (by omega) hl' (by omega)]; exact h.ln l' hl' w' h2' h9'
  · intro p hp w' hw'
    rw [pF_uN (by omega) hp hw']; exact h.pl p hp w' hw'
  · intro i hi
    rw [c 1 (by decide)] at hi
    rw [c _ (by omega)]; exact h.hd i hi
  · intro i hi
    rw [c 2 (by decide)] at hi
    rw [c _ (by omega)]; exact h.nx i hi
  · intro i hi
    rw [c 3 (by decide)] at hi
    rw [c _ (by omega)]; exact h.wd i hi
theorem em_up (h : EM S F) {k x : Nat} (hk : F 2 ≤ k) (hk2 : k < 190) (h1 : F 1 ≤ 170) : EM S (uN F (280 + k) x) := by
  have c : ∀ j, j ≠ 280 + k → uN F (280 + k) x j = F j := fun j hj => cF_uN hj
  refine EM.mk ?_ ?_ ?_ ?_ ?_ ?_ ?_ ?_ ?_ ?_ ?_ ?_ ?_ ?_ ?_ ?_ ?_
  · rw [c 0 (by omega)]; exact h.c0
  · rw [c 1 (by omega)]; exact h.c1
  · rw [c 2 (by omega)]; exact h.c2
  · rw [c 3 (by omega)]; exact h.c3
  · rw [c 4 (by omega)]; exact h.c4
  · rw [c 5 (by omega)]; exact h.c5
  · rw [c 6 (by omega)]; exact h.c6
  · rw [c 7 (by omega)]; exact h.c7
  · rw [c 8 (by omega)]; exact h.c8
  · rw [c 9 (by omega)]; exact h.c9
  · intro l' hl'
    rw [lF_uN (by omega) hl' (by decide)]; exact h.w0 l' hl'
  · intro l' hl'
    rw [lF_uN (by omega) hl' (by decide)]; exact h.w1 l' hl'
  · intro l' hl' w' h2' h9'
    rw [lF_uN (by omega) hl' (by omega)]; exact h.ln l' hl' w' h2' h9'
  · intro p hp w' hw'
    rw [pF_uN (by omega) hp hw']; exact h.pl p hp w' hw'
  · intro i hi
    rw [c 1 (by omega)] at hi
    rw [c _ (by omega)]; exact h.hd i hi
  · intro i hi
    rw [c 2 (by omega)] at hi
    rw [c _ (by omega)]; exact h.nx i hi
  · intro i hi
    rw [c 3 (by omega)] at hi
    rw [c _ (by omega)]; exact h.wd i hi
theorem uN_same {j : Nat} : uN F j (F j) = F := by
  funext k
  show (if k = j then F j else F k) = F k
  split
  · rename_i e; rw [e]
  · rfl
theorem em_way5 (h : EM S F) (hL : (S.1 5).length = 7) {l : Nat} (hl : l < 7) : EM (uR S 5 ((S.1 5).set l ((S.1 5).getD l 0 + 1))) (uN (uL F l 6 ((S.1 5).getD l 0 + 1)) 7 (F 7 + 1)) := by
  have e : ∀ b, b ≠ 5 → (uR S 5 ((S.1 5).set l ((S.1 5).getD l 0 + 1))).1 b = S.1 b := fun b hb => uR_e hb
  have e11 := e 11 (by decide)
  have c : ∀ j, j ≠ 7 → j < 16 ∨ 92 ≤ j → uN (uL F l 6 ((S.1 5).getD l 0 + 1)) 7 (F 7 + 1) j = F j := fun j h5 hj => by rw [cF_uN h5, cF_uL2 (by decide) hl hj]
  refine EM.mk ?_ ?_ ?_ ?_ ?_ ?_ ?_ ?_ ?_ ?_ ?_ ?_ ?_ ?_ ?_ ?_ ?_
  · rw [c 0 (by decide) (by decide)]; exact h.c0
  · rw [c 1 (by decide) (by decide), hrd_e e11]; exact h.c1
  · rw [c 2 (by decide) (by decide), e 12 (by decide)]; exact h.c2
  · rw [c 3 (by decide) (by decide), e11]; exact h.c3
  · rw [c 4 (by decide) (by decide)]; exact h.c4
  · rw [c 5 (by decide) (by decide), e 6 (by decide)]; exact h.c5
  · rw [c 6 (by decide) (by decide), e 7 (by decide)]; exact h.c6
  · rw [uN_s, uR_b, h.c7]
    have := sum_set (S.1 5) l ((S.1 5).getD l 0 + 1) (by omega)
    omega
  · rw [c 8 (by decide) (by decide)]; exact h.c8
  · rw [c 9 (by decide) (by decide)]; exact h.c9
  · intro l' hl'
    rw [lF_uN (by omega) hl' (by decide), lF_uL (by decide) (by decide), if_neg (by omega), gWd, e 0 (by decide)]; exact h.w0 l' hl'
  · intro l' hl'
    rw [lF_uN (by omega) hl' (by decide), lF_uL (by decide) (by decide), if_neg (by omega), gWd, e 0 (by decide)]; exact h.w1 l' hl'
  · intro l' hl' w' h2' h9'
    rw [lF_uN (by omega) hl' (by omega), lF_uL (by decide) (by omega)]
    by_cases g : w' = 6
    · subst g
      rw [uR_b, getD_set (by rw [hL]; exact hl)]
      by_cases g2 : l' = l
      · rw [if_pos ⟨g2, rfl⟩, if_pos g2]
      · rw [if_neg (fun x => g2 x.1), if_neg g2]; exact h.ln l' hl' 6 h2' h9'
    · rw [if_neg (fun x => g x.2), e (w' - 1) (by omega)]; exact h.ln l' hl' w' h2' h9'
  · intro p hp w' hw'
    rw [pF_uN (by omega) hp hw', pF_uL hl (by decide), e (8 + w') (by omega)]; exact h.pl p hp w' hw'
  · intro i hi
    rw [c 1 (by decide) (by decide)] at hi
    rw [c _ (by omega) (by omega), hrd_e e11]; exact h.hd i hi
  · intro i hi
    rw [c 2 (by decide) (by decide)] at hi
    rw [c _ (by omega) (by omega), e 12 (by decide)]; exact h.nx i hi
  · intro i hi
    rw [c 3 (by decide) (by decide)] at hi
    rw [c _ (by omega) (by omega), e11]; exact h.wd i hi
theorem em_way (h : EM S F) (hL5 : (S.1 5).length = 7) (hL3 : (S.1 3).length = 7) {p : Int32} (hp : okP p) (hg : gWay S = p) : EM (fWay S) (gwF F p) := by
  rw [fWay, hg]
  rcases hp with rfl | rfl | ⟨l, hl, rfl⟩
  · rw [if_neg (by decide), if_pos rfl, gw_1, gwA, Nat.add_zero (F 7), Nat.add_zero (F 8), uN_same, uN_same]; exact h
  · rw [if_pos rfl, gw_2, gwA, Nat.add_zero (F 7), uN_same]
    have := em_8 h (x := F 8 + 1)
    rw [h.c8] at this ⊢
    exact this
  · obtain ⟨n1, n2⟩ := nI_m12 l hl
    rw [if_neg n2, if_neg n1, gw_l hl, gwL, rPut, rPut, if_neg (show ¬ nI l < 0 from nI_pos (by omega)), if_neg (show ¬ nI l < 0 from nI_pos (by omega)), nI_c7 (by omega)]
    have e6 : lF F l 6 = (S.1 5).getD l 0 := h.ln l hl 6 (by decide) (by decide)
    have e4 : lF F l 4 = (S.1 3).getD l 0 := h.ln l hl 4 (by decide) (by decide)
    have m := em_way5 h hL5 hl
    have m2 := em_line m (w := 4) (x := (S.1 3).getD l 0 + 3) (by rw [uR_e (by decide)]; exact hL3) hl (by decide) (by decide)
    have e8 : gwA F 1 0 = uN F 7 (F 7 + 1) := by
      rw [gwA, Nat.add_zero (F 8)]
      have : (uN F 7 (F 7 + 1)) 8 = F 8 := cF_uN (by decide)
      rw [← this]; exact uN_same
    have e9 : uL (uN F 7 (F 7 + 1)) l 6 ((S.1 5).getD l 0 + 1) = uN (uL F l 6 ((S.1 5).getD l 0 + 1)) 7 (F 7 + 1) := by
      funext j
      show (if j = 16 + 10 * l + 6 then _ else if j = 7 then _ else _) = if j = 7 then _ else if j = 16 + 10 * l + 6 then _ else _
      by_cases g : j = 7
      · rw [if_neg (by omega), if_pos g, if_pos g]
      · rw [if_neg g, if_neg g]
    rw [e6, e4, e8, e9]
    exact m2
theorem em_rest1 (h : EM S F) (hL4 : (S.1 4).length = 7) (hL2 : (S.1 2).length = 7) {l : Nat} (hl : l < 7) : EM (fRest S l) (rsS F l) := by
  have e5 : lF F l 5 = (S.1 4).getD l 0 := h.ln l hl 5 (by decide) (by decide)
  have e3 : lF F l 3 = (S.1 2).getD l 0 := h.ln l hl 3 (by decide) (by decide)
  rw [rsS]
  refine em_state ?_ hl
  rw [fRest, rsT, e5, e3]
  by_cases g : 0 < (S.1 4).getD l 0
  · rw [if_pos g, if_pos g]; exact em_line h (w := 5) hL4 hl (by decide) (by decide)
  · rw [if_neg g, if_neg g]
    have : min 20 ((S.1 2).getD l 0 + 2) = if 20 < (S.1 2).getD l 0 + 2 then 20 else (S.1 2).getD l 0 + 2 := by split <;> omega
    rw [this]; exact em_line h (w := 3) hL2 hl (by decide) (by decide)
theorem fRest_len {l b : Nat} : ((fRest S l).1 b).length = (S.1 b).length := by
  have key : ∀ b' x, ((uR S b' ((S.1 b').set l x)).1 b).length = (S.1 b).length := fun b' x => by
    rw [uR_1]
    split
    · rename_i e; rw [e, List.length_set]
    · rfl
  unfold fRest
  split
  · exact key 4 _
  · exact key 2 _
theorem fWay_len {b : Nat} : ((fWay S).1 b).length = (S.1 b).length := by
  have key : ∀ (T : St) b' (i : Int32) x, ((uR T b' (rPut (T.1 b') i x)).1 b).length = (T.1 b).length := fun T b' i x => by
    rw [uR_1]
    split
    · rename_i e; rw [e, rPut]; split
      · rfl
      · rw [List.length_set]
    · rfl
  unfold fWay
  split
  · rfl
  · split
    · rfl
    · refine (key (uR S 5 _) 3 _ _).trans (key S 5 _ _)
theorem fRs_len {b : Nat} : ∀ k, ((fRs S k).1 b).length = (S.1 b).length
  | 0 => fWay_len
  | k + 1 => by rw [fRs_s, fRest_len]; exact fRs_len k
theorem em_rest (h : EM S F) (hl7 : ∀ b, b < 8 → (S.1 b).length = 7) {p : Int32} (hp : okP p) (hg : gWay S = p) : ∀ k, k ≤ 7 → EM (fRs S k) (rsF (gwF F p) k)
  | 0, _ => em_way h (hl7 5 (by decide)) (hl7 3 (by decide)) hp hg
  | k + 1, hk => by
    rw [fRs_s, rsF_s]
    exact em_rest1 (em_rest h hl7 hp hg k (by omega)) (by rw [fRs_len]; exact hl7 4 (by decide)) (by rw [fRs_len]; exact hl7 2 (by decide)) (by omega)
theorem rsF_9 : ∀ k, k ≤ 7 → ∀ l, l < k → lF (rsF F k) l 9 = 0
  | 0, _, l, hl => absurd hl (Nat.not_lt_zero _)
  | k + 1, hk, l, hl => by
    rw [rsF_s]
    by_cases g : l = k
    · rw [g, rsS, lF_uLs]
    · rw [rsS_l (by decide) g]; exact rsF_9 k (by omega) l (by omega)
theorem fRest_2 {l : Nat} : (fRest S l).2 = S.2 := by unfold fRest; split <;> rfl
theorem fRs_0 : ∀ k, (fRs S k).2 0 = S.2 0
  | 0 => by
    show (fWay S).2 0 = _
    unfold fWay
    split
    · rfl
    · split <;> rfl
  | k + 1 => by rw [fRs_s, fRest_2]; exact fRs_0 k
theorem fHrs_1 : (fHrs S).1 = (fRs S 7).1 := by unfold fHrs; exact uI_1
theorem fTr_2 {T : List Nat × List Nat × List Nat} {R : List Nat} : (fTr S T R).2 = S.2 := by rw [fTr, uR_2, uR_2, uR_2]
theorem fHrs_2 {j : Nat} (h : j ≠ 0) : (fHrs S).2 j = (fRs S 7).2 j := by unfold fHrs; rw [uI_2, if_neg h]
theorem fHrs_20 : (fHrs S).2 0 = S.2 0 + 1 := by unfold fHrs; rw [uI_2, if_pos rfl, fRs_0]
theorem em_zero1 {T W : St} {H Z : Nat → Nat} (m : EM T H) (e : ∀ b, b < 11 → W.1 b = T.1 b) (e11 : W.1 11 = []) (e12 : W.1 12 = []) (w0 : Z 0 = W.2 0) (w2 : ∀ j, j ≠ 0 → W.2 j = T.2 j) (gc : ∀ j, j < 110 → j ≠ 0 → j ≠ 1 → j ≠ 2 → j ≠ 3 → Z j = H j) (z1 : Z 1 = 0) (z2 : Z 2 = 0) (z3 : Z 3 = 0) : EM W Z := by
  refine EM.mk ?_ ?_ ?_ ?_ ?_ ?_ ?_ ?_ ?_ ?_ ?_ ?_ ?_ ?_ ?_ ?_ ?_
  · exact w0
  · rw [z1, hrd, e11]; rfl
  · rw [z2, e12]; rfl
  · rw [z3, e11]; rfl
  · rw [gc 4 (by decide) (by decide) (by decide) (by decide) (by decide), w2 1 (by decide)]; exact m.c4
  · rw [gc 5 (by decide) (by decide) (by decide) (by decide) (by decide), e 6 (by decide)]; exact m.c5
  · rw [gc 6 (by decide) (by decide) (by decide) (by decide) (by decide), e 7 (by decide)]; exact m.c6
  · rw [gc 7 (by decide) (by decide) (by decide) (by decide) (by decide), e 5 (by decide)]; exact m.c7
  · rw [gc 8 (by decide) (by decide) (by decide) (by decide) (by decide), w2 2 (by decide)]; exact m.c8
  · rw [gc 9 (by decide) (by decide) (by decide) (by decide) (by decide), w2 3 (by decide)]; exact m.c9
  · intro l hl
    rw [show lF Z l 0 = lF H l 0 from gc (16 + 10 * l + 0) (by omega) (by omega) (by omega) (by omega) (by omega), gWd, e 0 (by decide)]; exact m.w0 l hl
  · intro l hl
    rw [show lF Z l 1 = lF H l 1 from gc (16 + 10 * l + 1) (by omega) (by omega) (by omega) (by omega) (by omega), gWd, e 0 (by decide)]; exact m.w1 l hl
  · intro l hl w hw2 hw9
    rw [show lF Z l w = lF H l w from gc (16 + 10 * l + w) (by omega) (by omega) (by omega) (by omega) (by omega), e (w - 1) (by omega)]; exact m.ln l hl w hw2 hw9
  · intro q hq w hw
    rw [show pF Z q w = pF H q w from gc (92 + 3 * q + w) (by omega) (by omega) (by omega) (by omega) (by omega), e (8 + w) (by omega)]; exact m.pl q hq w hw
  · intro i hi
    rw [z1] at hi; exact absurd hi (Nat.not_lt_zero _)
  · intro i hi
    rw [z2] at hi; exact absurd hi (Nat.not_lt_zero _)
  · intro i hi
    rw [z3] at hi; exact absurd hi (Nat.not_lt_zero _)
theorem fTr_b {T : List Nat × List Nat × List Nat} {R : List Nat} {b : Nat} (hb : b < 10) : (fTr S T R).1 b = S.1 b := by rw [fTr, uR_e (by omega), uR_e (by omega), uR_e (by omega)]
theorem fTr_10 {A X B R : List Nat} : (fTr S (A, X, B) R).1 10 = X := rfl
theorem fTr_11 {A X B R : List Nat} : (fTr S (A, X, B) R).1 11 = A := rfl
theorem fTr_12 {A X B R : List Nat} : (fTr S (A, X, B) R).1 12 = R := rfl
theorem gn_1 {p : Int32} : gnF F p 1 = 0 := by rw [gnF, cF_uN (by decide), cF_uN (by decide), uN_s]
theorem gn_3 {p : Int32} : gnF F p 3 = 0 := by rw [gnF, cF_uN (by decide), uN_s]
theorem gn_0 {p : Int32} : gnF F p 0 = F 0 + 1 := by rw [gnF, uN_s]
theorem gn_r {p : Int32} {j : Nat} (hj : j < 110) (h0 : j ≠ 0) (h1 : j ≠ 1) (h3 : j ≠ 3) : gnF F p j = rsF (gwF F p) 7 j := by rw [gnF, cF_uN h0, cF_uN h3, cF_uN h1, gz_c (Or.inl hj)]
/-- the memory when the hearing begins -/
theorem em_zero (h : EM S F) (hl7 : ∀ b, b < 8 → (S.1 b).length = 7) {p : Int32} (hp : okP p) (hg : gWay S = p) : EM (fTr (fHrs S) ([], (fHrs S).1 10, []) []) (uN (gnF F p) 2 0) := by
  refine em_zero1 (em_rest h hl7 hp hg 7 (Nat.le_refl _)) (fun b hb => ?_) fTr_11 fTr_12 ?_ (fun j hj => ?_) (fun j hj h0 h1 h2 h3 => ?_) ?_ uN_s ?_
  · by_cases g : b = 10
    · subst g
      rw [fTr_10, fHrs_1]
    · rw [fTr_b (by omega), fHrs_1]
  · rw [cF_uN (by decide), gn_0, fTr_2, fHrs_20, h.c0]
  · rw [fTr_2, fHrs_2 hj]
  · rw [cF_uN h2, gn_r hj h0 h1 h3]
  · rw [cF_uN (by decide), gn_1]
  · rw [cF_uN (by decide), gn_3]
theorem em_plat (h : EM S F) {p w x : Nat} (hL : (S.1 (8 + w)).length = 4) (hp : p < 4) (hw : w < 3) : EM (uR S (8 + w) ((S.1 (8 + w)).set p x)) (uP F p w x) := by
  have e : ∀ b', b' ≠ 8 + w → (uR S (8 + w) ((S.1 (8 + w)).set p x)).1 b' = S.1 b' := fun b' hb => uR_e hb
  have e11 := e 11 (by omega)
  have c : ∀ j, j < 92 ∨ 110 ≤ j → uP F p w x j = F j := fun j hj => cF_uP hp hw hj
  refine EM.mk ?_ ?_ ?_ ?_ ?_ ?_ ?_ ?_ ?_ ?_ ?_ ?_ ?_ ?_ ?_ ?_ ?_
  · rw [c 0 (by decide)]; exact h.c0
  · rw [c 1 (by decide), hrd_e e11]; exact h.c1
  · rw [c 2 (by decide), e 12 (by omega)]; exact h.c2
  · rw [c 3 (by decide), e11]; exact h.c3
  · rw [c 4 (by decide)]; exact h.c4
  · rw [c 5 (by decide), e 6 (by omega)]; exact h.c5
  · rw [c 6 (by decide), e 7 (by omega)]; exact h.c6
  · rw [c 7 (by decide), e 5 (by omega)]; exact h.c7
  · rw [c 8 (by decide)]; exact h.c8
  · rw [c 9 (by decide)]; exact h.c9
  · intro l' hl'
    rw [lF_uP hl' (by decide), gWd, e 0 (by omega)]; exact h.w0 l' hl'
  · intro l' hl'
    rw [lF_uP hl' (by decide), gWd, e 0 (by omega)]; exact h.w1 l' hl'
  · intro l' hl' w' h2' h9'
    rw [lF_uP hl' (by omega), e (w' - 1) (by omega)]; exact h.ln l' hl' w' h2' h9'
  · intro p' hp' w' hw'
    rw [pF_uP hw hw']
    by_cases g : w' = w
    · subst g
      rw [uR_b, getD_set (by rw [hL]; exact hp)]
      by_cases g2 : p' = p
      · rw [if_pos ⟨g2, rfl⟩, if_pos g2]
      · rw [if_neg (fun x => g2 x.1), if_neg g2]; exact h.pl p' hp' w' hw'
    · rw [if_neg (fun x => g x.2), e (8 + w') (by omega)]; exact h.pl p' hp' w' hw'
  · intro i hi
    rw [c 1 (by decide)] at hi
    rw [c _ (by omega), hrd_e e11]; exact h.hd i hi
  · intro i hi
    rw [c 2 (by decide)] at hi
    rw [c _ (by omega), e 12 (by omega)]; exact h.nx i hi
  · intro i hi
    rw [c 3 (by decide)] at hi
    rw [c _ (by omega), e11]; exact h.wd i hi
end W84
