/-! ONE STATE, TWICE, but for what the lines did this hour: cells -/
section W78
variable {S : St} {F : Nat → Nat} {n : Nat} {L : List Nat}
theorem em_line (h : EM S F) {l w x : Nat} (hL : (S.1 (w - 1)).length = 7) (hl : l < 7) (h2 : 2 ≤ w) (h5 : w ≤ 5) : EM (uR S (w - 1) ((S.1 (w - 1)).set l x)) (uL F l w x) := by
  have e : ∀ b, b ≠ w - 1 → (uR S (w - 1) ((S.1 (w - 1)).set l x)).1 b = S.1 b := fun b hb => uR_e hb
  have e11 := e 11 (by omega)
  have c : ∀ j, j < 16 → uL F l w x j = F j := fun j hj => cF_uL hj
  have c2 : ∀ j, 92 ≤ j → uL F l w x j = F j := fun j hj => cF_uL2 (by omega) hl (Or.inr hj)
  refine EM.mk ?_ ?_ ?_ ?_ ?_ ?_ ?_ ?_ ?_ ?_ ?_ ?_ ?_ ?_ ?_ ?_ ?_
  · rw [c 0 (by decide)]; exact h.c0
  · rw [c 1 (by decide), hrd_e e11]; exact h.c1
  · rw [c 2 (by decide), e 12 (by omega)]; exact h.c2
  · rw [c 3 (by decide), e11]; exact h.c3
  · rw [c 4 (by decide)]; exact h.c4
  · rw [c 5 (by decide), e 6 (by omega)]; exact h.c5
  · rw [c 6 (by decide), e 7 (by omega)]; exact h.c6
  · rw [c 7 (by decide), e 5 (by omega)]; exact h.c7
  · rw [c 8 (by decide)]; exact h.c8
  · rw [c 9 (by decide)]; exact h.c9
  · intro l' hl'
    rw [lF_uL (by omega) (by decide), if_neg (by omega), gWd, e 0 (by omega)]; exact h.w0 l' hl'
  · intro l' hl'
    rw [lF_uL (by omega) (by decide), if_neg (by omega), gWd, e 0 (by omega)]; exact h.w1 l' hl'
  · intro l' hl' w' h2' h9'
    rw [lF_uL (by omega) (by omega)]
    by_cases g : w' = w
    · subst g
      rw [uR_b, getD_set (by rw [hL]; exact hl)]
      by_cases g2 : l' = l
      · rw [if_pos ⟨g2, rfl⟩, if_pos g2]
      · rw [if_neg (fun x => g2 x.1), if_neg g2]; exact h.ln l' hl' w' h2' h9'
    · rw [if_neg (fun x => g x.2), e (w' - 1) (by omega)]; exact h.ln l' hl' w' h2' h9'
  · intro p hp w' hw'
    rw [pF_uL hl (by omega), e (8 + w') (by omega)]; exact h.pl p hp w' hw'
  · intro i hi
    rw [c 1 (by decide)] at hi
    rw [c2 _ (by omega), hrd_e e11]; exact h.hd i hi
  · intro i hi
    rw [c 2 (by decide)] at hi
    rw [c2 _ (by omega), e 12 (by omega)]; exact h.nx i hi
  · intro i hi
    rw [c 3 (by decide)] at hi
    rw [c2 _ (by omega), e11]; exact h.wd i hi
theorem em_4 (h : EM S F) {x : Nat} : EM (uI S 1 x) (uN F 4 x) := by
  have c : ∀ j, j ≠ 4 → uN F 4 x j = F j := fun j hj => cF_uN hj
  refine EM.mk ?_ ?_ ?_ ?_ ?_ ?_ ?_ ?_ ?_ ?_ ?_ ?_ ?_ ?_ ?_ ?_ ?_
  · rw [c 0 (by decide)]; exact h.c0
  · rw [c 1 (by decide)]; exact h.c1
  · rw [c 2 (by decide)]; exact h.c2
  · rw [c 3 (by decide)]; exact h.c3
  · exact uN_s
  · rw [c 5 (by decide)]; exact h.c5
  · rw [c 6 (by decide)]; exact h.c6
  · rw [c 7 (by decide)]; exact h.c7
  · rw [c 8 (by decide)]; exact h.c8
  · rw [c 9 (by decide)]; exact h.c9
  · intro l' hl'
    rw [lF_uN (by omega) hl' (by decide)]; exact h.w0 l' hl'
  · intro l' hl'
    rw [lF_uN (by omega) hl' (by decide)]; exact h.w1 l' hl'
  · intro l' hl' w' h2' h9'
    rw [lF_uN (by omega) hl' (by omega)]; exact h.ln l' hl' w' h2' h9'
  · intro p hp w' hw'
    rw [pF_uN (by omega) hp hw']; exact h.pl p hp w' hw'
  · intro i hi
    rw [c 1 (by decide)] at hi
    rw [c _ (by omega)]; exact h.hd i hi
  · intro i hi
    rw [c 2 (by decide)] at hi
    rw [c _ (by omega)]; exact h.nx i hi
  · intro i hi
    rw [c 3 (by decide)] at hi
    rw [c _ (by omega)]; exact h.wd i hi
theorem em_state (h : EM S F) {l x : Nat} (hl : l < 7) : EM S (uL F l 9 x) := by
  have c : ∀ j, j < 16 ∨ 92 ≤ j → uL F l 9 x j = F j := fun j hj => cF_uL2 (by decide) hl hj
  refine EM.mk ?_ ?_ ?_ ?_ ?_ ?_ ?_ ?_ ?_ ?_ ?_ ?_ ?_ ?_ ?_ ?_ ?_
  · rw [c 0 (by decide)]; exact h.c0
  · rw [c 1 (by decide)]; exact h.c1
  · rw [c 2 (by decide)]; exact h.c2
  · rw [c 3 (by decide)]; exact h.c3
  · rw [c 4 (by decide)]; exact h.c4
  · rw [c 5 (by decide)]; exact h.c5
  · rw [c 6 (by decide)]; exact h.c6
  · rw [c 7 (by decide)]; exact h.c7
  · rw [c 8 (by decide)]; exact h.c8
  · rw [c 9 (by decide)]; exact h.c9
  · intro l' hl'
    rw [lF_uL (by decide) (by decide), if_neg (by omega)]; exact h.w0 l' hl'
  · intro l' hl'
    rw [lF_uL (by decide) (by decide), if_neg (by omega)]; exact h.w1 l' hl'
  · intro l' hl' w' h2' h9'
    rw [lF_uL (by decide) (by omega), if_neg (by omega)]; exact h.ln l' hl' w' h2' h9'
  · intro p hp w' hw'
    rw [pF_uL hl (by decide)]; exact h.pl p hp w' hw'
  · intro i hi
    rw [c 1 (by decide)] at hi
    rw [c _ (by omega)]; exact h.hd i hi
  · intro i hi
    rw [c 2 (by decide)] at hi
    rw [c _ (by omega)]; exact h.nx i hi
  · intro i hi
    rw [c 3 (by decide)] at hi
    rw [c _ (by omega)]; exact h.wd i hi
theorem sum_set : ∀ (L : List Nat) (i x : Nat), i < L.length → (L.set i x).sum + L.getD i 0 = L.sum + x
  | [], i, x, h => absurd h (Nat.not_lt_zero _)
  | y :: L, 0, x, _ => by
    show (x :: L).sum + y = (y :: L).sum + x
    rw [List.sum_cons, List.sum_cons]; omega
  | y :: L, i + 1, x, h => by
    have ih := sum_set L i x (by simpa using h)
    show (y :: L.set i x).sum + L.getD i 0 = (y :: L).sum + x
    rw [List.sum_cons, List.sum_cons]; omega
end W78
