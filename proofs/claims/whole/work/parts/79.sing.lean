/-! ONE STATE, TWICE: a whistle, a lie -/
section W79
variable {S : St} {F : Nat → Nat} {n : Nat} {L : List Nat}
theorem em_lie6 (h : EM S F) (hL : (S.1 6).length = 7) {l : Nat} (hl : l < 7) : EM (uR S 6 ((S.1 6).set l ((S.1 6).getD l 0 + 1))) (uN (uL F l 7 ((S.1 6).getD l 0 + 1)) 5 (F 5 + 1)) := by
  have e : ∀ b, b ≠ 6 → (uR S 6 ((S.1 6).set l ((S.1 6).getD l 0 + 1))).1 b = S.1 b := fun b hb => uR_e hb
  have e11 := e 11 (by decide)
  have c : ∀ j, j ≠ 5 → j < 16 ∨ 92 ≤ j → uN (uL F l 7 ((S.1 6).getD l 0 + 1)) 5 (F 5 + 1) j = F j := fun j h5 hj => by rw [cF_uN h5, cF_uL2 (by decide) hl hj]
  refine EM.mk ?_ ?_ ?_ ?_ ?_ ?_ ?_ ?_ ?_ ?_ ?_ ?_ ?_ ?_ ?_ ?_ ?_
  · rw [c 0 (by decide) (by decide)]; exact h.c0
  · rw [c 1 (by decide) (by decide), hrd_e e11]; exact h.c1
  · rw [c 2 (by decide) (by decide), e 12 (by decide)]; exact h.c2
  · rw [c 3 (by decide) (by decide), e11]; exact h.c3
  · rw [c 4 (by decide) (by decide)]; exact h.c4
  · rw [uN_s, uR_b, h.c5]
    have := sum_set (S.1 6) l ((S.1 6).getD l 0 + 1) (by omega)
    omega
  · rw [c 6 (by decide) (by decide), e 7 (by decide)]; exact h.c6
  · rw [c 7 (by decide) (by decide), e 5 (by decide)]; exact h.c7
  · rw [c 8 (by decide) (by decide)]; exact h.c8
  · rw [c 9 (by decide) (by decide)]; exact h.c9
  · intro l' hl'
    rw [lF_uN (by omega) hl' (by decide), lF_uL (by decide) (by decide), if_neg (by omega), gWd, e 0 (by decide)]; exact h.w0 l' hl'
  · intro l' hl'
    rw [lF_uN (by omega) hl' (by decide), lF_uL (by decide) (by decide), if_neg (by omega), gWd, e 0 (by decide)]; exact h.w1 l' hl'
  · intro l' hl' w' h2' h9'
    rw [lF_uN (by omega) hl' (by omega), lF_uL (by decide) (by omega)]
    by_cases g : w' = 7
    · subst g
      rw [uR_b, getD_set (by rw [hL]; exact hl)]
      by_cases g2 : l' = l
      · rw [if_pos ⟨g2, rfl⟩, if_pos g2]
      · rw [if_neg (fun x => g2 x.1), if_neg g2]; exact h.ln l' hl' 7 h2' h9'
    · rw [if_neg (fun x => g x.2), e (w' - 1) (by omega)]; exact h.ln l' hl' w' h2' h9'
  · intro p hp w' hw'
    rw [pF_uN (by omega) hp hw', pF_uL hl (by decide), e (8 + w') (by omega)]; exact h.pl p hp w' hw'
  · intro i hi
    rw [c 1 (by decide) (by decide)] at hi
    rw [c _ (by omega) (by omega), hrd_e e11]; exact h.hd i hi
  · intro i hi
    rw [c 2 (by decide) (by decide)] at hi
    rw [c _ (by omega) (by omega), e 12 (by decide)]; exact h.nx i hi
  · intro i hi
    rw [c 3 (by decide) (by decide)] at hi
    rw [c _ (by omega) (by omega), e11]; exact h.wd i hi
theorem EM.snn (h : EM S F) {t b e : Nat} (hw : gWd S t < 448) (ht : t < 7) : sn F t b e = ((t * 8 + b) * 8 + e) * 512 + gWd S t := by
  rw [sn, h.w0 t ht, h.w1 t ht]; omega
/-- the first half of a whistle -/
def fOne (S : St) (l t st : Nat) : St := uR (uI (uR S 2 ((S.1 2).set l ((S.1 2).getD l 0 - st))) 1 (S.2 1 + 1)) 11 (S.1 11 ++ [snd S l t])
theorem em_one (h : EM S F) (hL : (S.1 2).length = 7) (hw : ∀ t, gWd S t < 448) {l t st : Nat} (hl : l < 7) (ht : t < 7) (h1 : F 1 < 170) (h2 : F 2 ≤ 190) (h3 : F 3 < 170) : EM (fOne S l t st) (sg1 F l t st) := by
  have e3 : lF F l 3 = (S.1 2).getD l 0 := h.ln l hl 3 (by decide) (by decide)
  have m1 := em_line h (w := 3) (x := lF F l 3 - st) hL hl (by decide) (by decide)
  have m2 := em_4 m1 (x := F 4 + 1)
  have hf := snd_f ht hl (hw t)
  have c : ∀ j, j ≠ 4 → j < 16 → uN (uL F l 3 (lF F l 3 - st)) 4 (F 4 + 1) j = F j := fun j a b => by rw [cF_uN a, cF_uL b]
  have m3 := em_snd m2 (s := snd S l t) (q := sn F t l 0) (by rw [h.snn (hw t) ht]; exact (cvS_q hf.1 hf.2.1 hf.2.2.1 hf.2.2.2.1).symm) (dX_s (by show t + 8 * l + 512 * gWd S t < _; omega)) (by rw [c 1 (by decide) (by decide)]; exact h1) (by rw [c 2 (by decide) (by decide)]; exact h2) (by rw [c 3 (by decide) (by decide)]; exact h3)
  rw [fOne, sg1]
  rw [e3, h.c4] at m3 ⊢
  exact m3
theorem em_fold (h : EM S F) (hL : (S.1 2).length = 7) (hw : ∀ t, gWd S t < 448) (hd : ∀ p, (S.1 8).getD p 0 < 6) {l t st : Nat} (hl : l < 7) (ht : t < 7) (h1 : F 1 < 168) (h3 : F 3 < 168) (h12 : (S.1 12).length ≤ 136) : ∀ k, k ≤ 4 → EM (uR (fOne S l t st) 12 ((List.range k).foldl (eStep S l t) (S.1 12))) ((List.range k).foldl (sgS F l t) (sg1 F l t st)) ∧ ((List.range k).foldl (eStep S l t) (S.1 12)).length ≤ 136 + k
  | 0, _ => by
    have h2 : F 2 ≤ 136 := by rw [h.c2]; exact h12
    have m := em_one h hL hw (st := st) hl ht (by omega) (by omega) (by omega)
    refine ⟨?_, h12⟩
    have e : uR (fOne S l t st) 12 (S.1 12) = fOne S l t st := by
      refine Prod.ext (funext fun b => ?_) rfl
      show (if b = 12 then S.1 12 else (fOne S l t st).1 b) = (fOne S l t st).1 b
      split
      · rename_i g; rw [g]; rfl
      · rfl
    show EM (uR (fOne S l t st) 12 (S.1 12)) (sg1 F l t st)
    rw [e]; exact m
  | k + 1, hk => by
    obtain ⟨ih, ihl⟩ := em_fold h hL hw hd hl ht h1 h3 h12 k (by omega) (st := st)
    have hp8 : pF F k 0 = (S.1 8).getD k 0 := h.pl k (by omega) 0 (by decide)
    have hp9 : pF F k 1 = (S.1 9).getD k 0 := h.pl k (by omega) 1 (by decide)
    rw [fold_s, fold_s]
    generalize (List.range k).foldl (eStep S l t) (S.1 12) = E at ih ihl ⊢
    generalize (List.range k).foldl (sgS F l t) (sg1 F l t st) = G at ih ⊢
    rw [eStep, sgS, hp8, hp9]
    by_cases g : 0 < (S.1 8).getD k 0 ∧ (S.1 9).getD k 0 / 2 ^ l % 2 = 1
    · have hf := ech_f ht hl (hw t) (show k < 4 by omega) (hd k)
      rw [if_pos g, if_neg (by omega), rAdd, if_pos (show E.length < 140 by omega)]
      have c2 : G 2 = E.length := by rw [ih.c2, uR_b]
      have c1 : G 1 ≤ 170 := by
        rw [ih.c1, hrd_e (S' := uR (fOne S l t st) 12 E) (S := fOne S l t st) (uR_e (by decide))]
        have := hrd_a (S := S) (S' := fOne S l t st) (s := snd S l t) uR_b (dX_s (by show t + 8 * l + 512 * gWd S t < _; have := hw t; omega))
        rw [this, List.length_append, ← h.c1]
        show F 1 + 1 ≤ 170; omega
      have m := em_ech ih (s := snd S l t + 64 * (k + 1) + 262144 * (S.1 8).getD k 0) (x := 1000000 * (S.1 8).getD k 0 + sn F t l (k + 1)) (by
        rw [h.snn (hw t) ht]
        rw [show dH (snd S l t + 64 * (k + 1) + 262144 * (S.1 8).getD k 0) = (S.1 8).getD k 0 from hf.2.2.2.2.1, cvS_q (s := snd S l t + 64 * (k + 1) + 262144 * (S.1 8).getD k 0) hf.1 hf.2.1 hf.2.2.1 hf.2.2.2.1]) c1 (by omega)
      rw [uR_b, uRR] at m
      exact ⟨m, by rw [List.length_append]; show E.length + 1 ≤ _; omega⟩
    · rw [if_neg g, if_pos (by omega)]
      exact ⟨ih, by omega⟩
end W79
