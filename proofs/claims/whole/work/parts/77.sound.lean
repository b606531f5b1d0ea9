/-! ONE STATE, TWICE, but for what the lines did this hour: a sound, an echo more -/
section W77
variable {S : St} {F : Nat → Nat} {n : Nat} {L : List Nat}
def EM (S : St) (F : Nat → Nat) : Prop := (F 0 = S.2 0) ∧ (F 1 = (hrd S).length) ∧ (F 2 = (S.1 12).length) ∧ (F 3 = (S.1 11).length) ∧ (F 4 = S.2 1) ∧ (F 5 = (S.1 6).sum) ∧ (F 6 = (S.1 7).sum) ∧ (F 7 = (S.1 5).sum) ∧ (F 8 = S.2 2) ∧ (F 9 = S.2 3) ∧ (∀ l, l < 7 → lF F l 0 = gWd S l / 64) ∧ (∀ l, l < 7 → lF F l 1 = gWd S l % 64) ∧ (∀ l, l < 7 → ∀ w, 2 ≤ w → w < 9 → lF F l w = (S.1 (w - 1)).getD l 0) ∧ (∀ p, p < 4 → ∀ w, w < 3 → pF F p w = (S.1 (8 + w)).getD p 0) ∧ (∀ i, i < F 1 → F (110 + i) = cvS ((hrd S).getD i 0)) ∧ (∀ i, i < F 2 → F (280 + i) = 1000000 * dH ((S.1 12).getD i 0) + cvS ((S.1 12).getD i 0)) ∧ (∀ i, i < F 3 → F (470 + i) = dD ((S.1 11).getD i 0))
theorem EM.c0 {S : St} {F : Nat → Nat} (h : EM S F) : F 0 = S.2 0 := h.1
theorem EM.c1 {S : St} {F : Nat → Nat} (h : EM S F) : F 1 = (hrd S).length := h.2.1
theorem EM.c2 {S : St} {F : Nat → Nat} (h : EM S F) : F 2 = (S.1 12).length := h.2.2.1
theorem EM.c3 {S : St} {F : Nat → Nat} (h : EM S F) : F 3 = (S.1 11).length := h.2.2.2.1
theorem EM.c4 {S : St} {F : Nat → Nat} (h : EM S F) : F 4 = S.2 1 := h.2.2.2.2.1
theorem EM.c5 {S : St} {F : Nat → Nat} (h : EM S F) : F 5 = (S.1 6).sum := h.2.2.2.2.2.1
theorem EM.c6 {S : St} {F : Nat → Nat} (h : EM S F) : F 6 = (S.1 7).sum := h.2.2.2.2.2.2.1
theorem EM.c7 {S : St} {F : Nat → Nat} (h : EM S F) : F 7 = (S.1 5).sum := h.2.2.2.2.2.2.2.1
theorem EM.c8 {S : St} {F : Nat → Nat} (h : EM S F) : F 8 = S.2 2 := h.2.2.2.2.2.2.2.2.1
theorem EM.c9 {S : St} {F : Nat → Nat} (h : EM S F) : F 9 = S.2 3 := h.2.2.2.2.2.2.2.2.2.1
theorem EM.w0 {S : St} {F : Nat → Nat} (h : EM S F) : ∀ l, l < 7 → lF F l 0 = gWd S l / 64 := h.2.2.2.2.2.2.2.2.2.2.1
theorem EM.w1 {S : St} {F : Nat → Nat} (h : EM S F) : ∀ l, l < 7 → lF F l 1 = gWd S l % 64 := h.2.2.2.2.2.2.2.2.2.2.2.1
theorem EM.ln {S : St} {F : Nat → Nat} (h : EM S F) : ∀ l, l < 7 → ∀ w, 2 ≤ w → w < 9 → lF F l w = (S.1 (w - 1)).getD l 0 := h.2.2.2.2.2.2.2.2.2.2.2.2.1
theorem EM.pl {S : St} {F : Nat → Nat} (h : EM S F) : ∀ p, p < 4 → ∀ w, w < 3 → pF F p w = (S.1 (8 + w)).getD p 0 := h.2.2.2.2.2.2.2.2.2.2.2.2.2.1
theorem EM.hd {S : St} {F : Nat → Nat} (h : EM S F) : ∀ i, i < F 1 → F (110 + i) = cvS ((hrd S).getD i 0) := h.2.2.2.2.2.2.2.2.2.2.2.2.2.2.1
theorem EM.nx {S : St} {F : Nat → Nat} (h : EM S F) : ∀ i, i < F 2 → F (280 + i) = 1000000 * dH ((S.1 12).getD i 0) + cvS ((S.1 12).getD i 0) := h.2.2.2.2.2.2.2.2.2.2.2.2.2.2.2.1
theorem EM.wd {S : St} {F : Nat → Nat} (h : EM S F) : ∀ i, i < F 3 → F (470 + i) = dD ((S.1 11).getD i 0) := h.2.2.2.2.2.2.2.2.2.2.2.2.2.2.2.2
theorem EM.mk {S : St} {F : Nat → Nat} (c0' : F 0 = S.2 0) (c1' : F 1 = (hrd S).length) (c2' : F 2 = (S.1 12).length) (c3' : F 3 = (S.1 11).length) (c4' : F 4 = S.2 1) (c5' : F 5 = (S.1 6).sum) (c6' : F 6 = (S.1 7).sum) (c7' : F 7 = (S.1 5).sum) (c8' : F 8 = S.2 2) (c9' : F 9 = S.2 3) (w0' : ∀ l, l < 7 → lF F l 0 = gWd S l / 64) (w1' : ∀ l, l < 7 → lF F l 1 = gWd S l % 64) (ln' : ∀ l, l < 7 → ∀ w, 2 ≤ w → w < 9 → lF F l w = (S.1 (w - 1)).getD l 0) (pl' : ∀ p, p < 4 → ∀ w, w < 3 → pF F p w = (S.1 (8 + w)).getD p 0) (hd' : ∀ i, i < F 1 → F (110 + i) = cvS ((hrd S).getD i 0)) (nx' : ∀ i, i < F 2 → F (280 + i) = 1000000 * dH ((S.1 12).getD i 0) + cvS ((S.1 12).getD i 0)) (wd' : ∀ i, i < F 3 → F (470 + i) = dD ((S.1 11).getD i 0)) : EM S F := ⟨c0', c1', c2', c3', c4', c5', c6', c7', c8', c9', w0', w1', ln', pl', hd', nx', wd'⟩
theorem EN.em (h : EN S F) : EM S F := EM.mk h.c0 h.c1 h.c2 h.c3 h.c4 h.c5 h.c6 h.c7 h.c8 h.c9 h.w0 h.w1 h.ln h.pl h.hd h.nx h.wd
theorem EM.en (h : EM S F) (h9 : ∀ l, l < 7 → lF F l 9 = stt S l) : EN S F := EN.mk h.c0 h.c1 h.c2 h.c3 h.c4 h.c5 h.c6 h.c7 h.c8 h.c9 h.w0 h.w1 h.ln h9 h.pl h.hd h.nx h.wd
theorem em_snd (h : EM S F) {s q : Nat} (hq : q = cvS s) (hx : dX s = false) (h1 : F 1 < 170) (h2 : F 2 ≤ 190) (h3 : F 3 < 170) : EM (uR S 11 (S.1 11 ++ [s])) (sndF F q) := by
  have e : ∀ b, b ≠ 11 → (uR S 11 (S.1 11 ++ [s])).1 b = S.1 b := fun b hb => uR_e hb
  have eh : hrd (uR S 11 (S.1 11 ++ [s])) = hrd S ++ [s] := hrd_a uR_b hx
  have c : ∀ j, j < 110 → j ≠ 1 → j ≠ 3 → sndF F q j = F j := fun j hj a b => cF_snd hj a b
  refine EM.mk ?_ ?_ ?_ ?_ ?_ ?_ ?_ ?_ ?_ ?_ ?_ ?_ ?_ ?_ ?_ ?_ ?_
  · rw [c 0 (by decide) (by decide) (by decide)]; exact h.c0
  · rw [snd_1, eh, List.length_append, h.c1]; rfl
  · rw [c 2 (by decide) (by decide) (by decide), e 12 (by decide)]; exact h.c2
  · rw [snd_3, uR_b, List.length_append, h.c3]; rfl
  · rw [c 4 (by decide) (by decide) (by decide)]; exact h.c4
  · rw [c 5 (by decide) (by decide) (by decide), e 6 (by decide)]; exact h.c5
  · rw [c 6 (by decide) (by decide) (by decide), e 7 (by decide)]; exact h.c6
  · rw [c 7 (by decide) (by decide) (by decide), e 5 (by decide)]; exact h.c7
  · rw [c 8 (by decide) (by decide) (by decide)]; exact h.c8
  · rw [c 9 (by decide) (by decide) (by decide)]; exact h.c9
  · intro l hl
    rw [lF_snd h1 hl (by decide), gWd, e 0 (by decide)]; exact h.w0 l hl
  · intro l hl
    rw [lF_snd h1 hl (by decide), gWd, e 0 (by decide)]; exact h.w1 l hl
  · intro l hl w hw2 hw9
    rw [lF_snd h1 hl (by omega), e (w - 1) (by omega)]; exact h.ln l hl w hw2 hw9
  · intro p hp w hw
    rw [pF_snd hp hw, e (8 + w) (by omega)]; exact h.pl p hp w hw
  · intro i hi
    rw [snd_1] at hi
    rw [eh, sndF, cF_uN (by omega), cF_uN (by omega), cF_uN (by omega)]
    by_cases g : i = F 1
    · rw [g, uN_s, hq]
      have := getD_last (L := hrd S) (s := s)
      rw [← h.c1] at this
      rw [this]
    · rw [cF_uN (by omega), getD_app (by rw [← h.c1]; omega)]; exact h.hd i (by omega)
  · intro i hi
    rw [c 2 (by decide) (by decide) (by decide)] at hi
    rw [snd_hi (by omega) (by omega) h1, e 12 (by decide)]; exact h.nx i hi
  · intro i hi
    rw [snd_3] at hi
    rw [uR_b, sndF, cF_uN (by omega)]
    by_cases g : i = F 3
    · rw [g, uN_s, hq, cvS_n, cvS_b]
      have := getD_last (L := S.1 11) (s := s)
      rw [← h.c3] at this
      rw [this]; omega
    · rw [cF_uN (by omega), cF_uN (by omega), cF_uN (by omega), getD_app (by rw [← h.c3]; omega)]; exact h.wd i (by omega)
theorem em_ech (h : EM S F) {s x : Nat} (hx : x = 1000000 * dH s + cvS s) (h1 : F 1 ≤ 170) (h2 : F 2 < 190) : EM (uR S 12 (S.1 12 ++ [s])) (uN (uN F (280 + F 2) x) 2 (F 2 + 1)) := by
  have e : ∀ b, b ≠ 12 → (uR S 12 (S.1 12 ++ [s])).1 b = S.1 b := fun b hb => uR_e hb
  have eh : hrd (uR S 12 (S.1 12 ++ [s])) = hrd S := hrd_e (e 11 (by decide))
  have c : ∀ j, j ≠ 2 → j ≠ 280 + F 2 → uN (uN F (280 + F 2) x) 2 (F 2 + 1) j = F j := fun j a b => by rw [cF_uN a, cF_uN b]
  refine EM.mk ?_ ?_ ?_ ?_ ?_ ?_ ?_ ?_ ?_ ?_ ?_ ?_ ?_ ?_ ?_ ?_ ?_
  · rw [c 0 (by decide) (by omega)]; exact h.c0
  · rw [c 1 (by decide) (by omega), eh]; exact h.c1
  · rw [uN_s, uR_b, List.length_append, h.c2]; rfl
  · rw [c 3 (by decide) (by omega), e 11 (by decide)]; exact h.c3
  · rw [c 4 (by decide) (by omega)]; exact h.c4
  · rw [c 5 (by decide) (by omega), e 6 (by decide)]; exact h.c5
  · rw [c 6 (by decide) (by omega), e 7 (by decide)]; exact h.c6
  · rw [c 7 (by decide) (by omega), e 5 (by decide)]; exact h.c7
  · rw [c 8 (by decide) (by omega)]; exact h.c8
  · rw [c 9 (by decide) (by omega)]; exact h.c9
  · intro l hl
    rw [lF_uN (by omega) hl (by decide), lF_uN (by omega) hl (by decide), gWd, e 0 (by decide)]; exact h.w0 l hl
  · intro l hl
    rw [lF_uN (by omega) hl (by decide), lF_uN (by omega) hl (by decide), gWd, e 0 (by decide)]; exact h.w1 l hl
  · intro l hl w hw2 hw9
    rw [lF_uN (by omega) hl (by omega), lF_uN (by omega) hl (by omega), e (w - 1) (by omega)]; exact h.ln l hl w hw2 hw9
  · intro p hp w hw
    rw [pF_uN (by omega) hp hw, pF_uN (by omega) hp hw, e (8 + w) (by omega)]; exact h.pl p hp w hw
  · intro i hi
    rw [c 1 (by decide) (by omega)] at hi
    rw [eh, c _ (by omega) (by omega)]; exact h.hd i hi
  · intro i hi
    rw [uN_s] at hi
    rw [uR_b, cF_uN (by omega)]
    by_cases g : i = F 2
    · rw [g, uN_s, hx]
      have := getD_last (L := S.1 12) (s := s)
      rw [← h.c2] at this
      rw [this]
    · rw [cF_uN (by omega), getD_app (by rw [← h.c2]; omega)]; exact h.nx i (by omega)
  · intro i hi
    rw [c 3 (by decide) (by omega)] at hi
    rw [c _ (by omega) (by omega), e 11 (by decide)]; exact h.wd i hi
end W77
