/-! ONE STATE, TWICE: kept by the simple orders -/
section W75
variable {S : St} {F : Nat → Nat} {n : Nat}
theorem uR_e {b b' : Nat} {L : List Nat} (h : b' ≠ b) : (uR S b L).1 b' = S.1 b' := if_neg h
theorem uR_b {b : Nat} {L : List Nat} : (uR S b L).1 b = L := if_pos rfl
theorem hrd_e {S' : St} (h : S'.1 11 = S.1 11) : hrd S' = hrd S := by rw [hrd, hrd, h]
theorem stt_e {S' : St} (h : S'.1 11 = S.1 11) (l : Nat) : stt S' l = stt S l := by rw [stt, stt, h]
theorem en_line (h : EN S F) {l w x : Nat} (hL : (S.1 (w - 1)).length = 7) (hl : l < 7) (h2 : 2 ≤ w) (h5 : w ≤ 5) : EN (uR S (w - 1) ((S.1 (w - 1)).set l x)) (uL F l w x) := by
  have e : ∀ b, b ≠ w - 1 → (uR S (w - 1) ((S.1 (w - 1)).set l x)).1 b = S.1 b := fun b hb => uR_e hb
  have e11 := e 11 (by omega)
  have c : ∀ j, j < 16 → uL F l w x j = F j := fun j hj => cF_uL hj
  have c2 : ∀ j, 92 ≤ j → uL F l w x j = F j := fun j hj => cF_uL2 (by omega) hl (Or.inr hj)
  refine EN.mk ?_ ?_ ?_ ?_ ?_ ?_ ?_ ?_ ?_ ?_ ?_ ?_ ?_ ?_ ?_ ?_ ?_ ?_
  · rw [c 0 (by decide)]; exact h.c0
  · rw [c 1 (by decide), hrd_e e11]; exact h.c1
  · rw [c 2 (by decide), e 12 (by omega)]; exact h.c2
  · rw [c 3 (by decide), e11]; exact h.c3
  · rw [c 4 (by decide)]; exact h.c4
  · rw [c 5 (by decide), e 6 (by omega)]; exact h.c5
  · rw [c 6 (by decide), e 7 (by omega)]; exact h.c6
  · rw [c 7 (by decide), e 5 (by omega)]; exact h.c7
  · rw [c 8 (by decide)]; exact h.c8
  · rw [c 9 (by decide)]; exact h.c9
  · intro l' hl'
    rw [lF_uL (by omega) (by decide), if_neg (by omega), gWd, e 0 (by omega)]; exact h.w0 l' hl'
  · intro l' hl'
    rw [lF_uL (by omega) (by decide), if_neg (by omega), gWd, e 0 (by omega)]; exact h.w1 l' hl'
  · intro l' hl' w' h2' h9'
    rw [lF_uL (by omega) (by omega)]
    by_cases g : w' = w
    · subst g
      rw [uR_b, getD_set (by rw [hL]; exact hl)]
      by_cases g2 : l' = l
      · rw [if_pos ⟨g2, rfl⟩, if_pos g2]
      · rw [if_neg (fun x => g2 x.1), if_neg g2]; exact h.ln l' hl' w' h2' h9'
    · rw [if_neg (fun x => g x.2), e (w' - 1) (by omega)]; exact h.ln l' hl' w' h2' h9'
  · intro l' hl'
    rw [lF_uL (by omega) (by decide), if_neg (by omega), stt_e e11]; exact h.l9 l' hl'
  · intro p hp w' hw'
    rw [pF_uL hl (by omega), e (8 + w') (by omega)]; exact h.pl p hp w' hw'
  · intro i hi
    rw [c 1 (by decide)] at hi
    rw [c2 _ (by omega), hrd_e e11]; exact h.hd i hi
  · intro i hi
    rw [c 2 (by decide)] at hi
    rw [c2 _ (by omega), e 12 (by omega)]; exact h.nx i hi
  · intro i hi
    rw [c 3 (by decide)] at hi
    rw [c2 _ (by omega), e11]; exact h.wd i hi
theorem en_word (h : EN S F) (hs : Sh n S) {l m b : Nat} (hl : l < 7) (hb : b < 64) : EN (uR S 0 ((S.1 0).set l (m * 64 + b))) (tellF F l m b) := by
  have e : ∀ b', b' ≠ 0 → (uR S 0 ((S.1 0).set l (m * 64 + b))).1 b' = S.1 b' := fun b' hb => uR_e hb
  have e11 := e 11 (by decide)
  have c : ∀ j, j < 16 → tellF F l m b j = F j := fun j hj => by rw [tellF, cF_uL hj, cF_uL hj]
  have c2 : ∀ j, 92 ≤ j → tellF F l m b j = F j := fun j hj => by rw [tellF, cF_uL2 (by decide) hl (Or.inr hj), cF_uL2 (by decide) hl (Or.inr hj)]
  have k : ∀ l' w', l' < 7 → 2 ≤ w' → w' < 10 → lF (tellF F l m b) l' w' = lF F l' w' := fun l' w' hl' h2 h10 => by
    rw [tellF, lF_uL (by decide) h10, if_neg (by omega), lF_uL (by decide) h10, if_neg (by omega)]
  have wd : ∀ l', gWd (uR S 0 ((S.1 0).set l (m * 64 + b))) l' = if l' = l then m * 64 + b else gWd S l' := fun l' => by
    rw [gWd, uR_b, getD_set (by rw [hs.l7 0 (by decide)]; exact hl)]; rfl
  refine EN.mk ?_ ?_ ?_ ?_ ?_ ?_ ?_ ?_ ?_ ?_ ?_ ?_ ?_ ?_ ?_ ?_ ?_ ?_
  · rw [c 0 (by decide)]; exact h.c0
  · rw [c 1 (by decide), hrd_e e11]; exact h.c1
  · rw [c 2 (by decide), e 12 (by decide)]; exact h.c2
  · rw [c 3 (by decide), e11]; exact h.c3
  · rw [c 4 (by decide)]; exact h.c4
  · rw [c 5 (by decide), e 6 (by decide)]; exact h.c5
  · rw [c 6 (by decide), e 7 (by decide)]; exact h.c6
  · rw [c 7 (by decide), e 5 (by decide)]; exact h.c7
  · rw [c 8 (by decide)]; exact h.c8
  · rw [c 9 (by decide)]; exact h.c9
  · intro l' hl'
    rw [wd, tellF, lF_uL (by decide) (by decide), if_neg (by omega), lF_uL (by decide) (by decide)]
    by_cases g : l' = l
    · rw [if_pos ⟨g, rfl⟩, if_pos g]; omega
    · rw [if_neg (fun x => g x.1), if_neg g]; exact h.w0 l' hl'
  · intro l' hl'
    rw [wd, tellF, lF_uL (by decide) (by decide)]
    by_cases g : l' = l
    · rw [if_pos ⟨g, rfl⟩, if_pos g]; omega
    · rw [if_neg (fun x => g x.1), if_neg g, lF_uL (by decide) (by decide), if_neg (by omega)]; exact h.w1 l' hl'
  · intro l' hl' w' h2' h9'
    rw [k l' w' hl' h2' (by omega), e (w' - 1) (by omega)]; exact h.ln l' hl' w' h2' h9'
  · intro l' hl'
    rw [k l' 9 hl' (by decide) (by decide), stt_e e11]; exact h.l9 l' hl'
  · intro p hp w' hw'
    rw [tellF, pF_uL hl (by decide), pF_uL hl (by decide), e (8 + w') (by omega)]; exact h.pl p hp w' hw'
  · intro i hi
    rw [c 1 (by decide)] at hi
    rw [c2 _ (by omega), hrd_e e11]; exact h.hd i hi
  · intro i hi
    rw [c 2 (by decide)] at hi
    rw [c2 _ (by omega), e 12 (by decide)]; exact h.nx i hi
  · intro i hi
    rw [c 3 (by decide)] at hi
    rw [c2 _ (by omega), e11]; exact h.wd i hi
theorem en_plat (h : EN S F) {p w x : Nat} (hL : (S.1 (8 + w)).length = 4) (hp : p < 4) (hw : w < 3) : EN (uR S (8 + w) ((S.1 (8 + w)).set p x)) (uP F p w x) := by
  have e : ∀ b', b' ≠ 8 + w → (uR S (8 + w) ((S.1 (8 + w)).set p x)).1 b' = S.1 b' := fun b' hb => uR_e hb
  have e11 := e 11 (by omega)
  have c : ∀ j, j < 92 ∨ 110 ≤ j → uP F p w x j = F j := fun j hj => cF_uP hp hw hj
  refine EN.mk ?_ ?_ ?_ ?_ ?_ ?_ ?_ ?_ ?_ ?_ ?_ ?_ ?_ ?_ ?_ ?_ ?_ ?_
  · rw [c 0 (by decide)]; exact h.c0
  · rw [c 1 (by decide), hrd_e e11]; exact h.c1
  · rw [c 2 (by decide), e 12 (by omega)]; exact h.c2
  · rw [c 3 (by decide), e11]; exact h.c3
  · rw [c 4 (by decide)]; exact h.c4
  · rw [c 5 (by decide), e 6 (by omega)]; exact h.c5
  · rw [c 6 (by decide), e 7 (by omega)]; exact h.c6
  · rw [c 7 (by decide), e 5 (by omega)]; exact h.c7
  · rw [c 8 (by decide)]; exact h.c8
  · rw [c 9 (by decide)]; exact h.c9
  · intro l' hl'
    rw [lF_uP hl' (by decide), gWd, e 0 (by omega)]; exact h.w0 l' hl'
  · intro l' hl'
    rw [lF_uP hl' (by decide), gWd, e 0 (by omega)]; exact h.w1 l' hl'
  · intro l' hl' w' h2' h9'
    rw [lF_uP hl' (by omega), e (w' - 1) (by omega)]; exact h.ln l' hl' w' h2' h9'
  · intro l' hl'
    rw [lF_uP hl' (by decide), stt_e e11]; exact h.l9 l' hl'
  · intro p' hp' w' hw'
    rw [pF_uP hw hw']
    by_cases g : w' = w
    · subst g
      rw [uR_b, getD_set (by rw [hL]; exact hp)]
      by_cases g2 : p' = p
      · rw [if_pos ⟨g2, rfl⟩, if_pos g2]
      · rw [if_neg (fun x => g2 x.1), if_neg g2]; exact h.pl p' hp' w' hw'
    · rw [if_neg (fun x => g x.2), e (8 + w') (by omega)]; exact h.pl p' hp' w' hw'
  · intro i hi
    rw [c 1 (by decide)] at hi
    rw [c _ (by omega), hrd_e e11]; exact h.hd i hi
  · intro i hi
    rw [c 2 (by decide)] at hi
    rw [c _ (by omega), e 12 (by omega)]; exact h.nx i hi
  · intro i hi
    rw [c 3 (by decide)] at hi
    rw [c _ (by omega), e11]; exact h.wd i hi
theorem en_fines (h : EN S F) {x : Nat} : EN (uI S 3 x) (uN F 9 x) := by
  have c : ∀ j, j ≠ 9 → uN F 9 x j = F j := fun j hj => cF_uN hj
  refine EN.mk ?_ ?_ ?_ ?_ ?_ ?_ ?_ ?_ ?_ ?_ ?_ ?_ ?_ ?_ ?_ ?_ ?_ ?_
  · rw [c 0 (by decide)]; exact h.c0
  · rw [c 1 (by decide)]; exact h.c1
  · rw [c 2 (by decide)]; exact h.c2
  · rw [c 3 (by decide)]; exact h.c3
  · rw [c 4 (by decide)]; exact h.c4
  · rw [c 5 (by decide)]; exact h.c5
  · rw [c 6 (by decide)]; exact h.c6
  · rw [c 7 (by decide)]; exact h.c7
  · rw [c 8 (by decide)]; exact h.c8
  · exact uN_s
  · intro l' hl'
    rw [lF_uN (by omega) hl' (by decide)]; exact h.w0 l' hl'
  · intro l' hl'
    rw [lF_uN (by omega) hl' (by decide)]; exact h.w1 l' hl'
  · intro l' hl' w' h2' h9'
    rw [lF_uN (by omega) hl' (by omega)]; exact h.ln l' hl' w' h2' h9'
  · intro l' hl'
    rw [lF_uN (by omega) hl' (by decide)]; exact h.l9 l' hl'
  · intro p hp w' hw'
    rw [pF_uN (by omega) hp hw']; exact h.pl p hp w' hw'
  · intro i hi
    rw [c 1 (by decide)] at hi
    rw [c _ (by omega)]; exact h.hd i hi
  · intro i hi
    rw [c 2 (by decide)] at hi
    rw [c _ (by omega)]; exact h.nx i hi
  · intro i hi
    rw [c 3 (by decide)] at hi
    rw [c _ (by omega)]; exact h.wd i hi
theorem en_pay (h : EN S F) (hs : Sh n S) {l : Nat} (hl : l < 7) : EN (fPay S l) (payF F l) := by
  have h4 : lF F l 4 = (S.1 3).getD l 0 := h.ln l hl 4 (by decide) (by decide)
  have h5 : lF F l 5 = (S.1 4).getD l 0 := h.ln l hl 5 (by decide) (by decide)
  have e1 := en_line h (w := 4) (x := lF F l 4 - 2 * lF F l 5) (hs.l7 3 (by decide)) hl (by decide) (by decide)
  have e2 := en_line e1 (w := 5) (x := 0) (by rw [uR_e (by decide)]; exact hs.l7 4 (by decide)) hl (by decide) (by decide)
  have e3 := en_fines e2 (x := F 9 + 2 * lF F l 5)
  rw [payF]
  rw [h4, h5, h.c9] at e3 ⊢
  exact e3
theorem en_platform (h : EN S F) (hs : Sh n S) {p dl ls : Nat} (hp : p < 4) : EN (uR (uR S 8 ((S.1 8).set p dl)) 9 ((S.1 9).set p ls)) (uP (uP F p 0 dl) p 1 ls) := by
  have e1 := en_plat h (w := 0) (x := dl) (hs.l4 8 (by decide) (by decide)) hp (by decide)
  have e2 := en_plat e1 (w := 1) (x := ls) (by rw [uR_e (by decide)]; exact hs.l4 9 (by decide) (by decide)) hp (by decide)
  exact e2
theorem en_unsign (h : EN S F) (hs : Sh n S) {l : Nat} (hl : l < 7) : EN (uR S 0 ((S.1 0).set l 0)) (tellF F l 0 0) := en_word h hs (m := 0) (b := 0) hl (by decide)
theorem en_pri (h : EN S F) (hs : Sh n S) {l x : Nat} (hl : l < 7) : EN (uR S 1 ((S.1 1).set l x)) (uL F l 2 x) := en_line h (w := 2) (hs.l7 1 (by decide)) hl (by decide) (by decide)
theorem en_mute (h : EN S F) (hs : Sh n S) {l x : Nat} (hl : l < 7) : EN (uR S 4 ((S.1 4).set l x)) (uL F l 5 x) := en_line h (w := 5) (hs.l7 4 (by decide)) hl (by decide) (by decide)
theorem mPc_g (h : EN S F) (hs : Sh n S) : mPc F 4 = (S.1 8).countP (0 < ·) := by
  rw [cnt_r, hs.l4 8 (by decide) (by decide), mPc]
  refine List.countP_congr fun p hp => ?_
  rw [h.pl p (List.mem_range.mp hp) 0 (by decide)]
/-- a row with one number changed keeps what all its numbers have -/
theorem all_set {P : Nat → Prop} {L : List Nat} {i x : Nat} (h : ∀ y ∈ L, P y) (hx : P x) : ∀ y ∈ L.set i x, P y := fun y hy => by
  rcases List.mem_or_eq_of_mem_set hy with g | g
  · exact h y g
  · rw [g]; exact hx
end W75
