/-! ONE STATE, TWICE: kept by whistles and lies -/
section W80
variable {S : St} {F : Nat → Nat} {n : Nat} {L : List Nat}
theorem stt_blow {S' : St} {l t : Nat} (hl : l < 7) (ht : t < 7) (hw : gWd S t < 448) (h : S'.1 11 = S.1 11 ++ [snd S l t]) (hn : gWh (S.1 11) l = none) (l' : Nat) : stt S' l' = if l' = l then (if t = l then 1 else 2) else stt S l' := by
  have hf := snd_f ht hl hw
  rw [show t + 8 * l + 512 * gWd S t = snd S l t from rfl] at hf
  have hx : dX (snd S l t) = false := dX_s (by omega)
  rw [stt, h]
  by_cases g : l' = l
  · subst g
    rw [gWh_n hn ⟨hf.2.2.1, hf.2.1⟩, if_pos rfl]
    show (if dX ((S.1 11 ++ [snd S l' t]).getD (S.1 11).length 0) = true then 3 else if dT ((S.1 11 ++ [snd S l' t]).getD (S.1 11).length 0) = l' then 1 else 2) = _
    rw [getD_last, hx, if_neg (by decide), show dT (snd S l' t) = t from hf.1]
  · rw [gWh_o (fun x => g (x.2.symm.trans hf.2.1)), if_neg g, stt]
    cases e : gWh (S.1 11) l' with
    | none => rfl
    | some i =>
      have hi := gWh_lt e
      show (if dX ((S.1 11 ++ [snd S l t]).getD i 0) = true then 3 else if dT ((S.1 11 ++ [snd S l t]).getD i 0) = l' then 1 else 2) = _
      rw [getD_app hi]
theorem sgF_I {l t st : Nat} (hl : l < 7) (h1 : F 1 < 170) : ∀ k, SGI F l st ((List.range k).foldl (sgS F l t) (sg1 F l t st))
  | 0 => sg1_I hl h1
  | k + 1 => by
    rw [fold_s, sgS]
    split
    · exact sgF_I hl h1 k
    · exact (sgF_I hl h1 k).st
theorem fOne_d {l t : Nat} (h11 : (S.1 11).length < 147) (htl : t = l) : fOne S l t (cost S l t) = dBlow S l t := by
  rw [fOne, dBlow, cBlow, if_pos htl, aBlow, rAdd, if_pos h11]
theorem en_whistle (h : EN S F) (hs : Sh n S) (hd : ∀ p, (S.1 8).getD p 0 < 6) {l : Nat} (hl : l < 7) (hn : gWh (S.1 11) l = none) (h11 : (S.1 11).length < 147) (h12 : (S.1 12).length ≤ 136) : EN (fBlow S l l) (whF F l) := by
  have hw : ∀ t, gWd S t < 448 := fun t => okW_lt (hs.w t)
  have ec : cost S l l = mSt F l := by rw [cost, if_pos rfl, h.sm hs hl]
  have h3 : F 3 < 168 := by rw [h.c3]; omega
  have h1 : F 1 < 168 := by rw [h.c1]; have := hrd_le (S := S); omega
  have c : ∀ j, j < 16 → uL F l 9 1 j = F j := fun j hj => cF_uL hj
  have m := (em_fold (F := uL F l 9 1) (em_state h.em hl) (hs.l7 2 (by decide)) hw hd (st := mSt F l) hl hl (by rw [c 1 (by decide)]; exact h1) (by rw [c 3 (by decide)]; exact h3) h12 4 (Nat.le_refl _)).1
  have e1 : uR (fOne S l l (mSt F l)) 12 ((List.range 4).foldl (eStep S l l) (S.1 12)) = fBlow S l l := by rw [← ec, fOne_d h11 rfl]; rfl
  rw [e1] at m
  refine EM.en m fun l' hl' => ?_
  have hI := (sgF_I (F := uL F l 9 1) (l := l) (t := l) (st := mSt F l) hl (by rw [c 1 (by decide)]; omega) 4).1 l' hl' 9 (by decide)
  rw [if_neg (by omega), lF_uL (by decide) (by decide)] at hI
  have h11' : (fBlow S l l).1 11 = S.1 11 ++ [snd S l l] := by
    rw [fBlow, uR_e (by decide), dBlow, uR_b, rAdd, if_pos h11]
  rw [stt_blow hl hl (hw l) h11' hn l', if_pos rfl]
  show lF ((List.range 4).foldl (sgS (uL F l 9 1) l l) (sg1 (uL F l 9 1) l l (mSt F l))) l' 9 = _
  rw [hI]
  by_cases g : l' = l
  · rw [if_pos ⟨g, rfl⟩, if_pos g]
  · rw [if_neg (fun x => g x.1), if_neg g]; exact h.l9 l' hl'
theorem uR_comm {a b : Nat} {X Y : List Nat} (h : a ≠ b) : uR (uR S a X) b Y = uR (uR S b Y) a X := by
  refine Prod.ext (funext fun z => ?_) rfl
  show (if z = b then Y else if z = a then X else S.1 z) = if z = a then X else if z = b then Y else S.1 z
  by_cases h1 : z = b <;> by_cases h2 : z = a
  · exact absurd (h2.symm.trans h1) h
  · rw [if_pos h1, if_neg h2, if_pos h1]
  · rw [if_neg h1, if_pos h2, if_pos h2]
  · rw [if_neg h1, if_neg h2, if_neg h2, if_neg h1]
theorem en_lie (h : EN S F) (hs : Sh n S) (hd : ∀ p, (S.1 8).getD p 0 < 6) {l t : Nat} (hl : l < 7) (ht : t < 7) (hne : l ≠ t) (hn : gWh (S.1 11) l = none) (h11 : (S.1 11).length < 147) (h12 : (S.1 12).length ≤ 136) : EN (fBlow S l t) (liF F l t) := by
  have hw : ∀ t, gWd S t < 448 := fun t => okW_lt (hs.w t)
  have ec : cost S l t = 2 * mSt F t := by rw [cost, if_neg hne, h.sm hs ht]
  have h3 : F 3 < 168 := by rw [h.c3]; omega
  have h1 : F 1 < 168 := by rw [h.c1]; have := hrd_le (S := S); omega
  have e7 : lF F l 7 = (S.1 6).getD l 0 := h.ln l hl 7 (by decide) (by decide)
  have m0 := em_lie6 (em_state h.em (x := 2) hl) (hs.l7 6 (by decide)) hl
  rw [show uL F l 9 2 5 = F 5 from cF_uL (by decide), ← e7] at m0
  replace m0 : EM (uR S 6 ((S.1 6).set l (lF F l 7 + 1))) (li1 F l) := m0
  have m := (em_fold m0 (hs.l7 2 (by decide)) hw hd (st := 2 * mSt F t) hl ht (by rw [li1_c (by decide) (by decide)]; exact h1) (by rw [li1_c (by decide) (by decide)]; exact h3) h12 4 (Nat.le_refl _)).1
  have e1 : uR (fOne (uR S 6 ((S.1 6).set l (lF F l 7 + 1))) l t (2 * mSt F t)) 12 ((List.range 4).foldl (eStep (uR S 6 ((S.1 6).set l (lF F l 7 + 1))) l t) ((uR S 6 ((S.1 6).set l (lF F l 7 + 1))).1 12)) = fBlow S l t := by
    rw [fBlow, dBlow, cBlow, if_neg (fun e => hne e.symm), aBlow, rAdd, if_pos h11, ec, e7, fOne]
    have e2 : uR (uI (uR S 2 ((S.1 2).set l ((S.1 2).getD l 0 - 2 * mSt F t))) 1 (S.2 1 + 1)) 6 ((S.1 6).set l ((S.1 6).getD l 0 + 1)) = uI (uR (uR S 6 ((S.1 6).set l ((S.1 6).getD l 0 + 1))) 2 ((S.1 2).set l ((S.1 2).getD l 0 - 2 * mSt F t))) 1 (S.2 1 + 1) := by
      rw [uR_comm (a := 6) (b := 2) (by decide)]; rfl
    rw [e2]; rfl
  rw [e1] at m
  refine EM.en m fun l' hl' => ?_
  have hI := (sgF_I (F := li1 F l) (l := l) (t := t) (st := 2 * mSt F t) hl (by rw [li1_c (by decide) (by decide)]; omega) 4).1 l' hl' 9 (by decide)
  rw [if_neg (by omega), li1, lF_uN (by omega) hl' (by decide), lF_uL (by decide) (by decide), if_neg (by omega), lF_uL (by decide) (by decide)] at hI
  have h11' : (fBlow S l t).1 11 = S.1 11 ++ [snd S l t] := by
    rw [fBlow, uR_e (by decide), dBlow, uR_b, rAdd, if_pos h11]
  rw [stt_blow hl ht (hw t) h11' hn l', if_neg (show ¬ t = l from fun e => hne e.symm)]
  show lF ((List.range 4).foldl (sgS (li1 F l) l t) (sg1 (li1 F l) l t (2 * mSt F t))) l' 9 = _
  rw [li1, hI]
  by_cases g : l' = l
  · rw [if_pos ⟨g, rfl⟩, if_pos g]
  · rw [if_neg (fun x => g x.1), if_neg g]; exact h.l9 l' hl'
end W80
