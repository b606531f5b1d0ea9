/-! ONE STATE, TWICE: kept by whistles and lies -/
section W80
variable {S : St} {F : Nat → Nat} {n : Nat} {L : List Nat}
theorem stt_blow {S' : St} {l t : Nat} (hl : l < 7) (ht : t < 7) (hw : gWd S t < 448) (h : S'.1 11 = S.1 11 ++ [snd S l t]) (hn : gWh (S.1 11) l = none) (l' : Nat) : stt S' l' = if l' = l then (if t = l then 1 else 2) else stt S l' := by
  have hf := snd_f ht hl hw
  rw [show t + 8 * l + 512 * gWd S t = snd S l t from rfl] at hf
  have hx : dX (snd S l t) = false := dX_s (by omega)
  rw [stt, h]
  by_cases g : l' = l
  · subst g
    rw [gWh_n hn ⟨hf.2.2.1, hf.2.1⟩, if_pos rfl]
    show (if dX ((S.1 11 ++ [snd S l' t]).getD (S.1 11).length 0) = true then 3 else if dT ((S.1 11 ++ [snd S l' t]).getD (S.1 11).length 0) = l' then 1 else 2) = _
    rw [getD_last, hx, if_neg (by decide), show dT (snd S l' t) = t from hf.1]
  · rw [gWh_o (fun x => g (x.2.symm.trans hf.2.1)), if_neg g, stt]
    cases e : gWh (S.1 11) l' with
    | none => rfl
    | some i =>
      have hi := gWh_lt e
      show (if dX ((S.1 11 ++ [snd S l t]).getD i 0) = true then 3 else if dT ((S.1 11 ++ [snd S l t]).getD i 0) = l' then 1 else 2) = _
      rw [getD_app hi]
theorem sgF_I {l t st : Nat} (hl : l < 7) (h1 : F 1 < 170) : ∀ k, SGI F l st ((List.range k).foldl (sgS F l t) (sg1 F l t st))
  | 0 => sg1_I hl h1
  | k + 1 => by
    rw [fold_s, sgS]
    split
    · exact sgF_I hl h1 k
    · exact (sgF_I hl h1 k).st
theorem fOne_d {l t : Nat} (h11 : (S.1 11).length < 147) (htl : t = l) : fOne S l t (cost S l t) = dBlow S l t := by
  rw [fOne, dBlow, cBlow, if_pos htl, aBlow, rAdd, if_pos h11]
theorem en_whistle (h : EN S F) (hs : Sh n S) (hd : ∀ p, (S.1 8).getD p 0 < 6) {l : Nat} (hl : l < 7) (hn : gWh (S.1 11) l = none) (h11 : (S.1 11).length < 147) (h12 : (S.1 12).length ≤ 136) : EN (fBlow S l l) (whF F l) := by
  have hw : ∀ t, gWd S t < 448 := fun t => okW_lt (hs.w t)
  have ec : cost S l l = mSt F l := by rw [cost, if_pos rfl, h.sm hs hl]
  have h3 : F 3 < 168 := by rw [h.c3]; omega
  have h1 : F 1 < 168 := by rw [h.c1]; have := hrd_le (S := S); omega
  have c : ∀ j, j < 16 → uL F l 9 1 j = F j := fun j hj => cF_uL hj
  have m := (em_fold (F := uL F l 9 1) (em_state h.em hl) (hs.l7 2 (by decide)) hw hd (st := mSt F l) hl hl (by rw [c 1 (by decide)]; exact h1) (by rw [c 3 (by decide)]; exact h3) h12 4 (Nat.le_refl _)).1
  have e1 : uR (fOne S l l (mSt F l)) 12 ((List.range 4).foldl (eStep S l l) (S.1 12)) = fBlow S l l := by rw [← ec, fOne_d h11 rfl]; rfl
  rw [e1] at m
  refine EM.en m fun l' hl' => ?_
  have hI := (sgF_I (F := uL F l 9 1) (l := l) (t := l) (st := mSt F l) hl (by rw [c 1 (by decide)]; omega) 4).1 l' hl' 9 (by decide)
  rw [if_neg (by omega), lF_uL (by decide) (by decide)] at hI
  have h11' : (fBlow S l l).1 11 = S.1 11 ++ [snd S l l] := by
    rw [fBlow, uR_e (by decide), dBlow, uR_b, rAdd, if_pos h11]
  rw [stt_blow hl hl (hw l) h11' hn l', if_pos rfl]
  show lF ((List.range 4).foldl (sgS (uL F l 9 1) l l) (sg1 (uL F l 9 1) l l (mSt F l))) l' 9 = _
  rw [hI]
  by_cases g : l' = l
  · rw [if_pos ⟨g, rfl⟩, if_pos g]
  · rw [if_neg (fun x => g x.1), if_neg g]; exact h.l9 l' hl'
end W80
