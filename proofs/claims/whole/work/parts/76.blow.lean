/-! ONE STATE, TWICE: a sound more -/
section W76
variable {S : St} {F : Nat → Nat} {n : Nat} {L : List Nat}
theorem getD_app {L : List Nat} {s i : Nat} (h : i < L.length) : (L ++ [s]).getD i 0 = L.getD i 0 := by
  rw [List.getD_eq_getElem?_getD, List.getD_eq_getElem?_getD, List.getElem?_append_left h]
theorem getD_last {L : List Nat} {s : Nat} : (L ++ [s]).getD L.length 0 = s := by
  rw [List.getD_eq_getElem?_getD, List.getElem?_append_right (Nat.le_refl _), Nat.sub_self]; rfl
theorem gWh_a {s l : Nat} : gWh (L ++ [s]) l = (gWh L l).or (if dE s = 0 ∧ dW s = l then some L.length else none) := by
  rw [gWh, List.length_append, List.length_singleton, List.range_succ, List.find?_append]
  have e1 : ((List.range L.length).find? fun i => decide (dE ((L ++ [s]).getD i 0) = 0) && decide (dW ((L ++ [s]).getD i 0) = l)) = gWh L l := by
    rw [gWh]
    exact find_congr fun i hi => by rw [getD_app hi]
  rw [e1, List.find?_singleton, getD_last]
  congr 1
  by_cases g : dE s = 0 ∧ dW s = l
  · rw [if_pos g, g.1, g.2]; simp
  · rw [if_neg g, andd g]; rfl
theorem gWh_n {s l : Nat} (h : gWh L l = none) (hs : dE s = 0 ∧ dW s = l) : gWh (L ++ [s]) l = some L.length := by
  rw [gWh_a, h, if_pos hs]; rfl
theorem gWh_o {s l : Nat} (hs : ¬ (dE s = 0 ∧ dW s = l)) : gWh (L ++ [s]) l = gWh L l := by
  rw [gWh_a, if_neg hs]
  cases gWh L l <;> rfl
theorem hrd_a {S' : St} {s : Nat} (h : S'.1 11 = S.1 11 ++ [s]) (hx : dX s = false) : hrd S' = hrd S ++ [s] := by
  rw [hrd, hrd, h, List.filter_append, List.filter_cons_of_pos (by rw [hx]; rfl)]; rfl
/-- a whistle's fields -/
theorem snd_f {t l w : Nat} (ht : t < 7) (hl : l < 7) (hw : w < 448) : dT (t + 8 * l + 512 * w) = t ∧ dW (t + 8 * l + 512 * w) = l ∧ dE (t + 8 * l + 512 * w) = 0 ∧ dD (t + 8 * l + 512 * w) = w ∧ dH (t + 8 * l + 512 * w) = 0 ∧ t + 8 * l + 512 * w < 262144 := by
  refine ⟨?_, ?_, ?_, ?_, ?_, ?_⟩ <;> (try unfold dT) <;> (try unfold dW) <;> (try unfold dE) <;> (try unfold dD) <;> (try unfold dH) <;> omega
theorem dX_s {s : Nat} (h : s < 2097152) : dX s = false := by
  rw [dX]; exact Nat.testBit_lt_two_pow h
/-- an echo's fields -/
theorem ech_f {t l w p dl : Nat} (ht : t < 7) (hl : l < 7) (hw : w < 448) (hp : p < 4) (hd : dl < 6) : dT (t + 8 * l + 512 * w + 64 * (p + 1) + 262144 * dl) = t ∧ dW (t + 8 * l + 512 * w + 64 * (p + 1) + 262144 * dl) = l ∧ dE (t + 8 * l + 512 * w + 64 * (p + 1) + 262144 * dl) = p + 1 ∧ dD (t + 8 * l + 512 * w + 64 * (p + 1) + 262144 * dl) = w ∧ dH (t + 8 * l + 512 * w + 64 * (p + 1) + 262144 * dl) = dl ∧ t + 8 * l + 512 * w + 64 * (p + 1) + 262144 * dl < 2097152 := by
  refine ⟨?_, ?_, ?_, ?_, ?_, ?_⟩ <;> (try unfold dT) <;> (try unfold dW) <;> (try unfold dE) <;> (try unfold dD) <;> (try unfold dH) <;> omega
theorem cvS_q {s t b e w : Nat} (h1 : dT s = t) (h2 : dW s = b) (h3 : dE s = e) (h4 : dD s = w) : cvS s = ((t * 8 + b) * 8 + e) * 512 + w := by rw [cvS, h1, h2, h3, h4]
/-- the model's number of a sound is the class's -/
theorem EN.snn (h : EN S F) (hs : Sh n S) {t b e : Nat} (ht : t < 7) : sn F t b e = ((t * 8 + b) * 8 + e) * 512 + gWd S t := by
  have := okW_lt (hs.w t)
  rw [sn, h.w0 t ht, h.w1 t ht]; omega
end W76
