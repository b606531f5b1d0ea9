/-! ONE STATE, TWICE: where a lie stands -/
section W81
variable {S : St} {F : Nat → Nat} {n : Nat} {L : List Nat}
theorem filt_pos {p : Nat → Bool} {i : Nat} (hi : i < L.length) (hp : p (L.getD i 0) = true) : (L.take i).countP p < (L.filter p).length ∧ (L.filter p).getD ((L.take i).countP p) 0 = L.getD i 0 := by
  have h1 := cnt_take L hi hp (show i < L.length by omega)
  rw [List.take_of_length_le (Nat.le_refl _), List.countP_eq_length_filter (l := L)] at h1
  refine ⟨h1, ?_⟩
  obtain ⟨i2, hi2, g1, g2, g3⟩ := filt_at L _ h1
  rcases Nat.lt_trichotomy i2 i with g | g | g
  · have := cnt_take L hi2 g1 g; omega
  · rw [← g3, g]
  · have := cnt_take L hi hp g; omega
theorem EN.place (h : EN S F) (h1 : (S.1 11).length ≤ 147) {j : Nat} (hj : j < 7) (h2 : lF F j 9 = 2) : ∃ a, a < F 1 ∧ (∀ i, i < a → ¬ isW F j i) ∧ isW F j a := by
  rw [h.l9 j hj, stt] at h2
  cases e : gWh (S.1 11) j with
  | none => rw [e] at h2; exact absurd h2 (show ¬ (0 : Nat) = 2 by decide)
  | some i =>
    rw [e] at h2
    replace h2 : (if dX ((S.1 11).getD i 0) = true then 3 else if dT ((S.1 11).getD i 0) = j then 1 else 2) = 2 := h2
    have hi := gWh_lt e
    have hx : (!dX ((S.1 11).getD i 0)) = true := by
      cases g : dX ((S.1 11).getD i 0) with
      | true => rw [g, if_pos rfl] at h2; exact absurd h2 (by decide)
      | false => rfl
    have hw := List.find?_some e
    rw [Bool.and_eq_true, decide_eq_true_eq, decide_eq_true_eq] at hw
    obtain ⟨f1, f2⟩ := filt_pos (p := fun s => !dX s) hi hx
    refine ⟨((S.1 11).take i).countP (fun s => !dX s), by rw [h.c1]; exact f1, fun a' ha' hW => ?_, ?_⟩
    · have hlt : a' < (hrd S).length := by rw [hrd]; omega
      obtain ⟨i2, hi2, g1, g2, g3⟩ := filt_at (p := fun s => !dX s) (S.1 11) a' hlt
      have hii : i2 < i := by
        apply Decidable.byContradiction
        intro g
        have hle : ((S.1 11).take i).countP (fun s => !dX s) ≤ ((S.1 11).take i2).countP (fun s => !dX s) := by
          by_cases ge : i = i2
          · rw [ge]; exact Nat.le_refl _
          · exact Nat.le_of_lt (cnt_take (p := fun s => !dX s) (S.1 11) hi hx (show i < i2 by omega))
        omega
      have hc : F (110 + a') = cvS ((S.1 11).getD i2 0) := by rw [h.hd a' (by rw [h.c1]; exact hlt), g3]; rfl
      rw [isW, hc, cvS_w, cvS_e] at hW
      have hno := (List.find?_range_eq_some.mp e).2.2 i2 hii
      rw [hW.1, hW.2] at hno
      simp at hno
    · have hc : F (110 + ((S.1 11).take i).countP (fun s => !dX s)) = cvS ((S.1 11).getD i 0) := by
        rw [h.hd _ (by rw [h.c1]; exact f1), ← f2]; rfl
      rw [isW, hc, cvS_w, cvS_e]
      exact ⟨hw.2, hw.1⟩
end W81
