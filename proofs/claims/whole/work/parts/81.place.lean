/-! ONE STATE, TWICE: where a lie stands -/
section W81
variable {S : St} {F : Nat → Nat} {n : Nat} {L : List Nat}
theorem filt_pos {p : Nat → Bool} {i : Nat} (hi : i < L.length) (hp : p (L.getD i 0) = true) : (L.take i).countP p < (L.filter p).length ∧ (L.filter p).getD ((L.take i).countP p) 0 = L.getD i 0 := by
  have h1 := cnt_take L hi hp (show i < L.length by omega)
  rw [List.take_of_length_le (Nat.le_refl _), List.countP_eq_length_filter (l := L)] at h1
  refine ⟨h1, ?_⟩
  obtain ⟨i2, hi2, g1, g2, g3⟩ := filt_at L _ h1
  rcases Nat.lt_trichotomy i2 i with g | g | g
  · have := cnt_take L hi2 g1 g; omega
  · rw [← g3, g]
  · have := cnt_take L hi hp g; omega
theorem EN.place (h : EN S F) (h1 : (S.1 11).length ≤ 147) {j : Nat} (hj : j < 7) (h2 : lF F j 9 = 2) : ∃ a, a < F 1 ∧ (∀ i, i < a → ¬ isW F j i) ∧ isW F j a := by
  rw [h.l9 j hj, stt] at h2
  cases e : gWh (S.1 11) j with
  | none => rw [e] at h2; exact absurd h2 (show ¬ (0 : Nat) = 2 by decide)
  | some i =>
    rw [e] at h2
    replace h2 : (if dX ((S.1 11).getD i 0) = true then 3 else if dT ((S.1 11).getD i 0) = j then 1 else 2) = 2 := h2
    have hi := gWh_lt e
    have hx : (!dX ((S.1 11).getD i 0)) = true := by
      cases g : dX ((S.1 11).getD i 0) with
      | true => rw [g, if_pos rfl] at h2; exact absurd h2 (by decide)
      | false => rfl
    have hw := List.find?_some e
    rw [Bool.and_eq_true, decide_eq_true_eq, decide_eq_true_eq] at hw
    obtain ⟨f1, f2⟩ := filt_pos (p := fun s => !dX s) hi hx
    refine ⟨((S.1 11).take i).countP (fun s => !dX s), by rw [h.c1]; exact f1, fun a' ha' hW => ?_, ?_⟩
    · have hlt : a' < (hrd S).length := by rw [hrd]; omega
      obtain ⟨i2, hi2, g1, g2, g3⟩ := filt_at (p := fun s => !dX s) (S.1 11) a' hlt
      have hii : i2 < i := by
        apply Decidable.byContradiction
        intro g
        have hle : ((S.1 11).take i).countP (fun s => !dX s) ≤ ((S.1 11).take i2).countP (fun s => !dX s) := by
          by_cases ge : i = i2
          · rw [ge]; exact Nat.le_refl _
          · exact Nat.le_of_lt (cnt_take (p := fun s => !dX s) (S.1 11) hi hx (show i < i2 by omega))
        omega
      have hc : F (110 + a') = cvS ((S.1 11).getD i2 0) := by rw [h.hd a' (by rw [h.c1]; exact hlt), g3]; rfl
      rw [isW, hc, cvS_w, cvS_e] at hW
      have hno := (List.find?_range_eq_some.mp e).2.2 i2 hii
      rw [hW.1, hW.2] at hno
      simp at hno
    · have hc : F (110 + ((S.1 11).take i).countP (fun s => !dX s)) = cvS ((S.1 11).getD i 0) := by
        rw [h.hd _ (by rw [h.c1]; exact f1), ← f2]; rfl
      rw [isW, hc, cvS_w, cvS_e]
      exact ⟨hw.2, hw.1⟩
theorem EN.okf (h : EN S F) (hs : Sh n S) (ho : So S) (hn : n ≤ 2 ^ 24) (h12 : (S.1 12).length ≤ 140) (h11 : (S.1 11).length ≤ 147) : OKF F := by
  have hl := hrd_le (S := S)
  have h5 := sum_bd (S.1 5) hs.pa
  rw [hs.l7 5 (by decide)] at h5
  have h7 := sum_bd (S.1 7) hs.ex
  rw [hs.l7 7 (by decide)] at h7
  have n0 := hs.nu 0 (by decide)
  have n2 := hs.nu 2 (by decide)
  have n3 := hs.nu 3 (by decide)
  have hc := h.cnn hs hn h12 h11
  refine ⟨h.bw hs, hc, fun j hj h2 => h.place h11 hj h2, ⟨⟨?_, fun i hi => ?_, fun p hp => ?_⟩, ?_, h.tl7 ho, ?_, ?_, ?_, fun l hl7 => (hc.1 l hl7).1, fun l hl7 => ?_, way_ok h ho⟩, fun l hl7 => ?_, ?_, ?_⟩
  · rw [h.c2]; exact h12
  · obtain ⟨e1, e2⟩ := h.nxm hi
    have hi2 : i < (S.1 12).length := by rw [← h.c2]; exact hi
    have hm : (S.1 12).getD i 0 ∈ S.1 12 := by rw [getD_lt hi2]; exact List.getElem_mem hi2
    have a := ho.eh _ hm
    have b := ho.ee _ hm
    rw [e1, e2, cvS_e]; omega
  · rw [h.pl p hp 2 (by decide)]
    have := getD_le hs.ec p
    show (S.1 10).getD p 0 < 2 ^ 28; omega
  · rw [h.c1]; omega
  · rw [h.c0]; omega
  · rw [h.c7]; omega
  · rw [h.c8]; omega
  · rw [h.ln l hl7 4 (by decide) (by decide), h.ln l hl7 6 (by decide) (by decide)]
    have a := getD_le hs.co l
    have b := getD_le hs.pa l
    show (S.1 3).getD l 0 < 2 ^ 28 ∧ (S.1 5).getD l 0 < 2 ^ 28
    omega
  · rw [h.ln l hl7 4 (by decide) (by decide), h.ln l hl7 5 (by decide) (by decide), h.ln l hl7 8 (by decide) (by decide)]
    have a := getD_le hs.co l
    have b := getD_le hs.mu l
    have d := getD_le hs.ex l
    show (S.1 3).getD l 0 < 2 ^ 28 ∧ (S.1 4).getD l 0 < 2 ^ 28 ∧ (S.1 7).getD l 0 < 2 ^ 28
    omega
  · rw [h.c6]; omega
  · rw [h.c9]; omega
theorem Sh.oks (hs : Sh n S) (ho : So S) (hn : n ≤ 2 ^ 24) : OKS S := by
  refine ⟨fun b hb x hx => ?_, fun x hx => okW_lt (hs.wo x hx), fun x hx => by have := hs.mu x hx; omega, fun x hx => by have := hs.de x hx; omega, fun x hx => ?_⟩
  · have hc : b = 0 ∨ b = 1 ∨ b = 2 ∨ b = 3 ∨ b = 4 ∨ b = 5 ∨ b = 6 ∨ b = 7 ∨ b = 8 ∨ b = 9 ∨ b = 10 ∨ b = 11 ∨ b = 12 := by omega
    rcases hc with rfl | rfl | rfl | rfl | rfl | rfl | rfl | rfl | rfl | rfl | rfl | rfl | rfl
    · have := okW_lt (hs.wo x hx); omega
    · have := hs.pr x hx; omega
    · have := hs.st x hx; omega
    · have := hs.co x hx; omega
    · have := hs.mu x hx; omega
    · have := hs.pa x hx; omega
    · have := hs.li x hx; omega
    · have := hs.ex x hx; omega
    · have := hs.de x hx; omega
    · have := hs.se x hx; omega
    · have := hs.ec x hx; omega
    · have := ho.tx x hx; omega
    · have := ho.ex x hx; omega
  · have a := (ho.eh x hx).1
    have b := (ho.ee x hx).1
    refine ⟨?_, b⟩
    unfold dH at a; omega
end W81
