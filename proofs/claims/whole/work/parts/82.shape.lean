/-! THE SHAPE OF A STATE, kept when a number changes -/
section W82
variable {S : St} {n : Nat}
def shP (n b x : Nat) : Prop := if b = 0 then okW x else if b = 1 then x < 10 else if b = 2 then x ≤ 20 else if b = 4 then x ≤ 12 else if b = 8 then x < 6 else if b = 9 then x < 128 else x ≤ n
theorem Sh.all (h : Sh n S) {b x : Nat} (hb : b < 11) (hx : x ∈ S.1 b) : shP n b x := by
  have hc : b = 0 ∨ b = 1 ∨ b = 2 ∨ b = 3 ∨ b = 4 ∨ b = 5 ∨ b = 6 ∨ b = 7 ∨ b = 8 ∨ b = 9 ∨ b = 10 := by omega
  rcases hc with rfl | rfl | rfl | rfl | rfl | rfl | rfl | rfl | rfl | rfl | rfl
  · exact h.wo x hx
  · exact h.pr x hx
  · exact h.st x hx
  · exact h.co x hx
  · exact h.mu x hx
  · exact h.pa x hx
  · exact h.li x hx
  · exact h.ex x hx
  · exact h.de x hx
  · exact h.se x hx
  · exact h.ec x hx
theorem Sh.of (h7 : ∀ b, b < 8 → (S.1 b).length = 7) (h4 : ∀ b, 8 ≤ b → b < 11 → (S.1 b).length = 4) (ha : ∀ b, b < 11 → ∀ x ∈ S.1 b, shP n b x) (hn : ∀ j, j < 4 → S.2 j ≤ n) : Sh n S :=
  Sh.mk h7 h4 (ha 0 (by decide)) (ha 1 (by decide)) (ha 2 (by decide)) (ha 4 (by decide)) (ha 3 (by decide)) (ha 5 (by decide)) (ha 6 (by decide)) (ha 7 (by decide)) (ha 10 (by decide)) (ha 8 (by decide)) (ha 9 (by decide)) hn
theorem Sh.set (h : Sh n S) {b l x : Nat} (hx : shP n b x) : Sh n (uR S b ((S.1 b).set l x)) := by
  have hl : ∀ b', ((uR S b ((S.1 b).set l x)).1 b').length = (S.1 b').length := fun b' => by
    rw [uR_1]
    split
    · rename_i e; rw [e, List.length_set]
    · rfl
  refine Sh.of (fun b' hb => by rw [hl]; exact h.l7 b' hb) (fun b' h8 hb => by rw [hl]; exact h.l4 b' h8 hb) (fun b' hb y hy => ?_) h.nu
  rw [uR_1] at hy
  split at hy
  · rename_i e
    subst e
    exact all_set (P := shP n b') (fun z hz => h.all hb hz) hx y hy
  · exact h.all hb hy
theorem Sh.num (h : Sh n S) {j x : Nat} (hx : x ≤ n) : Sh n (uI S j x) := by
  refine Sh.of h.l7 h.l4 (fun b hb y hy => h.all hb hy) fun j' hj => ?_
  rw [uI_2]
  split
  · exact hx
  · exact h.nu j' hj
theorem shP_up {m b x : Nat} (h : shP n b x) (hm : n ≤ m) : shP m b x := by
  unfold shP at h ⊢
  repeat' split at h
  all_goals (repeat' split)
  all_goals first | exact h | omega
theorem Sh.up (h : Sh n S) {m : Nat} (hm : n ≤ m) : Sh m S := Sh.of h.l7 h.l4 (fun _ hb _ hx => shP_up (h.all hb hx) hm) fun j hj => Nat.le_trans (h.nu j hj) hm
theorem Sh.rows (h : Sh n S) {b : Nat} (hb : 11 ≤ b) {L : List Nat} : Sh n (uR S b L) := by
  have e : ∀ b', b' < 11 → (uR S b L).1 b' = S.1 b' := fun b' hb' => uR_e (by omega)
  refine Sh.of (fun b' hb' => by rw [e b' (by omega)]; exact h.l7 b' hb') (fun b' h8 hb' => by rw [e b' hb']; exact h.l4 b' h8 hb') (fun b' hb' y hy => ?_) h.nu
  rw [e b' hb'] at hy
  exact h.all hb' hy
theorem sh_blow (h : Sh n S) {l t : Nat} (hl : l < 7) : Sh (n + 1) (fBlow S l t) := by
  have h0 := h.up (Nat.le_succ n)
  have hst := getD_le h.st l
  have hli := getD_le h.li l
  have h1 : Sh (n + 1) (aBlow S l t) := (h0.set (b := 2) (l := l) (show (S.1 2).getD l 0 - cost S l t ≤ 20 by omega)).num (j := 1) (by have := h.nu 1 (by decide); omega)
  have h2 : Sh (n + 1) (cBlow S l t) := by
    unfold cBlow
    split
    · exact h1
    · exact h1.set (b := 6) (l := l) (show (S.1 6).getD l 0 + 1 ≤ n + 1 by omega)
  exact (h2.rows (Nat.le_refl 11)).rows (b := 12) (by decide)
theorem mem_rAdd {c x y : Nat} {L : List Nat} (h : y ∈ rAdd c L x) : y ∈ L ∨ y = x := by
  unfold rAdd at h
  split at h
  · rcases List.mem_append.mp h with g | g
    · exact Or.inl g
    · exact Or.inr (List.mem_singleton.mp g)
  · exact Or.inl h
theorem mem_eBlow {l t y : Nat} : ∀ k, y ∈ eBlow S l t k → y ∈ S.1 12 ∨ ∃ p, p < k ∧ 0 < (S.1 8).getD p 0 ∧ y = snd S l t + 64 * (p + 1) + 262144 * (S.1 8).getD p 0
  | 0, h => Or.inl h
  | k + 1, h => by
    rw [eBlow, fold_s, eStep] at h
    split at h
    · rename_i g
      rcases mem_rAdd h with e | e
      · rcases mem_eBlow k e with e2 | ⟨p, hp, h1, h2⟩
        · exact Or.inl e2
        · exact Or.inr ⟨p, by omega, h1, h2⟩
      · exact Or.inr ⟨k, Nat.lt_succ_self k, g.1, e⟩
    · rcases mem_eBlow k h with e2 | ⟨p, hp, h1, h2⟩
      · exact Or.inl e2
      · exact Or.inr ⟨p, by omega, h1, h2⟩
theorem so_blow (h : Sh n S) (ho : So S) {l t : Nat} (hl : l < 7) (ht : t < 7) (h0 : gWd S t ≠ 0) : So (fBlow S l t) := by
  have hw := h.w t
  have hw4 := okW_lt hw
  have hw6 : 64 ≤ gWd S t := by rcases hw with e | e <;> omega
  have hf := snd_f ht hl hw4
  rw [show t + 8 * l + 512 * gWd S t = snd S l t from rfl] at hf
  have r11 : ∀ s, s ∈ (fBlow S l t).1 11 → s ∈ S.1 11 ∨ s = snd S l t := fun s hs => by
    rw [fBlow, uR_e (by decide), dBlow, uR_b] at hs
    exact mem_rAdd hs
  have r12 : ∀ s, s ∈ (fBlow S l t).1 12 → s ∈ S.1 12 ∨ ∃ p, p < 4 ∧ 0 < (S.1 8).getD p 0 ∧ s = snd S l t + 64 * (p + 1) + 262144 * (S.1 8).getD p 0 := fun s hs => by
    rw [fBlow, uR_b] at hs
    exact mem_eBlow 4 hs
  have hd : ∀ p, (S.1 8).getD p 0 < 6 := fun p => by
    have := getD_le (m := 5) (fun x hx => by have := h.de x hx; omega : ∀ x ∈ S.1 8, x ≤ 5) p
    omega
  have ef : ∀ p, p < 4 → _ := fun p hp => ech_f ht hl hw4 hp (hd p)
  refine So.mk (fun s hs => ?_) (fun s hs => ?_) (fun s hs => ?_) (fun s hs => ?_) (fun s hs => ?_) (fun s hs => ?_) (fun s hs => ?_) (fun s hs => ?_) (fun s hs => ?_) (fun s hs => ?_) (fun s hs => ?_) (fun s hs => ?_)
  · rcases r11 s hs with g | rfl
    · exact ho.tx s g
    · omega
  · rcases r11 s hs with g | rfl
    · exact ho.th s g
    · exact hf.2.2.2.2.1
  · rcases r11 s hs with g | rfl
    · exact ho.tt s g
    · rw [hf.1]; exact ht
  · rcases r11 s hs with g | rfl
    · exact ho.tw s g
    · rw [hf.2.1]; exact hl
  · rcases r11 s hs with g | rfl
    · exact ho.te s g
    · rw [hf.2.2.1]; exact Nat.zero_le _
  · rcases r11 s hs with g | rfl
    · exact ho.td s g
    · rw [hf.2.2.2.1]; exact ⟨hw6, hw4⟩
  · rcases r12 s hs with g | ⟨p, hp, h1, rfl⟩
    · exact ho.ex s g
    · exact (ef p hp).2.2.2.2.2
  · rcases r12 s hs with g | ⟨p, hp, h1, rfl⟩
    · exact ho.eh s g
    · have e := (ef p hp).2.2.2.2.1
      have := hd p
      show 1 ≤ dH (t + 8 * l + 512 * gWd S t + 64 * (p + 1) + 262144 * (S.1 8).getD p 0) ∧ dH (t + 8 * l + 512 * gWd S t + 64 * (p + 1) + 262144 * (S.1 8).getD p 0) ≤ 5
      rw [e]; omega
  · rcases r12 s hs with g | ⟨p, hp, h1, rfl⟩
    · exact ho.et s g
    · exact Nat.lt_of_le_of_lt (Nat.le_of_eq (ef p hp).1) ht
  · rcases r12 s hs with g | ⟨p, hp, h1, rfl⟩
    · exact ho.ew s g
    · exact Nat.lt_of_le_of_lt (Nat.le_of_eq (ef p hp).2.1) hl
  · rcases r12 s hs with g | ⟨p, hp, h1, rfl⟩
    · exact ho.ee s g
    · have e := (ef p hp).2.2.1
      show 1 ≤ dE (t + 8 * l + 512 * gWd S t + 64 * (p + 1) + 262144 * (S.1 8).getD p 0) ∧ dE (t + 8 * l + 512 * gWd S t + 64 * (p + 1) + 262144 * (S.1 8).getD p 0) ≤ 4
      rw [e]; omega
  · rcases r12 s hs with g | ⟨p, hp, h1, rfl⟩
    · exact ho.ed s g
    · have e := (ef p hp).2.2.2.1
      show 64 ≤ dD (t + 8 * l + 512 * gWd S t + 64 * (p + 1) + 262144 * (S.1 8).getD p 0) ∧ dD (t + 8 * l + 512 * gWd S t + 64 * (p + 1) + 262144 * (S.1 8).getD p 0) < 448
      rw [e]; exact ⟨hw6, hw4⟩
end W82
