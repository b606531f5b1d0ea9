/-! ONE STATE, TWICE: the ranking -/
section W69
/-- pigeonhole -/
theorem php : ∀ (n : Nat) (f : Nat → Nat), (∀ i, i < n → f i < n) → (∀ i j, i < n → j < n → f i = f j → i = j) → ∀ p, p < n → ∃ i, i < n ∧ f i = p
  | 0, _, _, _, p, hp => absurd hp (Nat.not_lt_zero p)
  | n + 1, f, hf, hi, p, hp => by
    by_cases hq : f n = p
    · exact ⟨n, Nat.lt_succ_self n, hq⟩
    · have hne : ∀ i, i < n → f i ≠ f n := fun i h e => by have := hi i n (by omega) (by omega) e; omega
      have hgl : ∀ i, i < n → (if f i = n then f n else f i) < n := by
        intro i h
        have h1 := hf i (by omega)
        have h2 := hf n (by omega)
        have h3 := hne i h
        split
        · omega
        · omega
      have hgi : ∀ i j, i < n → j < n → (if f i = n then f n else f i) = (if f j = n then f n else f j) → i = j := by
        intro i j h1 h2 e
        have a1 := hne i h1
        have a2 := hne j h2
        apply hi i j (by omega) (by omega)
        split at e
        · split at e
          · omega
          · exact absurd e.symm a2
        · split at e
          · exact absurd e a1
          · exact e
      have ih := php n (fun i => if f i = n then f n else f i) hgl hgi
      have hfn := hf n (by omega)
      by_cases hpn : p = n
      · obtain ⟨i, h1, h2⟩ := ih (f n) (by omega)
        refine ⟨i, by omega, ?_⟩
        replace h2 : (if f i = n then f n else f i) = f n := h2
        split at h2
        · omega
        · exact absurd h2 (hne i h1)
      · obtain ⟨i, h1, h2⟩ := ih p (by omega)
        refine ⟨i, by omega, ?_⟩
        replace h2 : (if f i = n then f n else f i) = p := h2
        split at h2
        · exact absurd h2 hq
        · exact h2
variable {S : St} {F : Nat → Nat} {n : Nat} {L : List Nat}
theorem gAP_iff {l o : Nat} : gAheadP L l o = true ↔ (L.getD l 0 < L.getD o 0 ∨ (L.getD o 0 = L.getD l 0 ∧ o < l)) := by
  simp only [gAheadP, Bool.or_eq_true, Bool.and_eq_true, decide_eq_true_eq]
theorem cp_le {p q : Nat → Bool} (h : ∀ x, p x = true → q x = true) : ∀ M : List Nat, M.countP p ≤ M.countP q
  | [] => Nat.le_refl _
  | y :: M => by
    have := cp_le h M
    rw [List.countP_cons, List.countP_cons]
    by_cases e : p y = true
    · rw [if_pos e, if_pos (h y e)]; omega
    · rw [if_neg e]; omega
theorem cp_lt {p q : Nat → Bool} (h : ∀ x, p x = true → q x = true) {z : Nat} (hp : p z = false) (hq : q z = true) : ∀ M : List Nat, z ∈ M → M.countP p < M.countP q
  | y :: M, hz => by
    have hle := cp_le h M
    rw [List.countP_cons, List.countP_cons]
    by_cases e : z = y
    · subst e
      rw [hp, hq, if_neg (by decide), if_pos rfl]; omega
    · have ih := cp_lt h hp hq M ((List.mem_cons.mp hz).resolve_left e)
      by_cases e2 : p y = true
      · rw [if_pos e2, if_pos (h y e2)]; omega
      · rw [if_neg e2]; omega
theorem gAhead_lt {l o : Nat} (ho : o < 7) (h : gAheadP L l o = true) : gAhead L o < gAhead L l := by
  rw [gAhead, gAhead]
  refine cp_lt (z := o) (fun x hx => ?_) ?_ h _ (List.mem_range.mpr ho)
  · rw [gAP_iff] at hx h ⊢; omega
  · rw [Bool.eq_false_iff]; intro g; rw [gAP_iff] at g; omega
theorem gAhead_7 {l : Nat} (hl : l < 7) : gAhead L l < 7 := by
  have h1 : gAhead L l < (List.range 7).countP fun _ => true := by
    rw [gAhead]
    refine cp_lt (z := l) (fun _ _ => rfl) ?_ rfl _ (List.mem_range.mpr hl)
    rw [Bool.eq_false_iff]; intro g; rw [gAP_iff] at g; omega
  have h2 : ((List.range 7).countP fun _ => true) = 7 := by decide
  omega
theorem gAhead_inj {l o : Nat} (hl : l < 7) (ho : o < 7) (h : gAhead L l = gAhead L o) : l = o := by
  apply Decidable.byContradiction
  intro hne
  have hc : gAheadP L l o = true ∨ gAheadP L o l = true := by rw [gAP_iff, gAP_iff]; omega
  rcases hc with g | g
  · have := gAhead_lt ho g; omega
  · have := gAhead_lt hl g; omega
theorem gRk_f (L : List Nat) (p l : Nat) : ∀ k (r : Int32), (∀ i, i < k → gAhead L i = p → i = l) → (List.range k).foldl (gRkS L p) r = if l < k ∧ gAhead L l = p then nI l else r
  | 0, r, _ => (if_neg (fun g => absurd g.1 (Nat.not_lt_zero _))).symm
  | k + 1, r, h => by
    rw [fold_s, gRk_f L p l k r fun i hi => h i (by omega), gRkS]
    by_cases e : gAhead L k = p
    · rw [if_pos e, h k (by omega) e, if_pos ⟨by have := h k (by omega) e; omega, by rw [← h k (by omega) e]; exact e⟩]
    · rw [if_neg e]
      by_cases g : l < k ∧ gAhead L l = p
      · rw [if_pos g, if_pos ⟨by omega, g.2⟩]
      · rw [if_neg g, if_neg]
        intro g2
        by_cases e2 : l = k
        · subst e2; exact e g2.2
        · exact g ⟨by omega, g2.2⟩
theorem mAh_g (h : EN S F) {m : Int32} {l : Nat} (hl : l < 7) : mAh F (mw m) l 7 = gAhead (S.1 (rkRow m)) l := by
  have hw : (2 ≤ mw m ∧ mw m < 9) ∧ mw m - 1 = rkRow m := by
    unfold mw rkRow
    split
    · decide
    · split <;> decide
  rw [mAh, gAhead]
  refine List.countP_congr fun o ho => ?_
  rw [mAhd, gAheadP, h.ln l hl _ hw.1.1 hw.1.2, h.ln o (List.mem_range.mp ho) _ hw.1.1 hw.1.2, hw.2]
theorem same_rank (h : EN S F) (m p : Int32) : mqRk F m p = qRank S m p := by
  rw [mqRk, qRank, ite2]
  refine ite_c inI_f rfl fun hm => ?_
  have hr : ∀ l, l < 7 → mAh F (mw m) l 7 < 7 := fun l hl => by rw [mAh_g h hl]; exact gAhead_7 hl
  by_cases hp : isL p = false
  · rw [if_pos hp, mfind0]
    intro j hj
    refine decide_eq_false fun e => ?_
    rw [← e, isL_n (hr j hj)] at hp
    cases hp
  · rw [if_neg hp]
    obtain ⟨k, hk, rfl⟩ := isL_7 hp
    rw [nI_c7 (by omega)]
    obtain ⟨l, hl, e⟩ := php 7 (gAhead (S.1 (rkRow m))) (fun i hi => gAhead_7 hi) (fun i j hi hj e => gAhead_inj hi hj e) k hk
    have e2 : gRk (S.1 (rkRow m)) k = nI l := by
      rw [gRk, gRk_f _ k l 7 (-1) fun i hi hx => gAhead_inj hi hl (hx.trans e.symm), if_pos ⟨hl, e⟩]
    rw [e2, mfind hl]
    · intro j hj
      refine decide_eq_false fun g => ?_
      rw [nI_eq (by have := hr j (by omega); omega) (by omega), mAh_g h (by omega)] at g
      have := gAhead_inj (show j < 7 by omega) hl (g.trans e.symm)
      omega
    · rw [mAh_g h hl, e]; exact decide_eq_true rfl
end W69
