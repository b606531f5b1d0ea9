/-! ONE STATE, TWICE: clear signs, free words -/
section W72
variable {S : St} {F : Nat → Nat} {n : Nat} {Lt W L : List Nat}
theorem gStd_0 (hw : okWs L) {i j : Nat} (hne : i ≠ j) : gStd L i j = 0 ↔ ¬ (L.getD i 0 ≠ 0 ∧ L.getD j 0 ≠ 0 ∧ (wBeg (L.getD i 0) (L.getD j 0) = true ∨ wBeg (L.getD j 0) (L.getD i 0) = true)) := by
  rw [gStd]
  by_cases g : L.getD i 0 = 0 ∨ L.getD j 0 = 0
  · rw [if_pos g]
    exact ⟨fun _ x => g.elim x.1 x.2.1, fun _ => rfl⟩
  · rw [if_neg g, if_neg hne]
    by_cases g1 : wBeg (L.getD i 0) (L.getD j 0) = true
    · rw [if_pos g1]
      exact ⟨fun x => absurd x (by decide), fun x => absurd ⟨fun e => g (Or.inl e), fun e => g (Or.inr e), Or.inl g1⟩ x⟩
    · rw [if_neg g1]
      by_cases g2 : wBeg (L.getD j 0) (L.getD i 0) = true
      · rw [if_pos g2]
        exact ⟨fun x => absurd x (by decide), fun x => absurd ⟨fun e => g (Or.inl e), fun e => g (Or.inr e), Or.inr g2⟩ x⟩
      · rw [if_neg g2]
        exact ⟨fun _ x => x.2.2.elim g1 g2, fun _ => rfl⟩
theorem gClear_t (hw : okWs L) (h : gClear L = true) {i j : Nat} (hi : i < 7) (hj : j < 7) (hne : i ≠ j) : ¬ (L.getD i 0 ≠ 0 ∧ L.getD j 0 ≠ 0 ∧ (wBeg (L.getD i 0) (L.getD j 0) = true ∨ wBeg (L.getD j 0) (L.getD i 0) = true)) := by
  have key : ∀ i j, i < 7 → j < i → gStd L i j = 0 := fun i j hi hj => of_decide_eq_true (List.all_eq_true.mp (List.all_eq_true.mp h i (List.mem_range.mpr hi)) j (List.mem_range.mpr hj))
  rcases Nat.lt_or_gt_of_ne hne with g | g
  · have := (gStd_0 hw (Ne.symm hne)).mp (key j i hj g)
    exact fun x => this ⟨x.2.1, x.1, x.2.2.symm⟩
  · exact (gStd_0 hw hne).mp (key i j hi g)
theorem Sh.ws (h : Sh n S) : okWs (S.1 0) := fun l => h.w l
theorem same_clear (h : EN S F) (hs : Sh n S) : mClear F = gClear (S.1 0) := by
  cases e : gClear (S.1 0) with
  | true =>
    refine mClear_t fun a ha b hb => ?_
    by_cases hab : a = b
    · exact Or.inl hab
    · right
      have hc := gClear_t hs.ws e ha hb hab
      rw [mSth_w h hs ha hb, Bool.eq_false_iff]
      intro g
      rw [Bool.and_eq_true, decide_eq_true_eq] at g
      by_cases hb0 : gWd S b = 0
      · rw [wBeg_0 (hs.w a) (hs.w b) g.1 hb0] at g; exact absurd g.2 (by decide)
      · exact hc ⟨g.1, hb0, Or.inl g.2⟩
  | false =>
    rw [gClear, List.all_eq_false] at e
    obtain ⟨i, hi, e⟩ := e
    rw [Bool.not_eq_true, List.all_eq_false] at e
    obtain ⟨j, hj, e⟩ := e
    have hi7 := List.mem_range.mp hi
    have hji := List.mem_range.mp hj
    rw [decide_eq_true_eq, gStd_0 hs.ws (by omega), Decidable.not_not] at e
    rcases e.2.2 with g | g
    · refine mClear_f hi7 (show j < 7 by omega) (by omega) ?_
      rw [mSth_w h hs hi7 (by omega), decide_eq_true (show ¬ gWd S i = 0 from e.1)]; exact g
    · refine mClear_f (show j < 7 by omega) hi7 (by omega) ?_
      rw [mSth_w h hs (by omega) hi7, decide_eq_true (show ¬ gWd S j = 0 from e.2.1)]; exact g
theorem mod_mod_pow {a m k : Nat} (h : m ≤ k) : a % 2 ^ k % 2 ^ m = a % 2 ^ m := by
  obtain ⟨d, rfl⟩ := Nat.le.dest h
  rw [Nat.pow_add, Nat.mod_mul_right_mod]
theorem sE_beg {l o p : Nat} (h1 : sE W Lt l p = true) (h2 : sE W Lt o p = true) (hle : W.getD l 0 / 64 ≤ W.getD o 0 / 64) : wBeg (W.getD l 0) (W.getD o 0) = true := by
  rw [sE, gNx, Bool.and_eq_true, Bool.and_eq_true, decide_eq_true_eq, decide_eq_true_eq, decide_eq_true_eq] at h1 h2
  rw [wBeg, decide_eq_true hle, Bool.true_and]
  refine decide_eq_true ?_
  rw [← h2.2, mod_mod_pow hle, h1.2]
theorem sE_0 {l p : Nat} (h : sE W Lt l p = true) : W.getD l 0 ≠ 0 := by
  rw [sE, gNx, Bool.and_eq_true, Bool.and_eq_true, decide_eq_true_eq] at h
  exact h.1.1
theorem sE_one (hw : okWs W) (hc : gClear W = true) {l o p : Nat} (hl : l < 7) (ho : o < 7) (h1 : sE W Lt l p = true) (h2 : sE W Lt o p = true) : l = o := by
  apply Decidable.byContradiction
  intro hne
  refine gClear_t hw hc hl ho hne ⟨sE_0 h1, sE_0 h2, ?_⟩
  rcases Nat.le_total (W.getD l 0 / 64) (W.getD o 0 / 64) with g | g
  · exact Or.inl (sE_beg h1 h2 g)
  · exact Or.inr (sE_beg h2 h1 g)
theorem sum_one {f : Nat → Nat} : ∀ k, (∀ l, l < k → f l ≤ 1) → (∀ l o, l < k → o < k → f l ≠ 0 → f o ≠ 0 → l = o) → ((List.range k).map f).sum ≤ 1
  | 0, _, _ => Nat.zero_le _
  | k + 1, h1, h2 => by
    rw [range_sum_succ]
    by_cases g : f k = 0
    · have := sum_one k (fun l hl => h1 l (by omega)) fun l o hl ho => h2 l o (by omega) (by omega)
      omega
    · rw [sum_z k fun l hl => Decidable.byContradiction fun e => by have := h2 l k (by omega) (by omega) e g; omega]
      have := h1 k (by omega)
      omega
theorem pT_one (hw : okWs W) (hc : gClear W = true) : ∀ j, j ≤ Lt.length → pT W Lt (Lt.length - j) Lt.length ≤ 1 := by
  intro j
  induction j using Nat.strongRecOn with
  | _ j ih =>
  intro hj
  by_cases h0 : j = 0
  · subst h0; rw [Nat.sub_zero, pT_n hw]; exact Nat.le_refl _
  · rw [pT_f hw (by omega)]
    refine sum_one 7 (fun l _ => ?_) fun l o hl ho g1 g2 => ?_
    · split
      · rename_i g
        have hp := sE_p hw g
        have := ih (Lt.length - (Lt.length - j + sL W l)) (by omega) (by omega)
        rw [show Lt.length - (Lt.length - (Lt.length - j + sL W l)) = Lt.length - j + sL W l by omega] at this
        exact this
      · exact Nat.zero_le _
    · refine sE_one hw hc (p := Lt.length - j) hl ho (Decidable.byContradiction fun e => g1 (if_neg e)) (Decidable.byContradiction fun e => g2 (if_neg e))
theorem ways_one (hw : okWs W) (hx : ∀ x ∈ Lt, x < 2) (hc : gClear W = true) : gWaysS W Lt false ≤ 1 := by
  rw [both_ends hw hx]
  show (gES W Lt Lt.length).1.getD 0 0 ≤ 1
  rw [(ends_f hw hx Lt.length (Nat.le_refl _)).2 0 (by omega) (Nat.zero_le _)]
  have := pT_one (Lt := Lt) hw hc Lt.length (Nat.le_refl _)
  rw [Nat.sub_self] at this
  omega
/-- no two lines have one word -/
def DW (L : List Nat) : Prop := ∀ i j, i < 7 → j < 7 → L.getD i 0 = L.getD j 0 → L.getD i 0 ≠ 0 → i = j
theorem gDist_t (h : DW L) : gDist L = true := by
  refine List.all_eq_true.mpr fun l hl => ?_
  have hl7 := List.mem_range.mp hl
  by_cases g : L.getD l 0 = 0
  · rw [decide_eq_true g]; rfl
  · have e : gOwner L (L.getD l 0) = some l := mfind hl7 (fun j hj => decide_eq_false fun x => by have := h j l (by omega) hl7 x (by rw [x]; exact g); omega) (decide_eq_true rfl)
    rw [e, decide_eq_true rfl, Bool.or_true]
theorem mFree_g (h : EN S F) (hs : Sh n S) {m b : Nat} (hm : m ≤ 6) (hb : b < 64) : mFree F m b = gFree (S.1 0) (m * 64 + b) := by
  rw [mFree, gFree]
  have key : ∀ l, l < 7 → (decide (lF F l 0 = 0) || !(mStr m b (lF F l 0) (lF F l 1) || mStr (lF F l 0) (lF F l 1) m b)) = (decide ((S.1 0).getD l 0 = 0) || !(wBeg ((S.1 0).getD l 0) (m * 64 + b) || wBeg (m * 64 + b) ((S.1 0).getD l 0))) := by
    intro l hl
    have hz := okW_0 (hs.w l)
    rw [h.w0 l hl, h.w1 l hl]
    show (decide (gWd S l / 64 = 0) || !(mStr m b (gWd S l / 64) (gWd S l % 64) || mStr (gWd S l / 64) (gWd S l % 64) m b)) = (decide (gWd S l = 0) || !(wBeg (gWd S l) (m * 64 + b) || wBeg (m * 64 + b) (gWd S l)))
    rw [decide_eq_decide.mpr hz, Bool.or_comm (mStr _ _ _ _)]
    have e1 : mStr (gWd S l / 64) (gWd S l % 64) m b = wBeg (gWd S l) (m * 64 + b) := by
      rw [mStr, wBeg, show (m * 64 + b) / 64 = m by omega, show (m * 64 + b) % 64 = b by omega]
      congr 1
      exact decide_eq_decide.mpr ⟨fun g => g.symm, fun g => g.symm⟩
    have e2 : mStr m b (gWd S l / 64) (gWd S l % 64) = wBeg (m * 64 + b) (gWd S l) := by
      rw [mStr, wBeg, show (m * 64 + b) / 64 = m by omega, show (m * 64 + b) % 64 = b by omega]
      congr 1
      exact decide_eq_decide.mpr ⟨fun g => g.symm, fun g => g.symm⟩
    rw [e1, e2]
  have all_c : ∀ (p q : Nat → Bool) (M : List Nat), (∀ l ∈ M, p l = q l) → M.all p = M.all q := by
    intro p q M
    induction M with
    | nil => intro _; rfl
    | cons x M ih =>
      intro hM
      rw [List.all_cons, List.all_cons, hM x (List.mem_cons_self ..), ih fun l hl => hM l (List.mem_cons_of_mem _ hl)]
  exact all_c _ _ _ fun l hl => key l (List.mem_range.mp hl)
theorem same_freeN (h : EN S F) (hs : Sh n S) {m : Nat} (hm : m ≤ 6) : mFrN F m (2 ^ m) = gFreeW (S.1 0) m := by
  have hp : 2 ^ m ≤ 64 := Nat.pow_le_pow_right (n := 2) (by decide) hm
  rw [mFrN, gFreeW]
  refine List.countP_congr fun b hb => ?_
  have := List.mem_range.mp hb
  rw [mFree_g h hs hm (by omega)]
end W72
