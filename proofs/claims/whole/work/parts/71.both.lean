/-! THE STRIP FROM BOTH ENDS: as many readings -/
section W71
variable {Lt W : List Nat}
/-- a line's word stands at p -/
def sE (W Lt : List Nat) (l p : Nat) : Bool := gNx Lt.length (W.getD l 0) p (bC Lt p 6)
def sL (W : List Nat) (l : Nat) : Nat := W.getD l 0 / 64
/-- readings of exactly k words from p to e -/
def pD (W Lt : List Nat) : Nat → Nat → Nat → Nat
  | 0, p, e => if p = e then 1 else 0
  | k + 1, p, e => ((List.range 7).map fun l => if sE W Lt l p = true then pD W Lt k (p + sL W l) e else 0).sum
theorem sum_z {f : Nat → Nat} : ∀ k, (∀ l, l < k → f l = 0) → ((List.range k).map f).sum = 0
  | 0, _ => rfl
  | k + 1, h => by rw [range_sum_succ, sum_z k fun l hl => h l (by omega), h k (by omega)]
theorem sum_add {f g : Nat → Nat} : ∀ k, ((List.range k).map fun l => f l + g l).sum = ((List.range k).map f).sum + ((List.range k).map g).sum
  | 0 => rfl
  | k + 1 => by rw [range_sum_succ, range_sum_succ, range_sum_succ, sum_add k]; omega
theorem sum_swap {f : Nat → Nat → Nat} (b : Nat) : ∀ a, ((List.range a).map fun i => ((List.range b).map fun j => f i j).sum).sum = ((List.range b).map fun j => ((List.range a).map fun i => f i j).sum).sum
  | 0 => (sum_z b fun _ _ => rfl).symm
  | a + 1 => by
    rw [range_sum_succ, sum_swap b a, ← sum_add]
    exact sum_c b fun j _ => (range_sum_succ ..).symm
theorem ite_sum {p : Prop} [Decidable p] {f : Nat → Nat} {k : Nat} : (if p then ((List.range k).map f).sum else 0) = ((List.range k).map fun l => if p then f l else 0).sum := by
  by_cases h : p
  · rw [if_pos h]; exact sum_c k fun l _ => (if_pos h).symm
  · rw [if_neg h]; exact (sum_z k fun l _ => if_neg h).symm
def okWs (W : List Nat) : Prop := ∀ l, okW (W.getD l 0)
theorem sE_p {l p : Nat} (hw : okWs W) (h : sE W Lt l p = true) : 1 ≤ sL W l ∧ p + sL W l ≤ Lt.length := by
  rw [sE, gNx, Bool.and_eq_true, Bool.and_eq_true, decide_eq_true_eq, decide_eq_true_eq] at h
  have := okW_0 (hw l)
  refine ⟨?_, h.1.2⟩
  show 1 ≤ W.getD l 0 / 64
  have := h.1.1
  omega
theorem pD_r (hw : okWs W) : ∀ k p e, pD W Lt (k + 1) p e = ((List.range 7).map fun l => if sL W l ≤ e ∧ sE W Lt l (e - sL W l) = true then pD W Lt k p (e - sL W l) else 0).sum
  | 0, p, e => by
    rw [pD]
    refine sum_c 7 fun l _ => ?_
    show (if sE W Lt l p = true then (if p + sL W l = e then 1 else 0) else 0) = if sL W l ≤ e ∧ sE W Lt l (e - sL W l) = true then (if p = e - sL W l then 1 else 0) else 0
    by_cases h : p + sL W l = e
    · have h2 : e - sL W l = p := by omega
      rw [if_pos h, h2, if_pos rfl]
      by_cases g : sE W Lt l p = true
      · rw [if_pos g, if_pos ⟨by omega, g⟩]
      · rw [if_neg g, if_neg (fun x => g x.2)]
    · rw [if_neg h, ite_self]
      split
      · rw [if_neg (by omega)]
      · rfl
  | k + 1, p, e => by
    rw [pD]
    have h1 : ∀ l, l < 7 → (if sE W Lt l p = true then pD W Lt (k + 1) (p + sL W l) e else 0) = ((List.range 7).map fun m => if sE W Lt l p = true then (if sL W m ≤ e ∧ sE W Lt m (e - sL W m) = true then pD W Lt k (p + sL W l) (e - sL W m) else 0) else 0).sum := by
      intro l _
      rw [pD_r hw k, ite_sum]
    rw [sum_c 7 h1, sum_swap]
    refine sum_c 7 fun m _ => ?_
    rw [pD, ite_sum]
    refine sum_c 7 fun l _ => ?_
    split <;> split <;> rfl
theorem pD_0 (hw : okWs W) : ∀ k p e, e < p + k → pD W Lt k p e = 0
  | 0, p, e, h => if_neg (by omega)
  | k + 1, p, e, h => by
    rw [pD]
    refine sum_z 7 fun l _ => ?_
    split
    · rename_i g
      have := (sE_p hw g).1
      exact pD_0 hw k _ e (by omega)
    · rfl
def pT (W Lt : List Nat) (p e : Nat) : Nat := ((List.range (Lt.length + 1)).map fun k => pD W Lt k p e).sum
theorem sum_head {f : Nat → Nat} : ∀ k, ((List.range (k + 1)).map f).sum = f 0 + ((List.range k).map fun i => f (i + 1)).sum
  | 0 => rfl
  | k + 1 => by rw [range_sum_succ, sum_head k, range_sum_succ]; omega
theorem pT_n (hw : okWs W) (p : Nat) : pT W Lt p p = 1 := by
  rw [pT, sum_head, sum_z _ fun i _ => pD_0 hw (i + 1) p p (by omega)]
  exact if_pos rfl
theorem pT_f (hw : okWs W) {p : Nat} (hp : p < Lt.length) : pT W Lt p Lt.length = ((List.range 7).map fun l => if sE W Lt l p = true then pT W Lt (p + sL W l) Lt.length else 0).sum := by
  rw [pT, sum_head]
  rw [show pD W Lt 0 p Lt.length = 0 from if_neg (by omega), Nat.zero_add]
  show ((List.range Lt.length).map fun k => ((List.range 7).map fun l => if sE W Lt l p = true then pD W Lt k (p + sL W l) Lt.length else 0).sum).sum = _
  rw [sum_swap]
  refine sum_c 7 fun l _ => ?_
  rw [← ite_sum]
  by_cases g : sE W Lt l p = true
  · rw [if_pos g, if_pos g, pT, range_sum_succ, pD_0 hw Lt.length _ _ (by have := (sE_p hw g).1; omega)]; rfl
  · rw [if_neg g, if_neg g]
theorem pT_b (hw : okWs W) {e : Nat} (he : 1 ≤ e) (hn : e ≤ Lt.length) : pT W Lt 0 e = ((List.range 7).map fun l => if sL W l ≤ e ∧ sE W Lt l (e - sL W l) = true then pT W Lt 0 (e - sL W l) else 0).sum := by
  rw [pT, sum_head]
  rw [show pD W Lt 0 0 e = 0 from if_neg (by omega), Nat.zero_add]
  rw [sum_c (f := fun i => pD W Lt (i + 1) 0 e) Lt.length fun k _ => pD_r hw k 0 e, sum_swap]
  refine sum_c 7 fun l _ => ?_
  rw [← ite_sum]
  by_cases g : sL W l ≤ e ∧ sE W Lt l (e - sL W l) = true
  · rw [if_pos g, if_pos g, pT, range_sum_succ, pD_0 hw Lt.length _ _ (by have := (sE_p hw g.2).1; omega)]; rfl
  · rw [if_neg g, if_neg g]
theorem cap_s {f : Nat → Nat} : ∀ k, min 9999 ((List.range k).map fun l => min 9999 (f l)).sum = min 9999 ((List.range k).map f).sum
  | 0 => rfl
  | k + 1 => by
    have := cap_s (f := f) k
    rw [range_sum_succ, range_sum_succ]; omega
theorem ends_f (hw : okWs W) (hx : ∀ x ∈ Lt, x < 2) : ∀ j, j ≤ Lt.length → (gES W Lt j).2 = bC Lt (Lt.length - j) 6 ∧ ∀ i, Lt.length - j ≤ i → i ≤ Lt.length → (gES W Lt j).1.getD i 0 = min 9999 (pT W Lt i Lt.length)
  | 0, _ => by
    have hb : ∀ k p, Lt.length ≤ p → bC Lt p k = 0 := by
      intro k
      induction k with
      | zero => intro p _; rfl
      | succ k ih =>
        intro p hp
        rw [bC, ih (p + 1) (by omega), List.getD_eq_getElem?_getD, List.getElem?_eq_none (by omega)]; rfl
    refine ⟨(hb 6 _ (by omega)).symm, fun i h1 h2 => ?_⟩
    have e : i = Lt.length := by omega
    subst e
    rw [pT_n hw]
    show ((List.replicate (Lt.length + 1) 0).set Lt.length 1).getD Lt.length 0 = _
    rw [getD_set (by rw [List.length_replicate]; omega), if_pos rfl]; rfl
  | j + 1, hj => by
    obtain ⟨ih1, ih2⟩ := ends_f hw hx j (by omega)
    have hlen := (gES_ok (W := W) (Lt := Lt) j).1
    have hq : Lt.length - (j + 1) = Lt.length - 1 - j := by omega
    have hcm : (Lt.getD (Lt.length - 1 - j) 0 + (gES W Lt j).2 * 2 ^ 1) % 2 ^ 6 = bC Lt (Lt.length - 1 - j) 6 := by
      rw [ih1, show Lt.length - j = Lt.length - 1 - j + 1 by omega]
      have e : bC Lt (Lt.length - 1 - j) 7 % 2 ^ 6 = bC Lt (Lt.length - 1 - j) 6 := bC_mod hx 6 7 _ (by decide)
      rw [← e]
      show _ = (Lt.getD (Lt.length - 1 - j) 0 + 2 * bC Lt (Lt.length - 1 - j + 1) 6) % 2 ^ 6
      rw [Nat.pow_one, Nat.mul_comm 2]
    refine ⟨by rw [gES_s, hq]; exact hcm, fun i h1 h2 => ?_⟩
    rw [gES_s]
    show ((gES W Lt j).1.set (Lt.length - 1 - j) (gWF W (gES W Lt j).1 Lt.length (Lt.length - 1 - j) ((Lt.getD (Lt.length - 1 - j) 0 + (gES W Lt j).2 * 2 ^ 1) % 2 ^ 6))).getD i 0 = _
    rw [getD_set (by omega), hcm]
    by_cases e : i = Lt.length - 1 - j
    · rw [if_pos e, gWF, e, pT_f hw (by omega), ← cap_s (f := fun l => if sE W Lt l (Lt.length - 1 - j) = true then pT W Lt (Lt.length - 1 - j + sL W l) Lt.length else 0) 7]
      congr 1
      refine sum_c 7 fun l hl => ?_
      show (if sE W Lt l (Lt.length - 1 - j) = true then (gES W Lt j).1.getD (Lt.length - 1 - j + sL W l) 0 else 0) = _
      by_cases g : sE W Lt l (Lt.length - 1 - j) = true
      · have hsp := sE_p hw g
        rw [if_pos g, if_pos g, ih2 _ (by omega) hsp.2]
      · rw [if_neg g, if_neg g]; rfl
    · rw [if_neg e]
      exact ih2 i (by omega) h2
theorem gBS_s {j : Nat} : gBS W Lt (j + 1) = gBst W Lt (gBS W Lt j) j := foldr_s
theorem bC_last : ∀ k p, bC Lt p (k + 1) = bC Lt p k + 2 ^ k * Lt.getD (p + k) 0
  | 0, p => by
    show Lt.getD p 0 + 2 * 0 = 0 + 1 * Lt.getD (p + 0) 0
    rw [Nat.add_zero p]; omega
  | k + 1, p => by
    rw [bC, bC_last k (p + 1), bC, Nat.pow_succ, show p + (k + 1) = p + 1 + k by omega]
    generalize Lt.getD (p + 1 + k) 0 = z
    rw [Nat.mul_add, Nat.mul_comm (2 ^ k) 2, Nat.mul_assoc]; omega
theorem div_step {a x m : Nat} (ha : a < 64) (hx : x < 2) (hm : m < 6) : (a / 2 + x * 32) / 2 ^ (6 - (m + 1)) = a / 2 ^ (6 - m) + 2 ^ m * x := by
  have h : ∀ m : Nat, m < 6 → ∀ x : Nat, x < 2 → ∀ a : Nat, a < 64 → (a / 2 + x * 32) / 2 ^ (6 - (m + 1)) = a / 2 ^ (6 - m) + 2 ^ m * x := by decide +kernel
  exact h m hm x hx a ha
theorem ends_b (hw : okWs W) (hx : ∀ x ∈ Lt, x < 2) : ∀ j, j ≤ Lt.length → (∀ m, m ≤ 6 → m ≤ j → (gBS W Lt j).2 / 2 ^ (6 - m) = bC Lt (j - m) m) ∧ ∀ i, i ≤ j → (gBS W Lt j).1.getD i 0 = min 9999 (pT W Lt 0 i)
  | 0, _ => by
    refine ⟨fun m _ hm => ?_, fun i hi => ?_⟩
    · have : m = 0 := by omega
      subst this
      show (0 : Nat) / 2 ^ (6 - 0) = 0
      decide
    · have e : i = 0 := by omega
      subst e
      rw [pT_n hw]
      show ((List.replicate (Lt.length + 1) 0).set 0 1).getD 0 0 = _
      rw [getD_set (by rw [List.length_replicate]; omega), if_pos rfl]; rfl
  | j + 1, hj => by
    obtain ⟨ih1, ih2⟩ := ends_b hw hx j (by omega)
    obtain ⟨hlen, -, h64⟩ := gBS_ok (W := W) (Lt := Lt) hx j
    have hx1 := gd2 hx j
    have hcm : ∀ m, m ≤ 6 → m ≤ j + 1 → ((gBS W Lt j).2 / 2 ^ 1 + Lt.getD j 0 * 2 ^ 5) / 2 ^ (6 - m) = bC Lt (j + 1 - m) m := by
      intro m hm hmj
      cases m with
      | zero => rw [bC]; show _ / 64 = 0; omega
      | succ m =>
        have e := div_step h64 hx1 (show m < 6 by omega)
        show ((gBS W Lt j).2 / 2 + Lt.getD j 0 * 32) / _ = _
        rw [e, ih1 m (by omega) (by omega), show j + 1 - (m + 1) = j - m by omega, bC_last m (j - m), show j - m + m = j by omega]
    refine ⟨fun m hm hmj => by rw [gBS_s]; exact hcm m hm hmj, fun i hi => ?_⟩
    rw [gBS_s]
    show ((gBS W Lt j).1.set (j + 1) (gWT W (gBS W Lt j).1 (j + 1) ((gBS W Lt j).2 / 2 ^ 1 + Lt.getD j 0 * 2 ^ 5))).getD i 0 = _
    rw [getD_set (by omega)]
    by_cases e : i = j + 1
    · rw [if_pos e, gWT, e, pT_b hw (by omega) hj, ← cap_s (f := fun l => if sL W l ≤ j + 1 ∧ sE W Lt l (j + 1 - sL W l) = true then pT W Lt 0 (j + 1 - sL W l) else 0) 7]
      congr 1
      refine sum_c 7 fun l hl => ?_
      have h6 : sL W l ≤ 6 := by have := okW_lt (hw l); show W.getD l 0 / 64 ≤ 6; omega
      have key : (W.getD l 0 ≠ 0 ∧ W.getD l 0 / 64 ≤ j + 1 ∧ ((gBS W Lt j).2 / 2 ^ 1 + Lt.getD j 0 * 2 ^ 5) / 2 ^ (6 - W.getD l 0 / 64) = W.getD l 0 % 64) ↔ (sL W l ≤ j + 1 ∧ sE W Lt l (j + 1 - sL W l) = true) := by
        rw [sE, gNx, Bool.and_eq_true, Bool.and_eq_true, decide_eq_true_eq, decide_eq_true_eq, decide_eq_true_eq, bC_mod hx _ 6 _ (show W.getD l 0 / 64 ≤ 6 from h6)]
        constructor
        · intro g
          have := hcm _ h6 (show sL W l ≤ j + 1 from g.2.1)
          exact ⟨g.2.1, ⟨g.1, by show j + 1 - sL W l + sL W l ≤ _; have : sL W l ≤ j + 1 := g.2.1; omega⟩, this.symm.trans g.2.2⟩
        · intro g
          have := hcm _ h6 g.1
          exact ⟨g.2.1.1, g.1, this.trans g.2.2⟩
      rw [gTt]
      by_cases g : sL W l ≤ j + 1 ∧ sE W Lt l (j + 1 - sL W l) = true
      · rw [if_pos (key.mpr g), if_pos g]
        have := (sE_p hw g.2).1
        exact ih2 _ (by show j + 1 - sL W l ≤ j; omega)
      · rw [if_neg (fun x => g (key.mp x)), if_neg g]; rfl
    · rw [if_neg e]
      exact ih2 i (by omega)
theorem both_ends (hw : okWs W) (hx : ∀ x ∈ Lt, x < 2) : gWaysS W Lt false = gWaysS W Lt true := by
  show (gBS W Lt Lt.length).1.getD Lt.length 0 = (gES W Lt Lt.length).1.getD 0 0
  rw [(ends_b hw hx Lt.length (Nat.le_refl _)).2 _ (Nat.le_refl _), (ends_f hw hx Lt.length (Nat.le_refl _)).2 0 (by omega) (Nat.zero_le _)]
end W71
