/-! ONE STATE, TWICE: the readings of the strip -/
section W70
variable {S : St} {F : Nat → Nat} {n : Nat} {Lt W : List Nat}
/-- k letters from p on as a number -/
def bC (Lt : List Nat) : Nat → Nat → Nat
  | _, 0 => 0
  | p, k + 1 => Lt.getD p 0 + 2 * bC Lt (p + 1) k
theorem gd2 (h : ∀ x ∈ Lt, x < 2) (p : Nat) : Lt.getD p 0 < 2 := getD_all (by decide) h p
theorem bC_lt (h : ∀ x ∈ Lt, x < 2) : ∀ k p, bC Lt p k < 2 ^ k
  | 0, _ => Nat.one_pos
  | k + 1, p => by
    have h1 := bC_lt h k (p + 1)
    have h2 := gd2 h p
    rw [bC, Nat.pow_succ]; omega
theorem two_mod {x y z : Nat} (hx : x < 2) (hz : 0 < z) : (x + 2 * y) % (2 * z) = x + 2 * (y % z) := by
  have h1 := Nat.div_add_mod y z
  have h2 := Nat.mod_lt y hz
  have e : x + 2 * y = (x + 2 * (y % z)) + (2 * z) * (y / z) := by
    rw [Nat.mul_assoc]; omega
  rw [e, Nat.add_mul_mod_self_left, Nat.mod_eq_of_lt (by omega)]
theorem bC_mod (h : ∀ x ∈ Lt, x < 2) : ∀ m k p, m ≤ k → bC Lt p k % 2 ^ m = bC Lt p m
  | 0, k, p, _ => Nat.mod_one _
  | m + 1, 0, p, hk => absurd hk (by omega)
  | m + 1, k + 1, p, hk => by
    rw [bC, bC, Nat.pow_succ, Nat.mul_comm (2 ^ m) 2, two_mod (gd2 h p) (Nat.two_pow_pos m), bC_mod h m k (p + 1) (by omega)]
theorem bC_bits (h : ∀ x ∈ Lt, x < 2) : ∀ m p v, v < 2 ^ m → (bC Lt p m = v ↔ ∀ i, i < m → Lt.getD (p + i) 0 = v / 2 ^ i % 2)
  | 0, p, v, hv => by
    have : v = 0 := by have : v < 1 := hv; omega
    subst this
    exact ⟨fun _ i hi => absurd hi (Nat.not_lt_zero i), fun _ => rfl⟩
  | m + 1, p, v, hv => by
    have h2 := gd2 h p
    rw [Nat.pow_succ] at hv
    have ih := bC_bits h m (p + 1) (v / 2) (by omega)
    rw [bC]
    constructor
    · intro e i hi
      have e1 : bC Lt (p + 1) m = v / 2 := by omega
      cases i with
      | zero => rw [Nat.add_zero, Nat.pow_zero, Nat.div_one]; omega
      | succ i =>
        have := ih.mp e1 i (by omega)
        rw [show p + (i + 1) = p + 1 + i by omega, this, Nat.div_div_eq_div_mul, Nat.pow_succ, Nat.mul_comm 2]
    · intro e
      have e0 := e 0 (by omega)
      rw [Nat.add_zero, Nat.pow_zero, Nat.div_one] at e0
      have e1 := ih.mpr fun i hi => by
        have := e (i + 1) (by omega)
        rw [show p + 1 + i = p + (i + 1) by omega, this, Nat.div_div_eq_div_mul, Nat.pow_succ, Nat.mul_comm 2]
      omega
theorem EN.stands (h : EN S F) (hs : Sh n S) (hx : ∀ x ∈ Lt, x < 2) {l p : Nat} (hl : l < 7) : mSd F Lt l p = gNx Lt.length (gWd S l) p (bC Lt p 6) := by
  have hw := hs.w l
  have h4 := okW_lt hw
  have hz := okW_0 hw
  have hp := okW_p hw
  rw [mSd, gNx, h.w0 l hl, bC_mod hx _ 6 p (by omega)]
  have e1 : decide (¬ gWd S l / 64 = 0) = decide (gWd S l ≠ 0) := decide_eq_decide.mpr ⟨fun g e => g (hz.mpr e), fun g e => g (hz.mp e)⟩
  have e2 : ((List.range (gWd S l / 64)).all (mSdP F Lt l p)) = decide (bC Lt p (gWd S l / 64) = gWd S l % 64) := by
    have hb := bC_bits hx (gWd S l / 64) p (gWd S l % 64) hp
    by_cases g : bC Lt p (gWd S l / 64) = gWd S l % 64
    · rw [decide_eq_true g]
      refine List.all_eq_true.mpr fun i hi => decide_eq_true ?_
      rw [h.w1 l hl]
      exact hb.mp g i (List.mem_range.mp hi)
    · rw [decide_eq_false g, Bool.eq_false_iff]
      intro e
      refine g (hb.mpr fun i hi => ?_)
      have := of_decide_eq_true (List.all_eq_true.mp e i (List.mem_range.mpr hi))
      rw [h.w1 l hl] at this
      exact this
  rw [e1, e2]
theorem getD_set {L : List Nat} {i j x : Nat} (hi : i < L.length) : (L.set i x).getD j 0 = if j = i then x else L.getD j 0 := by
  rw [List.getD_eq_getElem?_getD, List.getD_eq_getElem?_getD, List.getElem?_set]
  by_cases e : i = j
  · subst e; rw [if_pos rfl, if_pos hi, if_pos rfl]; rfl
  · rw [if_neg e, if_neg (fun g => e g.symm)]
theorem sum_c {f g : Nat → Nat} : ∀ k, (∀ l, l < k → f l = g l) → ((List.range k).map f).sum = ((List.range k).map g).sum := by
  intro k h
  congr 1
  exact List.map_congr_left fun l hl => h l (List.mem_range.mp hl)
theorem gES_s {j : Nat} : gES W Lt (j + 1) = gEst W Lt (gES W Lt j) j := foldr_s
theorem EN.ends (h : EN S F) (hs : Sh n S) (hx : ∀ x ∈ Lt, x < 2) (T : Nat → Nat) : ∀ j, j ≤ Lt.length → (gES (S.1 0) Lt j).2 = bC Lt (Lt.length - j) 6 ∧ ∀ i, Lt.length - j ≤ i → i ≤ Lt.length → (gES (S.1 0) Lt j).1.getD i 0 = mRs F Lt T j i
  | 0, _ => by
    have hb : ∀ k p, Lt.length ≤ p → bC Lt p k = 0 := by
      intro k
      induction k with
      | zero => intro p _; rfl
      | succ k ih =>
        intro p hp
        rw [bC, ih (p + 1) (by omega), List.getD_eq_getElem?_getD, List.getElem?_eq_none (by omega)]; rfl
    refine ⟨(hb 6 _ (by omega)).symm, fun i h1 h2 => ?_⟩
    have e : i = Lt.length := by omega
    subst e
    show ((List.replicate (Lt.length + 1) 0).set Lt.length 1).getD Lt.length 0 = uN T Lt.length 1 Lt.length
    rw [getD_set (by rw [List.length_replicate]; omega), if_pos rfl, uN_s]
  | j + 1, hj => by
    obtain ⟨ih1, ih2⟩ := h.ends hs hx T j (by omega)
    have hlen := (gES_ok (W := S.1 0) (Lt := Lt) j).1
    have hq : Lt.length - (j + 1) = Lt.length - 1 - j := by omega
    have hcm : (Lt.getD (Lt.length - 1 - j) 0 + (gES (S.1 0) Lt j).2 * 2 ^ 1) % 2 ^ 6 = bC Lt (Lt.length - 1 - j) 6 := by
      rw [ih1, show Lt.length - j = Lt.length - 1 - j + 1 by omega]
      have e : bC Lt (Lt.length - 1 - j) 7 % 2 ^ 6 = bC Lt (Lt.length - 1 - j) 6 := bC_mod hx 6 7 _ (by decide)
      rw [← e]
      show _ = (Lt.getD (Lt.length - 1 - j) 0 + 2 * bC Lt (Lt.length - 1 - j + 1) 6) % 2 ^ 6
      rw [Nat.pow_one, Nat.mul_comm 2]
    refine ⟨by rw [gES_s, hq]; exact hcm, fun i h1 h2 => ?_⟩
    rw [gES_s, mRs_s, mRdS]
    show ((gES (S.1 0) Lt j).1.set (Lt.length - 1 - j) (gWF (S.1 0) (gES (S.1 0) Lt j).1 Lt.length (Lt.length - 1 - j) ((Lt.getD (Lt.length - 1 - j) 0 + (gES (S.1 0) Lt j).2 * 2 ^ 1) % 2 ^ 6))).getD i 0 = _
    rw [getD_set (by omega), hcm]
    unfold uN
    by_cases e : i = Lt.length - 1 - j
    · rw [if_pos e, if_pos e, gWF]
      have es : ((List.range 7).map (gFt (S.1 0) (gES (S.1 0) Lt j).1 Lt.length (Lt.length - 1 - j) (bC Lt (Lt.length - 1 - j) 6))).sum = mRsum F Lt (mRs F Lt T j) (Lt.length - 1 - j) 7 := by
        rw [mRsum]
        refine sum_c 7 fun l hl => ?_
        rw [gFt, h.stands hs hx hl]
        show (if gNx Lt.length (gWd S l) (Lt.length - 1 - j) _ = true then (gES (S.1 0) Lt j).1.getD (Lt.length - 1 - j + gWd S l / 64) 0 else 0) = _
        by_cases g : gNx Lt.length (gWd S l) (Lt.length - 1 - j) (bC Lt (Lt.length - 1 - j) 6) = true
        · rw [if_pos g, if_pos g, h.w0 l hl]
          have hsp := mSd_p ((h.stands hs hx hl).trans g)
          rw [h.w0 l hl] at hsp
          exact ih2 _ (by omega) hsp.2
        · rw [if_neg g, if_neg g]
      rw [es]
      split <;> omega
    · rw [if_neg e, if_neg e]
      exact ih2 i (by omega) h2
theorem same_ways (h : EN S F) (hs : Sh n S) (hx : ∀ x ∈ Lt, x < 2) (T : Nat → Nat) {i : Nat} (hi : i ≤ Lt.length) : (gES (S.1 0) Lt Lt.length).1.getD i 0 = mRE F Lt T i := (h.ends hs hx T Lt.length (Nat.le_refl _)).2 i (by omega) hi
theorem gCs_b : ∀ j, j ≤ 6 → ∀ p, gCs Lt p j = bC Lt (p + 6 - j) j
  | 0, _, _ => rfl
  | j + 1, hj, p => by
    have e : gCs Lt p (j + 1) = gCst Lt p (gCs Lt p j) j := foldr_s
    rw [e, gCst, gCs_b j (by omega) p, bC, show p + (5 - j) = p + 6 - (j + 1) by omega, show p + 6 - j = p + 6 - (j + 1) + 1 by omega, show (2 : Nat) ^ 1 = 2 from rfl, Nat.mul_comm]
theorem same_fl (h : EN S F) (hs : Sh n S) (hx : ∀ x ∈ Lt, x < 2) (T : Nat → Nat) {p : Nat} : gFl (S.1 0) (gES (S.1 0) Lt Lt.length).1 Lt.length p (gCs Lt p 6) = mRA F Lt (mRE F Lt T) p := by
  rw [gFl, mRA]
  refine find_congr fun l hl => ?_
  rw [gFlP, mRp, h.stands hs hx hl, gCs_b 6 (Nat.le_refl _) p, Nat.add_sub_cancel]
  show (gNx Lt.length (gWd S l) p (bC Lt p 6) && decide (0 < (gES (S.1 0) Lt Lt.length).1.getD (p + gWd S l / 64) 0)) = _
  cases g : gNx Lt.length (gWd S l) p (bC Lt p 6) with
  | false => rfl
  | true =>
    have hsp := mSd_p ((h.stands hs hx hl).trans g)
    rw [h.w0 l hl] at hsp
    rw [same_ways h hs hx T hsp.2, h.w0 l hl]
theorem same_lat (h : EN S F) (hs : Sh n S) (hx : ∀ x ∈ Lt, x < 2) (T : Nat → Nat) (idx : Int32) : ∀ r k p, gLAt (S.1 0) Lt (gES (S.1 0) Lt Lt.length).1 idx r k p = oI (mLAt F Lt (mRE F Lt T) idx r k p)
  | 0, _, _ => rfl
  | r + 1, k, p => by
    rw [gLAt, mLAt, same_fl h hs hx T]
    by_cases g : Lt.length ≤ p
    · rw [if_pos g, if_pos g]; rfl
    · rw [if_neg g, if_neg g]
      cases e : mRA F Lt (mRE F Lt T) p with
      | none => rfl
      | some l =>
        have hl := (mRA_p e).1
        show (if nI k = idx then nI l else gLAt (S.1 0) Lt _ idx r (k + 1) (p + gWd S l / 64)) = oI (if nI k = idx then some l else mLAt F Lt _ idx r (k + 1) (p + lF F l 0))
        rw [h.w0 l hl, same_lat h hs hx T idx r]
        split <;> rfl
theorem mLAt_7 {R : Nat → Nat} {idx : Int32} : ∀ r k p l, mLAt F Lt R idx r k p = some l → l < 7
  | 0, _, _, _, h => by cases h
  | r + 1, k, p, l, h => by
    rw [mLAt] at h
    split at h
    · cases h
    · cases e : mRA F Lt R p with
      | none => rw [e] at h; cases h
      | some l2 =>
        rw [e] at h
        replace h : (if nI k = idx then some l2 else mLAt F Lt R idx r (k + 1) (p + lF F l2 0)) = some l := h
        split at h
        · cases h; exact (mRA_p e).1
        · exact mLAt_7 r _ _ l h
theorem mLAt_n {R : Nat → Nat} {idx : Int32} (hi : idx < 0) : ∀ r k p, k + r < 2 ^ 31 → mLAt F Lt R idx r k p = none
  | 0, _, _, _ => rfl
  | r + 1, k, p, hk => by
    rw [mLAt]
    split
    · rfl
    · cases mRA F Lt R p with
      | none => rfl
      | some l =>
        show (if nI k = idx then some l else _) = none
        rw [if_neg (fun e : nI k = idx => absurd (show nI k < 0 by rw [e]; exact hi) (nI_pos (by omega)))]
        exact mLAt_n hi r (k + 1) _ (by omega)
theorem same_read {σ : Sg} (h : EN (gS σ 0) F) (hs : Sh n (gS σ 0)) (hl : (gLet (gR σ 0 11)).length ≤ 882) (T : Nat → Nat) (p : Int32) : mqRd F (gLet (gR σ 0 11)) (mRE F (gLet (gR σ 0 11)) T) p = qRead σ p := by
  have hx : ∀ x ∈ gLet (gR σ 0 11), x < 2 := gLet_lt2
  have ew := same_ways h hs hx T (Nat.zero_le _)
  have el := same_lat h hs hx T p (gLet (gR σ 0 11)).length 0 0
  have e0 : gLA (gR σ 0 0) (gLet (gR σ 0 11)) p = if mRE F (gLet (gR σ 0 11)) T 0 = 0 then -1 else oI (mLAt F (gLet (gR σ 0 11)) (mRE F (gLet (gR σ 0 11)) T) p (gLet (gR σ 0 11)).length 0 0) := by
    rw [← el, ← ew]; rfl
  rw [qRead, e0, mqRd]
  by_cases g : mRE F (gLet (gR σ 0 11)) T 0 = 0
  · rw [if_pos g, if_pos g, if_pos (by decide)]
  · rw [if_neg g, if_neg g]
    by_cases gp : p < 0
    · rw [if_pos gp, mLAt_n gp _ _ _ (by omega), if_pos (show oI none < 0 by decide)]
    · rw [if_neg gp]
      cases e : mLAt F (gLet (gR σ 0 11)) (mRE F (gLet (gR σ 0 11)) T) p (gLet (gR σ 0 11)).length 0 0 with
      | none => rw [if_pos (show oI none < 0 by decide)]
      | some l =>
        have := mLAt_7 _ _ _ _ e
        show (0, nI l) = if nI l < 0 then (1, 0) else (0, nI l)
        rw [if_neg (nI_pos (by omega))]
end W70
