/-! FREE WORDS COUNTED FROM BOTH SIDES -/
section W73
variable {S : St} {F : Nat → Nat} {n : Nat} {L : List Nat}
def cut (L : List Nat) (n l : Nat) : Nat := wCut (L.getD l 0) n
/-- a cut word begins a word -/
def cvr (L : List Nat) (n l w : Nat) : Prop := cut L n l ≠ 0 ∧ wBeg (cut L n l) w = true
theorem cut_ok (hw : okWs L) (hn : 1 ≤ n) (hn6 : n ≤ 6) (l : Nat) : okW (cut L n l) ∧ cut L n l / 64 ≤ n ∧ (cut L n l = 0 ↔ L.getD l 0 = 0) := by
  have h := hw l
  have h64 := okW_lt h
  have hp : (2 : Nat) ^ n ≤ 64 := Nat.pow_le_pow_right (n := 2) (by decide) hn6
  rw [cut, wCut]
  by_cases g : L.getD l 0 / 64 ≤ n
  · rw [if_pos g]; exact ⟨h, g, Iff.rfl⟩
  · rw [if_neg g]
    have hm : L.getD l 0 % 64 % 2 ^ n < 2 ^ n := Nat.mod_lt _ (Nat.two_pow_pos n)
    have e1 : (n * 64 + L.getD l 0 % 64 % 2 ^ n) / 64 = n := by omega
    have e2 : (n * 64 + L.getD l 0 % 64 % 2 ^ n) % 64 = L.getD l 0 % 64 % 2 ^ n := by omega
    refine ⟨Or.inr ⟨by omega, by omega, by rw [e1, e2]; exact hm⟩, by omega, ?_⟩
    constructor
    · intro e; omega
    · intro e; rw [e] at g; omega
theorem beg_iff {a b : Nat} : wBeg a b = true ↔ a / 64 ≤ b / 64 ∧ b % 64 % 2 ^ (a / 64) = a % 64 := by
  rw [wBeg, Bool.and_eq_true, decide_eq_true_eq, decide_eq_true_eq]
theorem cut_c (hw : okWs L) (hn : 1 ≤ n) (hn6 : n ≤ 6) {x : Nat} (hx : x < 2 ^ n) (l : Nat) : (L.getD l 0 ≠ 0 ∧ (wBeg (L.getD l 0) (n * 64 + x) = true ∨ wBeg (n * 64 + x) (L.getD l 0) = true)) ↔ cvr L n l (n * 64 + x) := by
  have hp : (2 : Nat) ^ n ≤ 64 := Nat.pow_le_pow_right (n := 2) (by decide) hn6
  have hc := cut_ok hw hn hn6 l
  have h := okW_p (hw l)
  have e1 : (n * 64 + x) / 64 = n := by omega
  have e2 : (n * 64 + x) % 64 = x := by omega
  rw [cvr, Ne, Ne, hc.2.2]
  refine and_congr_right fun h0 => ?_
  rw [beg_iff, beg_iff, beg_iff, e1, e2, cut, wCut]
  by_cases g : L.getD l 0 / 64 ≤ n
  · rw [if_pos g]
    constructor
    · intro x1
      rcases x1 with x1 | x1
      · exact x1
      · have e : L.getD l 0 / 64 = n := by omega
        rw [e] at h ⊢
        have := x1.2
        rw [Nat.mod_eq_of_lt h] at this
        exact ⟨Nat.le_refl _, by rw [Nat.mod_eq_of_lt hx]; exact this.symm⟩
    · exact Or.inl
  · rw [if_neg g]
    have hm : L.getD l 0 % 64 % 2 ^ n < 2 ^ n := Nat.mod_lt _ (Nat.two_pow_pos n)
    rw [show (n * 64 + L.getD l 0 % 64 % 2 ^ n) / 64 = n by omega, show (n * 64 + L.getD l 0 % 64 % 2 ^ n) % 64 = L.getD l 0 % 64 % 2 ^ n by omega, Nat.mod_eq_of_lt hx]
    constructor
    · intro x1
      rcases x1 with x1 | x1
      · omega
      · exact ⟨Nat.le_refl _, x1.2.symm⟩
    · intro x1
      exact Or.inr ⟨by omega, x1.2.symm⟩
theorem gFree_c (hw : okWs L) (hn : 1 ≤ n) (hn6 : n ≤ 6) {x : Nat} (hx : x < 2 ^ n) : gFree L (n * 64 + x) = true ↔ ∀ l, l < 7 → ¬ cvr L n l (n * 64 + x) := by
  rw [gFree, List.all_eq_true]
  constructor
  · intro h l hl hc
    have h1 := h l (List.mem_range.mpr hl)
    have h2 := (cut_c hw hn hn6 hx l).mpr hc
    rw [decide_eq_false h2.1, Bool.false_or, Bool.not_eq_true', Bool.or_eq_false_iff] at h1
    rcases h2.2 with g | g
    · rw [h1.1] at g; cases g
    · rw [h1.2] at g; cases g
  · intro h l hl
    have h1 := h l (List.mem_range.mp hl)
    rw [← cut_c hw hn hn6 hx l] at h1
    by_cases g : L.getD l 0 = 0
    · rw [decide_eq_true g]; rfl
    · rw [decide_eq_false g, Bool.false_or, Bool.not_eq_true', Bool.or_eq_false_iff]
      exact ⟨Bool.eq_false_iff.mpr fun e => h1 ⟨g, Or.inl e⟩, Bool.eq_false_iff.mpr fun e => h1 ⟨g, Or.inr e⟩⟩
/-- a cut word that no other one bars -/
def mnl (L : List Nat) (n l : Nat) : Prop := cut L n l ≠ 0 ∧ gBar L l n = false
theorem bar_iff {l : Nat} : gBar L l n = true ↔ ∃ o, o < 7 ∧ cut L n o ≠ 0 ∧ (cut L n o ≠ cut L n l ∨ o < l) ∧ wBeg (cut L n o) (cut L n l) = true := by
  rw [gBar, List.any_eq_true]
  constructor
  · rintro ⟨o, ho, h⟩
    rw [Bool.and_eq_true, Bool.and_eq_true, Bool.or_eq_true, decide_eq_true_eq, decide_eq_true_eq, decide_eq_true_eq] at h
    exact ⟨o, List.mem_range.mp ho, h.1.1, h.1.2, h.2⟩
  · rintro ⟨o, ho, h1, h2, h3⟩
    refine ⟨o, List.mem_range.mpr ho, ?_⟩
    rw [Bool.and_eq_true, Bool.and_eq_true, Bool.or_eq_true, decide_eq_true_eq, decide_eq_true_eq, decide_eq_true_eq]
    exact ⟨⟨h1, h2⟩, h3⟩
theorem beg_two {a b w : Nat} (h1 : wBeg a w = true) (h2 : wBeg b w = true) (hle : a / 64 ≤ b / 64) : wBeg a b = true := by
  rw [beg_iff] at h1 h2 ⊢
  exact ⟨hle, by rw [← h2.2, mod_mod_pow hle, h1.2]⟩
theorem beg_tr {a b w : Nat} (h1 : wBeg a b = true) (h2 : wBeg b w = true) : wBeg a w = true := by
  rw [beg_iff] at h1 h2 ⊢
  exact ⟨by omega, by rw [← h1.2, ← h2.2, mod_mod_pow h1.1]⟩
theorem beg_eq {a b : Nat} (hb : okW b) (h : wBeg a b = true) (hl : a / 64 = b / 64) : a = b := by
  rw [beg_iff] at h
  have h2 := h.2
  rw [hl, Nat.mod_eq_of_lt (okW_p hb)] at h2
  omega
theorem mnl_one (hw : okWs L) (hn : 1 ≤ n) (hn6 : n ≤ 6) {l o w : Nat} (hl : l < 7) (ho : o < 7) (m1 : mnl L n l) (m2 : mnl L n o) (c1 : cvr L n l w) (c2 : cvr L n o w) : l = o := by
  have key : ∀ l o, l < 7 → o < 7 → mnl L n l → mnl L n o → cvr L n l w → cvr L n o w → cut L n l / 64 ≤ cut L n o / 64 → l < o ∨ cut L n l ≠ cut L n o → False := by
    intro l o hl ho m1 m2 c1 c2 hle hx
    have hb : gBar L o n = true := bar_iff.mpr ⟨l, hl, m1.1, hx.symm, beg_two c1.2 c2.2 hle⟩
    rw [m2.2] at hb; cases hb
  apply Decidable.byContradiction
  intro hne
  by_cases e : cut L n l = cut L n o
  · rcases Nat.lt_or_gt_of_ne hne with g | g
    · exact key l o hl ho m1 m2 c1 c2 (by rw [e]; exact Nat.le_refl _) (Or.inl g)
    · exact key o l ho hl m2 m1 c2 c1 (by rw [e]; exact Nat.le_refl _) (Or.inl g)
  · rcases Nat.le_total (cut L n l / 64) (cut L n o / 64) with g | g
    · exact key l o hl ho m1 m2 c1 c2 g (Or.inr e)
    · exact key o l ho hl m2 m1 c2 c1 g (Or.inr (Ne.symm e))
theorem mnl_ex (hw : okWs L) (hn : 1 ≤ n) (hn6 : n ≤ 6) {w : Nat} : ∀ m l, l < 7 → cut L n l / 64 * 8 + l = m → cvr L n l w → ∃ o, o < 7 ∧ mnl L n o ∧ cvr L n o w := by
  intro m
  induction m using Nat.strongRecOn with
  | _ m ih =>
  intro l hl hm hc
  cases hb : gBar L l n with
  | false => exact ⟨l, hl, ⟨hc.1, hb⟩, hc⟩
  | true =>
    obtain ⟨o, ho, h1, h2, h3⟩ := bar_iff.mp hb
    have hle := (beg_iff.mp h3).1
    refine ih (cut L n o / 64 * 8 + o) ?_ o ho rfl ⟨h1, beg_tr h3 hc.2⟩
    by_cases e : cut L n o / 64 = cut L n l / 64
    · have ee := beg_eq (cut_ok hw hn hn6 l).1 h3 e
      have : o < l := h2.resolve_left (fun g => g ee)
      omega
    · omega
theorem cnt_sum {p : Nat → Bool} : ∀ k, (List.range k).countP p = ((List.range k).map fun x => if p x = true then 1 else 0).sum
  | 0 => rfl
  | k + 1 => by
    rw [range_sum_succ, ← cnt_sum k, List.range_succ, List.countP_append, List.countP_cons, List.countP_nil]; simp
theorem sum_ge {f : Nat → Nat} {l : Nat} : ∀ k, l < k → f l ≤ ((List.range k).map f).sum
  | 0, h => absurd h (Nat.not_lt_zero _)
  | k + 1, h => by
    rw [range_sum_succ]
    by_cases e : l = k
    · subst e; omega
    · have := sum_ge k (show l < k by omega) (f := f); omega
theorem cone_n : ∀ n : Nat, n ≤ 6 → ∀ m : Nat, m ≤ n → ∀ v : Nat, v < 64 → v < 2 ^ m → (List.range (2 ^ n)).countP (fun x => decide (x % 2 ^ m = v)) = 2 ^ (n - m) := by decide +kernel
def mnB (L : List Nat) (n l : Nat) : Bool := decide (cut L n l ≠ 0) && !gBar L l n
theorem mnB_iff {l : Nat} : mnB L n l = true ↔ mnl L n l := by
  rw [mnB, Bool.and_eq_true, decide_eq_true_eq, Bool.not_eq_true']; exact Iff.rfl
theorem sum_const : ∀ k, ((List.range k).map fun _ => 1).sum = k
  | 0 => rfl
  | k + 1 => by rw [range_sum_succ, sum_const k]
theorem free_bars (hw : okWs L) (hn : 1 ≤ n) (hn6 : n ≤ 6) : gFreeW L n + gBars L n 7 = 2 ^ n := by
  have hp : (2 : Nat) ^ n ≤ 64 := Nat.pow_le_pow_right (n := 2) (by decide) hn6
  have h1 : gBars L n 7 = ((List.range (2 ^ n)).map fun x => ((List.range 7).map fun l => if mnB L n l = true then (if wBeg (cut L n l) (n * 64 + x) = true then 1 else 0) else 0).sum).sum := by
    rw [sum_swap, gBars]
    refine sum_c 7 fun l hl => ?_
    rw [← ite_sum, ← cnt_sum, gBarV]
    have hm : mnB L n l = true ↔ (wCut (L.getD l 0) n ≠ 0 ∧ gBar L l n = false) := mnB_iff
    by_cases g : mnB L n l = true
    · rw [if_pos (hm.mp g), if_pos g]
      have hc := cut_ok hw hn hn6 l
      have := cone_n n hn6 (cut L n l / 64) hc.2.1 (cut L n l % 64) (by omega) (okW_p hc.1)
      show 2 ^ (n - cut L n l / 64) = _
      rw [← this]
      refine List.countP_congr fun x hx => ?_
      have hx2 := List.mem_range.mp hx
      rw [beg_iff, decide_eq_true_eq, show (n * 64 + x) / 64 = n by omega, show (n * 64 + x) % 64 = x by omega]
      exact ⟨fun e => ⟨hc.2.1, e⟩, fun e => e.2⟩
    · rw [if_neg (fun e => g (hm.mpr e)), if_neg g]
  rw [gFreeW, cnt_sum, h1, ← sum_add, ← sum_const (2 ^ n)]
  rw [sum_const]
  refine Eq.trans (sum_c (2 ^ n) fun x hx => ?_) (sum_const (2 ^ n))
  have hf := gFree_c hw hn hn6 hx
  by_cases g : gFree L (n * 64 + x) = true
  · rw [if_pos g, sum_z 7 fun l hl => ?_]
    split
    · rename_i e
      rw [if_neg]
      intro e2
      exact hf.mp g l hl ⟨(mnB_iff.mp e).1, e2⟩
    · rfl
  · rw [if_neg g, Nat.zero_add]
    have hex : ∃ l, l < 7 ∧ cvr L n l (n * 64 + x) := by
      rw [Bool.not_eq_true, gFree, List.all_eq_false] at g
      obtain ⟨l, hl, g⟩ := g
      refine ⟨l, List.mem_range.mp hl, (cut_c hw hn hn6 hx l).mp ?_⟩
      rw [Bool.or_eq_true, not_or, decide_eq_true_eq, Bool.not_eq_true', Bool.not_eq_false, Bool.or_eq_true] at g
      exact g
    obtain ⟨l, hl, hc⟩ := hex
    obtain ⟨o, ho, hm, hco⟩ := mnl_ex hw hn hn6 _ l hl rfl hc
    have hge := sum_ge (f := fun l => if mnB L n l = true then (if wBeg (cut L n l) (n * 64 + x) = true then 1 else 0) else 0) 7 ho
    rw [if_pos (mnB_iff.mpr hm), if_pos hco.2] at hge
    have hle := sum_one (f := fun l => if mnB L n l = true then (if wBeg (cut L n l) (n * 64 + x) = true then 1 else 0) else 0) 7 (fun l _ => by
      show (if mnB L n l = true then (if wBeg (cut L n l) (n * 64 + x) = true then 1 else 0) else 0) ≤ 1
      split
      · split <;> omega
      · omega) (fun a b ha hb ea eb => by
      have da : mnB L n a = true := Decidable.byContradiction fun e => ea (if_neg e)
      have db : mnB L n b = true := Decidable.byContradiction fun e => eb (if_neg e)
      have ca : wBeg (cut L n a) (n * 64 + x) = true := Decidable.byContradiction fun e => ea (by show (if mnB L n a = true then _ else 0) = 0; rw [if_pos da, if_neg e])
      have cb : wBeg (cut L n b) (n * 64 + x) = true := Decidable.byContradiction fun e => eb (by show (if mnB L n b = true then _ else 0) = 0; rw [if_pos db, if_neg e])
      exact mnl_one hw hn hn6 ha hb (mnB_iff.mp da) (mnB_iff.mp db) ⟨(mnB_iff.mp da).1, ca⟩ ⟨(mnB_iff.mp db).1, cb⟩)
    omega
theorem same_free (h : EN S F) (hs : Sh n S) (m : Int32) (b : Bool) : mqFr F m = qFree S m b := by
  rw [mqFr, qFree]
  refine ite_c Iff.rfl rfl fun hm => ?_
  obtain ⟨k, hk1, hk6, rfl⟩ := isN_t (by simpa using hm)
  have hf := free_bars hs.ws hk1 hk6
  rw [nI_c7 (by omega), same_freeN h hs hk6]
  cases b with
  | false => rfl
  | true =>
    rw [if_pos rfl, n_sub (by omega)]
    congr 2
    omega
end W73
