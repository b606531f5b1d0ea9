/-! ONE STATE, TWICE: the class's rows and the model's numbers -/
section W67
def hrd (S : St) : List Nat := (S.1 11).filter fun s => !dX s
def cvS (s : Nat) : Nat := ((dT s * 8 + dW s) * 8 + dE s) * 512 + dD s
def stt (S : St) (l : Nat) : Nat := match gWh (S.1 11) l with
  | none => 0
  | some i => if dX ((S.1 11).getD i 0) = true then 3 else if dT ((S.1 11).getD i 0) = l then 1 else 2
def EN (S : St) (F : Nat → Nat) : Prop := (F 0 = S.2 0) ∧ (F 1 = (hrd S).length) ∧ (F 2 = (S.1 12).length) ∧ (F 3 = (S.1 11).length) ∧ (F 4 = S.2 1) ∧ (F 5 = (S.1 6).sum) ∧ (F 6 = (S.1 7).sum) ∧ (F 7 = (S.1 5).sum) ∧ (F 8 = S.2 2) ∧ (F 9 = S.2 3) ∧ (∀ l, l < 7 → lF F l 0 = gWd S l / 64) ∧ (∀ l, l < 7 → lF F l 1 = gWd S l % 64) ∧ (∀ l, l < 7 → ∀ w, 2 ≤ w → w < 9 → lF F l w = (S.1 (w - 1)).getD l 0) ∧ (∀ l, l < 7 → lF F l 9 = stt S l) ∧ (∀ p, p < 4 → ∀ w, w < 3 → pF F p w = (S.1 (8 + w)).getD p 0) ∧ (∀ i, i < F 1 → F (110 + i) = cvS ((hrd S).getD i 0)) ∧ (∀ i, i < F 2 → F (280 + i) = 1000000 * dH ((S.1 12).getD i 0) + cvS ((S.1 12).getD i 0)) ∧ (∀ i, i < F 3 → F (470 + i) = dD ((S.1 11).getD i 0))
theorem EN.c0 {S : St} {F : Nat → Nat} (h : EN S F) : F 0 = S.2 0 := h.1
theorem EN.c1 {S : St} {F : Nat → Nat} (h : EN S F) : F 1 = (hrd S).length := h.2.1
theorem EN.c2 {S : St} {F : Nat → Nat} (h : EN S F) : F 2 = (S.1 12).length := h.2.2.1
theorem EN.c3 {S : St} {F : Nat → Nat} (h : EN S F) : F 3 = (S.1 11).length := h.2.2.2.1
theorem EN.c4 {S : St} {F : Nat → Nat} (h : EN S F) : F 4 = S.2 1 := h.2.2.2.2.1
theorem EN.c5 {S : St} {F : Nat → Nat} (h : EN S F) : F 5 = (S.1 6).sum := h.2.2.2.2.2.1
theorem EN.c6 {S : St} {F : Nat → Nat} (h : EN S F) : F 6 = (S.1 7).sum := h.2.2.2.2.2.2.1
theorem EN.c7 {S : St} {F : Nat → Nat} (h : EN S F) : F 7 = (S.1 5).sum := h.2.2.2.2.2.2.2.1
theorem EN.c8 {S : St} {F : Nat → Nat} (h : EN S F) : F 8 = S.2 2 := h.2.2.2.2.2.2.2.2.1
theorem EN.c9 {S : St} {F : Nat → Nat} (h : EN S F) : F 9 = S.2 3 := h.2.2.2.2.2.2.2.2.2.1
theorem EN.w0 {S : St} {F : Nat → Nat} (h : EN S F) : ∀ l, l < 7 → lF F l 0 = gWd S l / 64 := h.2.2.2.2.2.2.2.2.2.2.1
theorem EN.w1 {S : St} {F : Nat → Nat} (h : EN S F) : ∀ l, l < 7 → lF F l 1 = gWd S l % 64 := h.2.2.2.2.2.2.2.2.2.2.2.1
theorem EN.ln {S : St} {F : Nat → Nat} (h : EN S F) : ∀ l, l < 7 → ∀ w, 2 ≤ w → w < 9 → lF F l w = (S.1 (w - 1)).getD l 0 := h.2.2.2.2.2.2.2.2.2.2.2.2.1
theorem EN.l9 {S : St} {F : Nat → Nat} (h : EN S F) : ∀ l, l < 7 → lF F l 9 = stt S l := h.2.2.2.2.2.2.2.2.2.2.2.2.2.1
theorem EN.pl {S : St} {F : Nat → Nat} (h : EN S F) : ∀ p, p < 4 → ∀ w, w < 3 → pF F p w = (S.1 (8 + w)).getD p 0 := h.2.2.2.2.2.2.2.2.2.2.2.2.2.2.1
theorem EN.hd {S : St} {F : Nat → Nat} (h : EN S F) : ∀ i, i < F 1 → F (110 + i) = cvS ((hrd S).getD i 0) := h.2.2.2.2.2.2.2.2.2.2.2.2.2.2.2.1
theorem EN.nx {S : St} {F : Nat → Nat} (h : EN S F) : ∀ i, i < F 2 → F (280 + i) = 1000000 * dH ((S.1 12).getD i 0) + cvS ((S.1 12).getD i 0) := h.2.2.2.2.2.2.2.2.2.2.2.2.2.2.2.2.1
theorem EN.wd {S : St} {F : Nat → Nat} (h : EN S F) : ∀ i, i < F 3 → F (470 + i) = dD ((S.1 11).getD i 0) := h.2.2.2.2.2.2.2.2.2.2.2.2.2.2.2.2.2
theorem EN.mk {S : St} {F : Nat → Nat} (c0' : F 0 = S.2 0) (c1' : F 1 = (hrd S).length) (c2' : F 2 = (S.1 12).length) (c3' : F 3 = (S.1 11).length) (c4' : F 4 = S.2 1) (c5' : F 5 = (S.1 6).sum) (c6' : F 6 = (S.1 7).sum) (c7' : F 7 = (S.1 5).sum) (c8' : F 8 = S.2 2) (c9' : F 9 = S.2 3) (w0' : ∀ l, l < 7 → lF F l 0 = gWd S l / 64) (w1' : ∀ l, l < 7 → lF F l 1 = gWd S l % 64) (ln' : ∀ l, l < 7 → ∀ w, 2 ≤ w → w < 9 → lF F l w = (S.1 (w - 1)).getD l 0) (l9' : ∀ l, l < 7 → lF F l 9 = stt S l) (pl' : ∀ p, p < 4 → ∀ w, w < 3 → pF F p w = (S.1 (8 + w)).getD p 0) (hd' : ∀ i, i < F 1 → F (110 + i) = cvS ((hrd S).getD i 0)) (nx' : ∀ i, i < F 2 → F (280 + i) = 1000000 * dH ((S.1 12).getD i 0) + cvS ((S.1 12).getD i 0)) (wd' : ∀ i, i < F 3 → F (470 + i) = dD ((S.1 11).getD i 0)) : EN S F := ⟨c0', c1', c2', c3', c4', c5', c6', c7', c8', c9', w0', w1', ln', l9', pl', hd', nx', wd'⟩
/-- a word, or none -/
def okW (x : Nat) : Prop := x = 0 ∨ (64 ≤ x ∧ x < 448 ∧ x % 64 < 2 ^ (x / 64))
/-- the shape of a state; n bounds what only grows -/
def Sh (n : Nat) (S : St) : Prop := (∀ b, b < 8 → (S.1 b).length = 7) ∧ (∀ b, 8 ≤ b → b < 11 → (S.1 b).length = 4) ∧ (∀ x ∈ S.1 0, okW x) ∧ (∀ x ∈ S.1 1, x < 10) ∧ (∀ x ∈ S.1 2, x ≤ 20) ∧ (∀ x ∈ S.1 4, x ≤ 12) ∧ (∀ x ∈ S.1 3, x ≤ n) ∧ (∀ x ∈ S.1 5, x ≤ n) ∧ (∀ x ∈ S.1 6, x ≤ n) ∧ (∀ x ∈ S.1 7, x ≤ n) ∧ (∀ x ∈ S.1 10, x ≤ n) ∧ (∀ x ∈ S.1 8, x < 6) ∧ (∀ x ∈ S.1 9, x < 128) ∧ (∀ j, j < 4 → S.2 j ≤ n)
theorem Sh.l7 {n : Nat} {S : St} (h : Sh n S) : ∀ b, b < 8 → (S.1 b).length = 7 := h.1
theorem Sh.l4 {n : Nat} {S : St} (h : Sh n S) : ∀ b, 8 ≤ b → b < 11 → (S.1 b).length = 4 := h.2.1
theorem Sh.wo {n : Nat} {S : St} (h : Sh n S) : ∀ x ∈ S.1 0, okW x := h.2.2.1
theorem Sh.pr {n : Nat} {S : St} (h : Sh n S) : ∀ x ∈ S.1 1, x < 10 := h.2.2.2.1
theorem Sh.st {n : Nat} {S : St} (h : Sh n S) : ∀ x ∈ S.1 2, x ≤ 20 := h.2.2.2.2.1
theorem Sh.mu {n : Nat} {S : St} (h : Sh n S) : ∀ x ∈ S.1 4, x ≤ 12 := h.2.2.2.2.2.1
theorem Sh.co {n : Nat} {S : St} (h : Sh n S) : ∀ x ∈ S.1 3, x ≤ n := h.2.2.2.2.2.2.1
theorem Sh.pa {n : Nat} {S : St} (h : Sh n S) : ∀ x ∈ S.1 5, x ≤ n := h.2.2.2.2.2.2.2.1
theorem Sh.li {n : Nat} {S : St} (h : Sh n S) : ∀ x ∈ S.1 6, x ≤ n := h.2.2.2.2.2.2.2.2.1
theorem Sh.ex {n : Nat} {S : St} (h : Sh n S) : ∀ x ∈ S.1 7, x ≤ n := h.2.2.2.2.2.2.2.2.2.1
theorem Sh.ec {n : Nat} {S : St} (h : Sh n S) : ∀ x ∈ S.1 10, x ≤ n := h.2.2.2.2.2.2.2.2.2.2.1
theorem Sh.de {n : Nat} {S : St} (h : Sh n S) : ∀ x ∈ S.1 8, x < 6 := h.2.2.2.2.2.2.2.2.2.2.2.1
theorem Sh.se {n : Nat} {S : St} (h : Sh n S) : ∀ x ∈ S.1 9, x < 128 := h.2.2.2.2.2.2.2.2.2.2.2.2.1
theorem Sh.nu {n : Nat} {S : St} (h : Sh n S) : ∀ j, j < 4 → S.2 j ≤ n := h.2.2.2.2.2.2.2.2.2.2.2.2.2
theorem Sh.mk {n : Nat} {S : St} (l7' : ∀ b, b < 8 → (S.1 b).length = 7) (l4' : ∀ b, 8 ≤ b → b < 11 → (S.1 b).length = 4) (wo' : ∀ x ∈ S.1 0, okW x) (pr' : ∀ x ∈ S.1 1, x < 10) (st' : ∀ x ∈ S.1 2, x ≤ 20) (mu' : ∀ x ∈ S.1 4, x ≤ 12) (co' : ∀ x ∈ S.1 3, x ≤ n) (pa' : ∀ x ∈ S.1 5, x ≤ n) (li' : ∀ x ∈ S.1 6, x ≤ n) (ex' : ∀ x ∈ S.1 7, x ≤ n) (ec' : ∀ x ∈ S.1 10, x ≤ n) (de' : ∀ x ∈ S.1 8, x < 6) (se' : ∀ x ∈ S.1 9, x < 128) (nu' : ∀ j, j < 4 → S.2 j ≤ n) : Sh n S := ⟨l7', l4', wo', pr', st', mu', co', pa', li', ex', ec', de', se', nu'⟩
variable {S : St} {F : Nat → Nat} {n : Nat}
theorem Sh.w (h : Sh n S) (l : Nat) : okW (gWd S l) := by
  unfold gWd
  by_cases hl : l < (S.1 0).length
  · rw [getD_lt hl]; exact h.wo _ (List.getElem_mem hl)
  · rw [List.getD_eq_getElem?_getD, List.getElem?_eq_none (by omega)]; exact Or.inl rfl
theorem okW_lt {x : Nat} (h : okW x) : x < 448 := by rcases h with rfl | h <;> omega
theorem okW_0 {x : Nat} (h : okW x) : x / 64 = 0 ↔ x = 0 := by
  rcases h with rfl | h
  · exact ⟨fun _ => rfl, fun _ => rfl⟩
  · constructor <;> intro e <;> omega
theorem okW_p {x : Nat} (h : okW x) : x % 64 < 2 ^ (x / 64) := by
  rcases h with rfl | h
  · decide
  · exact h.2.2
theorem EN.sm (h : EN S F) (hs : Sh n S) {l : Nat} (hl : l < 7) : mSt F l = stm (gWd S l) := by
  have hw := hs.w l
  have h4 := okW_lt hw
  rw [mSt, h.w0 l hl, h.w1 l hl, stm, popN_6 _ (by omega) _ (by omega) (okW_p hw)]
theorem cnt_r {p : Nat → Bool} : ∀ (L : List Nat), L.countP p = (List.range L.length).countP fun l => p (L.getD l 0)
  | [] => rfl
  | x :: L => by
    rw [List.countP_cons, cnt_r L, List.length_cons, List.range_succ_eq_map, List.countP_cons, List.countP_map]
    rfl
theorem EN.cn (h : EN S F) (hs : Sh n S) : mCn F 0 7 = (S.1 0).countP (0 < ·) := by
  rw [cnt_r, hs.l7 0 (by decide), mCn]
  refine List.countP_congr fun l hl => ?_
  have hl7 := List.mem_range.mp hl
  have hz := okW_0 (hs.w l)
  rw [h.w0 l hl7]
  simp only [decide_eq_true_eq]
  show 0 < gWd S l / 64 ↔ 0 < gWd S l
  omega
theorem EN.cnm (h : EN S F) (hs : Sh n S) : mCn F 5 7 = (S.1 4).countP (0 < ·) := by
  rw [cnt_r, hs.l7 4 (by decide), mCn]
  refine List.countP_congr fun l hl => ?_
  have hl7 := List.mem_range.mp hl
  rw [h.ln l hl7 5 (by decide) (by decide)]
theorem find_congr {p q : Nat → Bool} {k : Nat} (h : ∀ l, l < k → p l = q l) : (List.range k).find? p = (List.range k).find? q := by
  have key : ∀ L : List Nat, (∀ l ∈ L, p l = q l) → L.find? p = L.find? q := by
    intro L
    induction L with
    | nil => intro _; rfl
    | cons x L ih =>
      intro hL
      rw [List.find?_cons, List.find?_cons, hL x (List.mem_cons_self ..), ih fun l hl => hL l (List.mem_cons_of_mem _ hl)]
  exact key _ fun l hl => h l (List.mem_range.mp hl)
theorem inI_f {v : Int32} {a b : Int32} : inI v a b = false ↔ (v < a ∨ b < v) := by
  rw [inI, Bool.and_eq_false_iff, decide_eq_false_iff_not, decide_eq_false_iff_not, Decidable.not_not, Decidable.not_not]
theorem ite2 {α : Type} {p q : Prop} [Decidable p] [Decidable q] {a b : α} : (if p then a else if q then a else b) = if p ∨ q then a else b := by
  by_cases h1 : p
  · rw [if_pos h1, if_pos (Or.inl h1)]
  · by_cases h2 : q
    · rw [if_neg h1, if_pos h2, if_pos (Or.inr h2)]
    · rw [if_neg h1, if_neg h2, if_neg (fun g => g.elim h1 h2)]
theorem ite_c {α : Type} {p q : Prop} [Decidable p] [Decidable q] {a b c d : α} (h : p ↔ q) (h1 : a = c) (h2 : ¬ p → b = d) : (if p then a else b) = if q then c else d := by
  by_cases g : p
  · rw [if_pos g, if_pos (h.mp g), h1]
  · rw [if_neg g, if_neg (fun e => g (h.mpr e)), h2 g]
theorem same_sign (h : EN S F) (hs : Sh n S) (l nn b : Int32) : oSign F l nn b = fSign S l nn b := by
  rw [oSign, fSign]
  refine ite_c Iff.rfl rfl fun hl => ?_
  have e1 : (isWd nn b = false) ↔ (isN nn = false ∨ (b < 0 ∨ nI (2 ^ nn.toNatClampNeg - 1) < b)) := by
    rw [isWd, Bool.and_eq_false_iff, inI_f]; rfl
  rw [ite2, ite2]
  refine ite_c (e1.trans or_assoc.symm) rfl fun hw => ?_
  obtain ⟨m, k, hm1, hm6, hk, hk64, rfl, rfl⟩ := isWd_t (by simpa using hw)
  rw [nI_c7 (by omega), nI_c7 (by omega), mrSign, gOwner]
  rw [find_congr (q := fun l => decide ((S.1 0).getD l 0 = m * 64 + k)) (fun l hl => by
    rw [h.w0 l hl, h.w1 l hl, ← Bool.decide_and]
    refine decide_eq_decide.mpr ?_
    show gWd S l / 64 = m ∧ gWd S l % 64 = k ↔ gWd S l = m * 64 + k
    omega)]
  cases (List.range 7).find? fun l => decide ((S.1 0).getD l 0 = m * 64 + k) with
  | none => rfl
  | some o => rfl
theorem mFl_if {p : Prop} [Decidable p] {x : Int32 × Int32} {o : Option (Int32 × Int32)} : mFl (if p then some x else o) = if p then (3, some x) else mFl o := by split <;> rfl
theorem same_no (h : EN S F) (hs : Sh n S) {l : Nat} (hl : l < 7) : mFl (mrNo F l) = fNS S l := by
  rw [mrNo, fNS, mFl_if]
  refine ite_c ?_ (by rw [h.cn hs]; rfl) fun _ => rfl
  rw [h.w0 l hl]; exact okW_0 (hs.w l)
theorem isL_7 {l : Int32} (h : ¬ isL l = false) : ∃ j, j < 7 ∧ l = nI j := isL_t (by simpa using h)
theorem same_uns (h : EN S F) (hs : Sh n S) (l : Int32) : oUns F l = fUns S l := by
  rw [oUns, fUns]
  refine ite_c Iff.rfl rfl fun hl => ?_
  obtain ⟨j, hj, rfl⟩ := isL_7 hl
  rw [nI_c7 (by omega)]; exact same_no h hs hj
theorem same_pri (h : EN S F) (l p : Int32) : oPri F l p = fPri S l p := by
  rw [oPri, fPri]
  refine ite_c Iff.rfl rfl fun hl => ?_
  obtain ⟨j, hj, rfl⟩ := isL_7 hl
  rw [nI_c7 (by omega), ite2]
  refine ite_c inI_f rfl fun hp => ?_
  obtain ⟨k, -, hk9, rfl⟩ := inI_t (a := 0) (b := 9) (by decide) (by decide) (by simpa using hp)
  rw [nI_c7 (by omega), mrPri, mFl_if, h.ln j hj 2 (by decide) (by decide)]
  rfl
theorem same_mu (h : EN S F) {l : Nat} (hl : l < 7) : mFl (mrMu F l) = fMt S l := by
  rw [mrMu, fMt, mFl_if, h.ln l hl 5 (by decide) (by decide)]; rfl
theorem same_mute (h : EN S F) (l k : Int32) : oMu F l k = fMu S l k := by
  rw [oMu, fMu]
  refine ite_c Iff.rfl rfl fun hl => ?_
  obtain ⟨j, hj, rfl⟩ := isL_7 hl
  rw [nI_c7 (by omega), ite2]
  exact ite_c inI_f rfl fun _ => same_mu h hj
theorem same_pla (p dl m : Int32) : oPla p dl m = fPla p dl m := by
  rw [oPla, fPla]
  refine ite_c Iff.rfl rfl fun _ => ?_
  rw [ite2]
  refine Eq.trans ?_ (ite2 (p := dl < 0) (q := nI 5 < dl)).symm
  rw [ite2 (p := m < 0)]
  by_cases h1 : dl < 0 ∨ nI 5 < dl
  · rw [if_pos h1, if_pos (show inI dl (nI 0) (nI 5) = false ∨ inI m (nI 0) (nI 127) = false from Or.inl (inI_f.mpr h1))]
  · rw [if_neg h1]
    exact ite_c ⟨fun g => inI_f.mp (g.resolve_left fun e => h1 (inI_f.mp e)), fun g => Or.inr (inI_f.mpr g)⟩ rfl fun _ => rfl
theorem same_fi (h : EN S F) (l : Int32) : oFi F l = fFi S l := by
  rw [oFi, fFi]
  refine ite_c Iff.rfl rfl fun hl => ?_
  obtain ⟨j, hj, rfl⟩ := isL_7 hl
  rw [nI_c7 (by omega), mrFi, mFl_if, mFl_if, h.ln j hj 5 (by decide) (by decide), h.ln j hj 4 (by decide) (by decide)]
  rfl
theorem stt_0 {l : Nat} : 0 < stt S l ↔ (gWh (S.1 11) l).isSome = true := by
  unfold stt
  cases gWh (S.1 11) l with
  | none => exact ⟨fun g => absurd g (Nat.lt_irrefl 0), fun g => (by cases g)⟩
  | some i =>
    refine ⟨fun _ => rfl, fun _ => ?_⟩
    show 0 < if dX ((S.1 11).getD i 0) = true then 3 else if dT ((S.1 11).getD i 0) = l then 1 else 2
    split
    · decide
    · split <;> decide
theorem stt_2 {l : Nat} : stt S l = 2 ↔ ¬ gLie (S.1 11) l = none := by
  unfold stt gLie
  cases gWh (S.1 11) l with
  | none => exact ⟨fun g => absurd g (show ¬ (0 : Nat) = 2 by decide), fun g => absurd rfl g⟩
  | some i =>
    show (if dX ((S.1 11).getD i 0) = true then 3 else if dT ((S.1 11).getD i 0) = l then 1 else 2) = 2 ↔ ¬ (if dT ((S.1 11).getD i 0) = l ∨ dX ((S.1 11).getD i 0) = true then none else some i) = none
    by_cases hx : dX ((S.1 11).getD i 0) = true
    · rw [if_pos hx, if_pos (Or.inr hx)]; exact ⟨fun g => absurd g (by decide), fun g => absurd rfl g⟩
    · rw [if_neg hx]
      by_cases ht : dT ((S.1 11).getD i 0) = l
      · rw [if_pos ht, if_pos (Or.inl ht)]; exact ⟨fun g => absurd g (by decide), fun g => absurd rfl g⟩
      · rw [if_neg ht, if_neg (fun g => g.elim ht hx)]; exact ⟨fun _ g => (by cases g), fun _ => rfl⟩
theorem same_bl (h : EN S F) (hs : Sh n S) {l t : Nat} (hl : l < 7) (ht : t < 7) : mFl (mrHu F l t (if l = t then 1 else 2)) = fBl S l t := by
  have ec : (if l = t then 1 else 2) * mSt F t = cost S l t := by
    rw [h.sm hs ht, cost]; split
    · exact Nat.one_mul _
    · rfl
  rw [mrHu, fBl, mFl_if, mFl_if, mFl_if, mFl_if, ec, h.w0 t ht, h.ln l hl 5 (by decide) (by decide), h.l9 l hl, h.ln l hl 3 (by decide) (by decide), h.cn hs, h.c0]
  refine ite_c (okW_0 (hs.w t)) rfl fun _ => ?_
  refine ite_c Iff.rfl rfl fun _ => ?_
  refine ite_c stt_0 rfl fun _ => ?_
  exact ite_c Iff.rfl rfl fun _ => rfl
theorem same_whi (h : EN S F) (hs : Sh n S) (l : Int32) : oWhi F l = fWhi S l := by
  rw [oWhi, fWhi]
  refine ite_c Iff.rfl rfl fun hl => ?_
  obtain ⟨j, hj, rfl⟩ := isL_7 hl
  rw [nI_c7 (by omega), ← same_bl h hs hj hj, if_pos rfl]
theorem same_li (h : EN S F) (hs : Sh n S) (l t : Int32) : oLi F l t = fLi S l t := by
  rw [oLi, fLi]
  refine ite_c Iff.rfl rfl fun hl => ite_c Iff.rfl rfl fun ht => ite_c Iff.rfl rfl fun hne => ?_
  obtain ⟨j, hj, rfl⟩ := isL_7 hl
  obtain ⟨k, hk, rfl⟩ := isL_7 ht
  rw [nI_c7 (by omega), nI_c7 (by omega), ← same_bl h hs hj hk, if_neg (fun e => hne (by rw [e]))]
theorem same_xp (h : EN S F) (l : Int32) : oXp F l = fXp S l := by
  rw [oXp, fXp]
  refine ite_c Iff.rfl rfl fun hl => ?_
  obtain ⟨j, hj, rfl⟩ := isL_7 hl
  have e1 : F 1 = (S.1 11).countP fun s => !dX s := by rw [h.c1, hrd, List.countP_eq_length_filter]
  rw [nI_c7 (by omega), mrXp, h.l9 j hj, e1]
  by_cases g : stt S j = 2
  · rw [if_pos g, if_neg (stt_2.mp g)]; rfl
  · rw [if_neg g, if_pos (Decidable.byContradiction fun e => g (stt_2.mpr e))]; rfl
end W67
