/-! ONE STATE, TWICE: the way; what the model's steps need -/
section W74
variable {S : St} {F : Nat → Nat} {n : Nat} {L : List Nat}
/-- sounds and echoes are well formed -/
def So (S : St) : Prop := (∀ s ∈ S.1 11, s < 4194304) ∧ (∀ s ∈ S.1 11, dH s = 0) ∧ (∀ s ∈ S.1 11, dT s < 7) ∧ (∀ s ∈ S.1 11, dW s < 7) ∧ (∀ s ∈ S.1 11, dE s ≤ 4) ∧ (∀ s ∈ S.1 11, 64 ≤ dD s ∧ dD s < 448) ∧ (∀ s ∈ S.1 12, s < 2097152) ∧ (∀ s ∈ S.1 12, 1 ≤ dH s ∧ dH s ≤ 5) ∧ (∀ s ∈ S.1 12, dT s < 7) ∧ (∀ s ∈ S.1 12, dW s < 7) ∧ (∀ s ∈ S.1 12, 1 ≤ dE s ∧ dE s ≤ 4) ∧ (∀ s ∈ S.1 12, 64 ≤ dD s ∧ dD s < 448)
theorem So.tx {S : St} (h : So S) : ∀ s ∈ S.1 11, s < 4194304 := h.1
theorem So.th {S : St} (h : So S) : ∀ s ∈ S.1 11, dH s = 0 := h.2.1
theorem So.tt {S : St} (h : So S) : ∀ s ∈ S.1 11, dT s < 7 := h.2.2.1
theorem So.tw {S : St} (h : So S) : ∀ s ∈ S.1 11, dW s < 7 := h.2.2.2.1
theorem So.te {S : St} (h : So S) : ∀ s ∈ S.1 11, dE s ≤ 4 := h.2.2.2.2.1
theorem So.td {S : St} (h : So S) : ∀ s ∈ S.1 11, 64 ≤ dD s ∧ dD s < 448 := h.2.2.2.2.2.1
theorem So.ex {S : St} (h : So S) : ∀ s ∈ S.1 12, s < 2097152 := h.2.2.2.2.2.2.1
theorem So.eh {S : St} (h : So S) : ∀ s ∈ S.1 12, 1 ≤ dH s ∧ dH s ≤ 5 := h.2.2.2.2.2.2.2.1
theorem So.et {S : St} (h : So S) : ∀ s ∈ S.1 12, dT s < 7 := h.2.2.2.2.2.2.2.2.1
theorem So.ew {S : St} (h : So S) : ∀ s ∈ S.1 12, dW s < 7 := h.2.2.2.2.2.2.2.2.2.1
theorem So.ee {S : St} (h : So S) : ∀ s ∈ S.1 12, 1 ≤ dE s ∧ dE s ≤ 4 := h.2.2.2.2.2.2.2.2.2.2.1
theorem So.ed {S : St} (h : So S) : ∀ s ∈ S.1 12, 64 ≤ dD s ∧ dD s < 448 := h.2.2.2.2.2.2.2.2.2.2.2
theorem So.mk {S : St} (tx' : ∀ s ∈ S.1 11, s < 4194304) (th' : ∀ s ∈ S.1 11, dH s = 0) (tt' : ∀ s ∈ S.1 11, dT s < 7) (tw' : ∀ s ∈ S.1 11, dW s < 7) (te' : ∀ s ∈ S.1 11, dE s ≤ 4) (td' : ∀ s ∈ S.1 11, 64 ≤ dD s ∧ dD s < 448) (ex' : ∀ s ∈ S.1 12, s < 2097152) (eh' : ∀ s ∈ S.1 12, 1 ≤ dH s ∧ dH s ≤ 5) (et' : ∀ s ∈ S.1 12, dT s < 7) (ew' : ∀ s ∈ S.1 12, dW s < 7) (ee' : ∀ s ∈ S.1 12, 1 ≤ dE s ∧ dE s ≤ 4) (ed' : ∀ s ∈ S.1 12, 64 ≤ dD s ∧ dD s < 448) : So S := ⟨tx', th', tt', tw', te', td', ex', eh', et', ew', ee', ed'⟩
theorem hrd_m {i : Nat} (hi : i < (hrd S).length) : (hrd S).getD i 0 ∈ S.1 11 ∧ dX ((hrd S).getD i 0) = false := by
  have h : (hrd S).getD i 0 ∈ hrd S := by rw [getD_lt hi]; exact List.getElem_mem hi
  rw [hrd, List.mem_filter] at h
  have g : (!dX ((hrd S).getD i 0)) = true := h.2
  rw [Bool.not_eq_true'] at g
  exact ⟨h.1, g⟩
theorem EN.tl (h : EN S F) {i : Nat} (hi : i < F 1) : tol F i = dT ((hrd S).getD i 0) := by
  unfold tol; rw [h.hd i hi]; exact cvS_t _
theorem EN.tl7 (h : EN S F) (hs : So S) : ∀ i, i < F 1 → tol F i < 7 := fun i hi => by
  rw [h.tl hi]; exact hs.tt _ (hrd_m (by rw [← h.c1]; exact hi)).1
theorem fold_filt {x : Nat × Int32} : ∀ L : List Nat, L.foldl (wStp S) x = (L.filter fun s => !dX s).foldl (wStp S) x := by
  intro L
  induction L generalizing x with
  | nil => rfl
  | cons y L ih =>
    by_cases g : dX y = false
    · rw [List.filter_cons_of_pos (by rw [g]; rfl), List.foldl_cons, List.foldl_cons]; exact ih
    · rw [List.filter_cons_of_neg (by simpa using g), List.foldl_cons, show wStp S x y = x from if_neg (fun e => g e.1)]; exact ih
def wV (S : St) (a : Nat) : Nat × Int32 := if a = 0 then (0, -1) else ((S.1 1).getD (dT ((hrd S).getD (a - 1) 0)) 0 + 1, if dE ((hrd S).getD (a - 1) 0) = 0 then nI (dW ((hrd S).getD (a - 1) 0)) else -2)
theorem way_k (h : EN S F) (hs : So S) : ∀ k, k ≤ F 1 → ((hrd S).take k).foldl (wStp S) (0, -1) = wV S ((List.range k).foldl (mB F) 0)
  | 0, _ => rfl
  | k + 1, hk => by
    have hkl : k < (hrd S).length := by rw [← h.c1]; omega
    have ih := way_k h hs k (by omega)
    have hle := mBs_le (F := F) k
    rw [take_s hkl, List.foldl_append, ih, fold_s]
    generalize (List.range k).foldl (mB F) 0 = a at hle
    have hx := (hrd_m hkl).2
    have ek : lF F (tol F k) 2 = (S.1 1).getD (dT ((hrd S).getD k 0)) 0 := by
      rw [h.ln _ (h.tl7 hs k (by omega)) 2 (by decide) (by decide), h.tl (by omega)]
    show wStp S (wV S a) ((hrd S).getD k 0) = _
    rw [mB, wStp]
    by_cases g : a = 0
    · subst g
      rw [if_pos ⟨hx, Nat.zero_le _⟩, if_pos (Or.inl rfl), wV, if_neg (show ¬ k + 1 = 0 by omega)]; rfl
    · have ea : lF F (tol F (a - 1)) 2 = (S.1 1).getD (dT ((hrd S).getD (a - 1) 0)) 0 := by
        rw [h.ln _ (h.tl7 hs (a - 1) (by omega)) 2 (by decide) (by decide), h.tl (by omega)]
      have e1 : (wV S a).1 = lF F (tol F (a - 1)) 2 + 1 := by rw [wV, if_neg g, ea]
      rw [e1]
      by_cases g2 : lF F (tol F (a - 1)) 2 < lF F (tol F k) 2
      · rw [if_pos (Or.inr g2), if_pos ⟨hx, by rw [← ek]; exact g2⟩, wV, if_neg (show ¬ k + 1 = 0 by omega)]; rfl
      · rw [if_neg (fun x => g2 (by rw [ek]; exact x.2)), if_neg (fun x => x.elim g g2)]
theorem same_way (h : EN S F) (hs : So S) : mWv F (mBest F) = gWay S := by
  have hb := mBest_le (F := F)
  have e := way_k h hs (F 1) (Nat.le_refl _)
  rw [List.take_of_length_le (by rw [h.c1]; exact Nat.le_refl _)] at e
  have e2 : gWay S = (wV S (mBest F)).2 := by
    rw [gWay, fold_filt]
    show ((hrd S).foldl (wStp S) (0, -1)).2 = _
    rw [e]; rfl
  rw [e2, mWv, wV]
  by_cases g : mBest F = 0
  · rw [if_pos g, if_pos g]
  · rw [if_neg g, if_neg g, h.hd (mBest F - 1) (by omega), cvS_e, cvS_w]
theorem way_ok (h : EN S F) (hs : So S) : okP (mWv F (mBest F)) := by
  have hb := mBest_le (F := F)
  rw [mWv]
  by_cases g : mBest F = 0
  · rw [if_pos g]; exact Or.inl rfl
  · rw [if_neg g, h.hd (mBest F - 1) (by omega), cvS_e, cvS_w]
    split
    · refine Or.inr (Or.inr ⟨_, hs.tw _ (hrd_m (i := mBest F - 1) (by rw [← h.c1]; omega)).1, rfl⟩)
    · exact Or.inr (Or.inl rfl)
theorem sum_bd {m : Nat} : ∀ L : List Nat, (∀ x ∈ L, x ≤ m) → L.sum ≤ L.length * m
  | [], _ => Nat.zero_le _
  | x :: L, h => by
    have h1 := sum_bd L fun y hy => h y (List.mem_cons_of_mem _ hy)
    have h2 := h x (List.mem_cons_self ..)
    rw [List.sum_cons, List.length_cons, Nat.succ_mul]; omega
theorem getD_le {m : Nat} {L : List Nat} (h : ∀ x ∈ L, x ≤ m) (l : Nat) : L.getD l 0 ≤ m := by
  by_cases hl : l < L.length
  · rw [getD_lt hl]; exact h _ (List.getElem_mem hl)
  · rw [List.getD_eq_getElem?_getD, List.getElem?_eq_none (by omega)]; exact Nat.zero_le _
theorem EN.bw (h : EN S F) (hs : Sh n S) : BW F := fun l hl => by
  have := okW_lt (hs.w l)
  rw [WN, h.w0 l hl, h.w1 l hl]; omega
theorem hrd_le : (hrd S).length ≤ (S.1 11).length := List.length_filter_le _ _
theorem EN.cnn (h : EN S F) (hs : Sh n S) (hn : n ≤ 2 ^ 24) (h12 : (S.1 12).length ≤ 140) (h11 : (S.1 11).length ≤ 147) : CN F := by
  have hl := hrd_le (S := S)
  have h6 := sum_bd (S.1 6) hs.li
  rw [hs.l7 6 (by decide)] at h6
  have hnu := hs.nu 1 (by decide)
  refine ⟨fun l hl7 => ?_, ?_, ?_, ?_, ?_, ?_, fun p hp => ?_⟩
  · rw [h.ln l hl7 3 (by decide) (by decide), h.ln l hl7 7 (by decide) (by decide)]
    have a := getD_le hs.st l
    have b := getD_le hs.li l
    show (S.1 2).getD l 0 < 2 ^ 28 ∧ (S.1 6).getD l 0 < 2 ^ 28
    omega
  · rw [h.c1]; omega
  · rw [h.c2]; omega
  · rw [h.c3]; omega
  · rw [h.c4]; omega
  · rw [h.c5]; omega
  · rw [h.pl p hp 0 (by decide), h.pl p hp 1 (by decide)]
    have a : (S.1 8).getD p 0 ≤ 5 := getD_le (fun x hx => by have := hs.de x hx; omega) p
    have b : (S.1 9).getD p 0 ≤ 127 := getD_le (fun x hx => by have := hs.se x hx; omega) p
    exact ⟨a, by show (S.1 9).getD p 0 < 128; omega⟩
theorem EN.lrn (h : EN S F) (hs : Sh n S) (ho : So S) (h11 : (S.1 11).length ≤ 147) : LRN F (gLet (S.1 11)) := by
  refine ⟨h.bw hs, by rw [h.c3]; exact h11, fun k hk => ?_, same_let h, ?_⟩
  · rw [h.wd k hk]
    have hk2 : k < (S.1 11).length := by rw [← h.c3]; exact hk
    rw [getD_lt hk2]
    exact (ho.td _ (List.getElem_mem hk2)).2
  · have key : ∀ L : List Nat, (∀ s ∈ L, dD s < 448) → (gLet L).length ≤ 6 * L.length := by
      intro L
      induction L with
      | nil => intro _; exact Nat.zero_le _
      | cons s L ih =>
        intro hL
        have h1 := ih fun x hx => hL x (List.mem_cons_of_mem _ hx)
        have h2 := hL s (List.mem_cons_self ..)
        rw [gLet, List.flatMap_cons, List.length_append, ltr, List.length_map, List.length_range, List.length_cons]
        have : (L.flatMap fun s => ltr s (dD s / 64)).length = (gLet L).length := rfl
        simp only [gLet, ltr] at *
        omega
    have := key (S.1 11) fun s hs => (ho.td s hs).2
    omega
end W74
