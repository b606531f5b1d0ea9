/-! ONE STATE, TWICE: questions -/
section W68
variable {S : St} {F : Nat → Nat} {n : Nat}
theorem same_line (h : EN S F) (l k : Int32) : mqLn F l k = qLine S l k := by
  rw [mqLn, qLine]
  refine ite_c Iff.rfl rfl fun hl => ?_
  obtain ⟨j, hj, rfl⟩ := isL_7 hl
  rw [ite2]
  refine ite_c inI_f rfl fun hk => ?_
  obtain ⟨k9, -, hk9, rfl⟩ := inI_t (a := 0) (b := 9) (by decide) (by decide) (by simpa using hk)
  rw [nI_c7 (by omega), nI_c7 (by omega), gLine, h.l9 j hj]
  have hc : k9 = 0 ∨ k9 = 1 ∨ (2 ≤ k9 ∧ k9 < 9) ∨ k9 = 9 := by omega
  rcases hc with rfl | rfl | hc | rfl
  · rw [if_pos (by decide), if_pos rfl, h.w0 j hj]
  · rw [if_pos (by decide), if_neg (by decide), if_pos rfl, h.w1 j hj]
  · rw [if_pos hc.2, if_neg (by omega), if_neg (by omega), if_pos hc.2, h.ln j hj k9 hc.1 hc.2]
  · rw [if_neg (show ¬ 9 < 9 by decide), if_neg (show ¬ 9 = 0 by decide), if_neg (show ¬ 9 = 1 by decide), if_neg (show ¬ 9 < 9 by decide)]
    by_cases g : 0 < stt S j
    · rw [if_pos g, if_pos (stt_0.mp g)]
    · rw [if_neg g, if_neg (fun e => g (stt_0.mpr e))]
theorem cvS_lt (s : Nat) : cvS s < 262144 := by
  have := dT_lt s; have := dW_lt s; have := dE_lt s; have := dD_lt s
  unfold cvS; omega
theorem cvS_e (s : Nat) : cvS s / 512 % 8 = dE s := by
  have := dE_lt s; have := dD_lt s
  unfold cvS; omega
theorem cvS_w (s : Nat) : cvS s / 4096 % 8 = dW s := by
  have := dE_lt s; have := dD_lt s; have := dW_lt s
  unfold cvS; omega
theorem cvS_t (s : Nat) : cvS s / 32768 % 8 = dT s := by
  have := dE_lt s; have := dD_lt s; have := dW_lt s; have := dT_lt s
  unfold cvS; omega
theorem cvS_n (s : Nat) : cvS s / 64 % 8 = dD s / 64 := by
  have := dD_lt s
  unfold cvS; omega
theorem cvS_b (s : Nat) : cvS s % 64 = dD s % 64 := by unfold cvS; omega
theorem EN.nxm (h : EN S F) {i : Nat} (hi : i < F 2) : F (280 + i) % 1000000 = cvS ((S.1 12).getD i 0) ∧ F (280 + i) / 1000000 = dH ((S.1 12).getD i 0) := by
  have := cvS_lt ((S.1 12).getD i 0)
  rw [h.nx i hi]; omega
theorem same_plat (h : EN S F) (p k : Int32) : mqPl F p k = qPlat S p k := by
  rw [mqPl, qPlat]
  refine ite_c Iff.rfl rfl fun hp => ?_
  obtain ⟨j, hj, rfl⟩ := isP_t (by simpa using hp)
  rw [ite2]
  refine ite_c inI_f rfl fun hk => ?_
  obtain ⟨k9, -, hk9, rfl⟩ := inI_t (a := 0) (b := 3) (by decide) (by decide) (by simpa using hk)
  rw [nI_c7 (by omega), nI_c7 (by omega), gPlat]
  by_cases g : k9 < 3
  · rw [if_pos g, if_pos g, h.pl j hj k9 g]
  · rw [if_neg g, if_neg g, mCt, cnt_r (S.1 12), ← h.c2]
    congr 2
    refine List.countP_congr fun i hi => ?_
    have hi2 := List.mem_range.mp hi
    rw [(h.nxm hi2).1, cvS_e]
theorem mSth_w (h : EN S F) (hs : Sh n S) {i j : Nat} (hi : i < 7) (hj : j < 7) : mSth F i j = (decide (¬ gWd S i = 0) && wBeg (gWd S i) (gWd S j)) := by
  have hz := okW_0 (hs.w i)
  rw [mSth, mStr, wBeg, h.w0 i hi, h.w0 j hj, h.w1 i hi, h.w1 j hj]
  congr 1
  · exact decide_eq_decide.mpr ⟨fun g e => absurd (hz.mpr e) (by omega), fun g => Nat.pos_of_ne_zero fun e => g (hz.mp e)⟩
  · congr 1
    exact decide_eq_decide.mpr ⟨fun g => g.symm, fun g => g.symm⟩
theorem wBeg_0 {w v : Nat} (hw : okW w) (hv : okW v) (h0 : ¬ w = 0) (hv0 : v = 0) : wBeg w v = false := by
  subst hv0
  have := okW_0 hw
  rw [wBeg, decide_eq_false (by omega)]; rfl
theorem same_clash (h : EN S F) (hs : Sh n S) (i j : Int32) : mqCl F i j = qClash S i j := by
  rw [mqCl, qClash]
  refine ite_c Iff.rfl rfl fun hi0 => ite_c Iff.rfl rfl fun hj0 => ?_
  obtain ⟨i, hi, rfl⟩ := isL_7 hi0
  obtain ⟨j, hj, rfl⟩ := isL_7 hj0
  rw [nI_c7 (by omega), nI_c7 (by omega), mSth_w h hs hi hj, mSth_w h hs hj hi, gStd, h.w0 i hi]
  show (0, _) = (0, nI (if gWd S i = 0 ∨ gWd S j = 0 then 0 else if i = j then 3 else if wBeg (gWd S i) (gWd S j) = true then 1 else if wBeg (gWd S j) (gWd S i) = true then 2 else 0))
  have hzi := okW_0 (hs.w i)
  congr 1
  by_cases e : i = j
  · subst e
    rw [if_pos rfl]
    by_cases g : gWd S i = 0
    · rw [if_pos (Or.inl g), if_neg (by omega)]
    · rw [if_neg (show ¬ (gWd S i = 0 ∨ gWd S i = 0) from fun x => x.elim g g), if_pos (rfl : i = i), if_pos (show 0 < gWd S i / 64 by omega)]
  · rw [if_neg (fun x => e ((nI_eq (by omega) (by omega)).mp x))]
    by_cases gi : gWd S i = 0
    · rw [if_pos (Or.inl gi), decide_eq_false (not_not_intro gi), Bool.false_and, if_neg (by decide)]
      by_cases gj : gWd S j = 0
      · rw [decide_eq_false (not_not_intro gj), Bool.false_and, if_neg (by decide)]
      · rw [wBeg_0 (hs.w j) (hs.w i) gj gi, Bool.and_false, if_neg (by decide)]
    · by_cases gj : gWd S j = 0
      · rw [if_pos (Or.inr gj), wBeg_0 (hs.w i) (hs.w j) gi gj, Bool.and_false, if_neg (by decide), decide_eq_false (not_not_intro gj), Bool.false_and, if_neg (by decide)]
      · rw [if_neg (show ¬ (gWd S i = 0 ∨ gWd S j = 0) from fun x => x.elim gi gj), if_neg e, decide_eq_true gi, decide_eq_true gj, Bool.true_and, Bool.true_and]
        split
        · rfl
        · split <;> rfl
theorem same_soon (h : EN S F) (hs : Sh n S) (l : Int32) : mqSo F l = qSoon S l := by
  rw [mqSo, qSoon]
  refine ite_c Iff.rfl rfl fun hl => ?_
  obtain ⟨j, hj, rfl⟩ := isL_7 hl
  rw [nI_c7 (by omega), h.w0 j hj, h.sm hs hj, h.ln j hj 5 (by decide) (by decide), h.ln j hj 3 (by decide) (by decide), h.l9 j hj]
  refine ite_c (okW_0 (hs.w j)) rfl fun _ => ?_
  congr 3
  rw [show (gWh (S.1 11) j).isSome = decide ((gWh (S.1 11) j).isSome = true) by simp]
  exact decide_eq_decide.mpr stt_0
theorem sum_r : ∀ (L : List Nat), L.sum = ((List.range L.length).map fun l => L.getD l 0).sum
  | [] => rfl
  | x :: L => by
    rw [List.sum_cons, sum_r L, List.length_cons, List.range_succ_eq_map, List.map_cons, List.sum_cons, List.map_map]
    rfl
theorem EN.sum (h : EN S F) (hs : Sh n S) {w : Nat} (h2 : 2 ≤ w) (h9 : w < 9) : mSm F w 7 = (S.1 (w - 1)).sum := by
  rw [sum_r, hs.l7 (w - 1) (by omega), mSm]
  congr 1
  refine List.map_congr_left fun l hl => ?_
  exact h.ln l (List.mem_range.mp hl) w h2 h9
theorem EN.lens (h : EN S F) : mSm F 0 7 = gLens (S.1 0) 7 := by
  rw [mSm, gLens]
  congr 1
  refine List.map_congr_left fun l hl => ?_
  exact h.w0 l (List.mem_range.mp hl)
theorem map_range_getD {α : Type} (f : Nat → List α) : ∀ L : List Nat, L.flatMap f = (List.range L.length).flatMap fun i => f (L.getD i 0)
  | [] => rfl
  | x :: L => by
    rw [List.flatMap_cons, map_range_getD f L, List.length_cons, List.range_succ_eq_map, List.flatMap_cons, List.flatMap_map]
    rfl
theorem flatMap_congr' {α : Type} {f g : Nat → List α} {k : Nat} (h : ∀ i, i < k → f i = g i) : (List.range k).flatMap f = (List.range k).flatMap g := by
  have key : ∀ L : List Nat, (∀ i ∈ L, f i = g i) → L.flatMap f = L.flatMap g := by
    intro L
    induction L with
    | nil => intro _; rfl
    | cons x L ih =>
      intro hL
      rw [List.flatMap_cons, List.flatMap_cons, hL x (List.mem_cons_self ..), ih fun i hi => hL i (List.mem_cons_of_mem _ hi)]
  exact key _ fun i hi => h i (List.mem_range.mp hi)
theorem same_let (h : EN S F) : mLt F (F 3) = gLet (S.1 11) := by
  rw [mLt, gLet, map_range_getD _ (S.1 11), ← h.c3]
  refine flatMap_congr' fun i hi => ?_
  rw [h.wd i hi]; rfl
theorem same_txt {σ : Sg} (h : EN (gS σ 0) F) (hs : Sh n (gS σ 0)) {l : Nat} (hl : l < 7) : mTx F l = gTx σ l := by
  have hw := hs.w l
  have hz := okW_0 hw
  have e5 : lF F l 5 = (gR σ 0 4).getD l 0 := h.ln l hl 5 (by decide) (by decide)
  have e2 : lF F l 2 = (gR σ 0 1).getD l 0 := h.ln l hl 2 (by decide) (by decide)
  have e3 : lF F l 3 = (gR σ 0 2).getD l 0 := h.ln l hl 3 (by decide) (by decide)
  have ew : wlM (lF F l 1) (lF F l 0) = wl (gWd (gS σ 0) l) (gWd (gS σ 0) l / 64) := by rw [h.w0 l hl, h.w1 l hl]; rfl
  rw [mTx, mTx1, mTx2, gTx, gHd1, gMu, ew, h.w0 l hl, e5, e2, e3]
  show _ = digs l ++ (if gWd (gS σ 0) l = 0 then [] else [58] ++ wl (gWd (gS σ 0) l) (gWd (gS σ 0) l / 64)) ++ [47] ++ _ ++ [42] ++ _ ++ _
  by_cases g : gWd (gS σ 0) l = 0
  · rw [if_pos g, if_pos (hz.mpr g), g]
    simp only [List.append_assoc, List.nil_append]
    rfl
  · rw [if_neg g, if_neg (fun e => g (hz.mp e))]
    simp only [List.append_assoc]
theorem same_acc (h : EN S F) (hs : Sh n S) {μ : Mg} {σ : Sg} (hμ : gA μ 0 = F) (hσ : gS σ 0 = S) (hfed : gN μ 21 = nI (gR σ 11 0).length) (hch : gN μ 5 = gM σ 6) (k : Int32) : mqAc μ (gLet (S.1 11)) k = qAcc σ k := by
  rw [mqAc, qAcc]
  refine ite_c Iff.rfl rfl fun h0 => ite_c Iff.rfl rfl fun h15 => ?_
  obtain ⟨j, hj, rfl⟩ := nI_nat h0
  rw [nI_ltI (by decide) hj] at h15
  have hj16 : j < 16 := by omega
  rw [nI_c7 hj, hσ]
  have hn : ∀ c : Nat, c < 100 → (nI j = nI c ↔ j = c) := fun c hc => nI_eq hj (by omega)
  have hlt : (gLet (S.1 11)).length = ((S.1 11).map fun s => dD s / 64).sum := by
    rw [gLet, List.length_flatMap]
    congr 1
    refine List.map_congr_left fun s _ => ?_
    rw [ltr, List.length_map, List.length_range]
  have e1 : F 1 = (S.1 11).countP fun s => !dX s := by rw [h.c1, hrd, List.countP_eq_length_filter]
  rcases (by omega : j = 14 ∨ j = 15 ∨ (¬ j = 14 ∧ ¬ j = 15)) with rfl | rfl | hne
  · rw [if_pos rfl]; show (0, gN μ 21) = _; rw [hfed]
  · rw [if_neg (by decide), if_pos rfl]; show (0, gN μ 5) = _; rw [hch]
  · rw [if_neg (fun e => hne.1 ((hn 14 (by decide)).mp e)), if_neg (fun e => hne.2 ((hn 15 (by decide)).mp e))]
    have hc : j = 0 ∨ j = 1 ∨ j = 2 ∨ j = 3 ∨ j = 4 ∨ j = 5 ∨ j = 6 ∨ j = 7 ∨ j = 8 ∨ j = 9 ∨ j = 10 ∨ j = 11 ∨ j = 12 ∨ j = 13 := by omega
    congr 1
    rcases hc with rfl | rfl | rfl | rfl | rfl | rfl | rfl | rfl | rfl | rfl | rfl | rfl | rfl | rfl
    · show nI (gA μ 0 0) = _; rw [hμ, h.c0]; rfl
    · show nI (mCn (gA μ 0) 0 7) = _; rw [hμ, h.cn hs]; rfl
    · show nI (mCn (gA μ 0) 5 7) = _; rw [hμ, h.cnm hs]; rfl
    · show nI (gA μ 0 1) = _; rw [hμ, e1]; rfl
    · show nI (gLet (S.1 11)).length = _; rw [hlt]; rfl
    · show nI (gA μ 0 2) = _; rw [hμ, h.c2]; rfl
    · show nI (gA μ 0 4) = _; rw [hμ, h.c4]; rfl
    · show nI (gA μ 0 5) = _; rw [hμ, h.c5]; rfl
    · show nI (gA μ 0 6) = _; rw [hμ, h.c6]; rfl
    · show nI (gA μ 0 7) = _; rw [hμ, h.c7]; rfl
    · show nI (gA μ 0 8) = _; rw [hμ, h.c8]; rfl
    · show nI (mSm (gA μ 0) 3 7) = _; rw [hμ, h.sum hs (by decide) (by decide)]; rfl
    · show nI (mSm (gA μ 0) 4 7) = _; rw [hμ, h.sum hs (by decide) (by decide)]; rfl
    · show nI (gA μ 0 9) = _; rw [hμ, h.c9]; rfl
/-- the j-th of those that pass, and how many passed before -/
theorem filt_at {p : Nat → Bool} : ∀ (L : List Nat) (j : Nat), j < (L.filter p).length → ∃ i, i < L.length ∧ p (L.getD i 0) = true ∧ (L.take i).countP p = j ∧ L.getD i 0 = (L.filter p).getD j 0
  | [], j, hj => absurd hj (Nat.not_lt_zero _)
  | x :: L, j, hj => by
    by_cases hp : p x = true
    · rw [List.filter_cons_of_pos hp] at hj ⊢
      cases j with
      | zero => exact ⟨0, Nat.succ_pos _, hp, rfl, rfl⟩
      | succ j =>
        obtain ⟨i, hi, h1, h2, h3⟩ := filt_at (p := p) L j (by simpa using hj)
        refine ⟨i + 1, Nat.succ_lt_succ hi, h1, ?_, h3⟩
        rw [List.take_succ_cons, List.countP_cons_of_pos hp, h2]
    · rw [List.filter_cons_of_neg hp] at hj ⊢
      obtain ⟨i, hi, h1, h2, h3⟩ := filt_at (p := p) L j hj
      refine ⟨i + 1, Nat.succ_lt_succ hi, h1, ?_, h3⟩
      rw [List.take_succ_cons, List.countP_cons_of_neg hp, h2]
theorem cnt_take {p : Nat → Bool} (L : List Nat) {i k : Nat} (hi : i < L.length) (hp : p (L.getD i 0) = true) (hk : i < k) : (L.take i).countP p < (L.take k).countP p := by
  have h1 : (L.take (i + 1)).countP p = (L.take i).countP p + 1 := by
    rw [take_s hi, List.countP_append, List.countP_cons_of_pos hp]; rfl
  have h2 : (L.take (i + 1)).countP p ≤ (L.take k).countP p := by
    have e : L.take (i + 1) = (L.take k).take (i + 1) := by rw [List.take_take, Nat.min_eq_left (by omega)]
    rw [e]
    exact List.Sublist.countP_le (List.take_sublist _ _)
  omega
theorem same_heard (h : EN S F) (h1 : F 1 < 2 ^ 20) (p k : Int32) : mqHd F p k = qHeard S p k := by
  have hlen : (S.1 11).countP (fun s => !dX s) = F 1 := by rw [h.c1, hrd, List.countP_eq_length_filter]
  have hcle : ∀ i, ((S.1 11).take i).countP (fun s => !dX s) ≤ F 1 := fun i => by rw [← hlen]; exact List.Sublist.countP_le (List.take_sublist _ _)
  rw [mqHd, qHeard]
  by_cases hp : inI p (nI 0) (nI (F 1) - nI 1) = false
  · rw [if_pos hp]
    have e : gHd (S.1 11) p = none := by
      rw [gHd, List.find?_eq_none]
      intro i hi hx
      have hi2 := List.mem_range.mp hi
      rw [Bool.and_eq_true, decide_eq_true_eq] at hx
      have hlt := cnt_take (p := fun s => !dX s) (S.1 11) hi2 hx.1 (show i < i + 1 by omega)
      have h4 := hcle (i + 1)
      obtain ⟨m, hm⟩ : ∃ m, F 1 = m + 1 := ⟨F 1 - 1, by omega⟩
      rw [← hx.2, hm, n_sub (by omega), Nat.add_sub_cancel, inI_f] at hp
      rcases hp with hp | hp
      · exact absurd hp (nI_pos (by omega))
      · rw [nI_ltI (by omega) (by omega)] at hp; omega
    rw [e]
  · rw [if_neg hp]
    obtain ⟨j, hj, rfl⟩ := inI_tl (n := F 1) (by omega) (show inI p (nI 0) (nI (F 1) - nI 1) = true by simpa using hp)
    obtain ⟨i, hi, g1, g2, g3⟩ := filt_at (p := fun s => !dX s) (S.1 11) j (by rw [← List.countP_eq_length_filter, hlen]; exact hj)
    have e : gHd (S.1 11) (nI j) = some i := by
      rw [gHd, List.find?_range_eq_some]
      refine ⟨?_, List.mem_range.mpr hi, fun i' hi' => ?_⟩
      · rw [g2]; simpa using g1
      · have key : ¬ (((!dX ((S.1 11).getD i' 0)) && decide (nI (((S.1 11).take i').countP fun s => !dX s) = nI j)) = true) := by
          intro hx
          rw [Bool.and_eq_true, decide_eq_true_eq, nI_eq (by have := hcle i'; omega) (by omega)] at hx
          have := cnt_take (p := fun s => !dX s) (S.1 11) (show i' < (S.1 11).length by omega) hx.1 hi'
          omega
        rw [Bool.eq_false_iff.mpr key]; rfl
    rw [e]
    show _ = if k < 0 then (2, 0) else if nI 4 < k then (2, 0) else (0, gSn ((S.1 11).getD i 0) k.toNatClampNeg)
    refine ite_c Iff.rfl rfl fun hk0 => ite_c Iff.rfl rfl fun hk4 => ?_
    have ec : F (110 + j) = cvS ((S.1 11).getD i 0) := by rw [h.hd j hj, g3]; rfl
    rw [nI_c7 (by omega), ec, mSn, gSn, cvS_t, cvS_w, cvS_e, cvS_n, cvS_b]
end W68
