/-! BOTH TOGETHER: an input read -/
section W99
variable {G : En} {Λ : Ob → Nat} {S S' : St} {F F' : Nat → Nat} {n m z : Nat} {σ σ2 : Sg} {μ μ2 : Mg} {L : List Nat}
theorem j_pe (h : JR n σ μ) : PE (gR σ 11 0) (gA μ 9) (rdP σ) (rdY μ (gR σ 11 0)) := par_pe rfl h.t.fc
theorem j_val (h : JR n σ μ) : ∀ i, i < (rdY μ (gR σ 11 0)).2.1 → isK ((rdY μ (gR σ 11 0)).2.2 i) = true ∧ ((rdP σ).2.1.1 1).getD i 0 = (rdY μ (gR σ 11 0)).2.2 i ∧ OV ((rdY μ (gR σ 11 0)).2.2 i) (((rdP σ).2.1.1 2).getD i 0) (((rdP σ).2.1.1 3).getD i 0) ((rdY μ (gR σ 11 0)).1.2.2 (3 * i)) ((rdY μ (gR σ 11 0)).1.2.2 (3 * i + 1)) ((rdY μ (gR σ 11 0)).1.2.2 (3 * i + 2)) := (j_pe h).s.o
theorem j_len (h : JR n σ μ) : ((rdP σ).2.1.1 1).length = (rdY μ (gR σ 11 0)).2.1 := (j_pe h).s.l1
theorem j_wr (h : JR n σ μ) : (rdP σ).1 = true ↔ rdW μ (gR σ 11 0) = false := (j_pe h).v
/-- what the class needs -/
theorem j_cls (h : JR n σ μ) (hn : n + 5000 ≤ 2 ^ 24) : (∀ i S, i ≤ ((rdP σ).2.1.1 1).length → (∃ F, EN S F ∧ Iv (n + 150 * i) S) → OKS S) ∧ (∀ i S, i < ((rdP σ).2.1.1 1).length → (∃ F, EN S F ∧ Iv (n + 150 * i) S) → (fOrd S (((rdP σ).2.1.1 1).getD i 0) (((rdP σ).2.1.1 2).getD i 0) (((rdP σ).2.1.1 3).getD i 0)).1 = 0 → ∃ F, EN (oOrd S (((rdP σ).2.1.1 1).getD i 0) (((rdP σ).2.1.1 2).getD i 0) (((rdP σ).2.1.1 3).getD i 0)) F ∧ Iv (n + 150 * (i + 1)) (oOrd S (((rdP σ).2.1.1 1).getD i 0) (((rdP σ).2.1.1 2).getD i 0) (((rdP σ).2.1.1 3).getD i 0))) := by
  have hm := (j_pe h).m
  rw [j_len h]
  refine ⟨fun i S hi ⟨F, hE, hI⟩ => hI.sh.oks hI.so (by omega), fun i S hi ⟨F, hE, hI⟩ hf => ?_⟩
  obtain ⟨v1, v2, v3⟩ := j_val h i hi
  rw [v2] at hf ⊢
  obtain ⟨e1, e2⟩ := st_all hE hI v1 v3 hf
  exact ⟨_, e1, by rw [show n + 150 * (i + 1) = n + 150 * i + 150 by omega]; exact e2⟩
theorem j_mod (h : JR n σ μ) (hn : n + 5000 ≤ 2 ^ 24) : (∀ k F, k ≤ (rdY μ (gR σ 11 0)).2.1 → (∃ S, EN S F ∧ Iv (n + 150 * k) S) → OKF F) ∧ (∀ k F, k < (rdY μ (gR σ 11 0)).2.1 → (∃ S, EN S F ∧ Iv (n + 150 * k) S) → (mCo F ((rdY μ (gR σ 11 0)).2.2 k) ((rdY μ (gR σ 11 0)).1.2.2 (3 * k)) ((rdY μ (gR σ 11 0)).1.2.2 (3 * k + 1)) ((rdY μ (gR σ 11 0)).1.2.2 (3 * k + 2))).1 = 0 → ∃ S, EN S (mCF F ((rdY μ (gR σ 11 0)).2.2 k) ((rdY μ (gR σ 11 0)).1.2.2 (3 * k)) ((rdY μ (gR σ 11 0)).1.2.2 (3 * k + 1)) ((rdY μ (gR σ 11 0)).1.2.2 (3 * k + 2))) ∧ Iv (n + 150 * (k + 1)) S) := by
  have hm := (j_pe h).m
  refine ⟨fun i F hi ⟨S, hE, hI⟩ => hE.okf hI.sh hI.so (by omega) hI.h12 hI.h11, fun i F hi ⟨S, hE, hI⟩ hf => ?_⟩
  obtain ⟨v1, v2, v3⟩ := j_val h i hi
  have hR := rel_all hE hI.sh v1 v3
  obtain ⟨e1, e2⟩ := st_all hE hI v1 v3 (hR.2.mpr hf)
  exact ⟨_, e1, by rw [show n + 150 * (i + 1) = n + 150 * i + 150 by omega]; exact e2⟩
theorem j_kok (h : JR n σ μ) : ∀ k, k < (rdY μ (gR σ 11 0)).2.1 → kOk ((rdY μ (gR σ 11 0)).2.2 k) ((rdY μ (gR σ 11 0)).1.2.2 (3 * k)) ((rdY μ (gR σ 11 0)).1.2.2 (3 * k + 1)) ((rdY μ (gR σ 11 0)).1.2.2 (3 * k + 2)) := fun k hk => by
  obtain ⟨v1, v2, v3⟩ := j_val h k hk
  have hb := (j_pe h).b h.t.n9
  exact kOk_of v1 v3 (hb _) (hb _) (hb _)
theorem j_ex (h : JR n σ μ) : ((rdR σ).2 = none ∧ (rdE μ (gR σ 11 0)).2 = none ∧ EN (rdR σ).1 (rdE μ (gR σ 11 0)).1 ∧ Iv (n + 5000) (rdR σ).1) ∨ ∃ j f g, (rdR σ).2 = some (j, f) ∧ (rdE μ (gR σ 11 0)).2 = some (j, g) ∧ f.2 = g.2 ∧ f.1 ≠ 0 ∧ g.1 ≠ 0 ∧ j < (rdY μ (gR σ 11 0)).2.1 := by
  have hm := (j_pe h).m
  have := ex_rel (j_val h) (rdY μ (gR σ 11 0)).2.1 0 (gS σ 0) (gA μ 0) n (Nat.zero_add _) h.en h.iv
  rw [← j_len h] at this
  rcases this with ⟨a, b, c, d⟩ | g
  · rw [j_len h] at a b c d
    refine Or.inl ⟨?_, b, ?_, ?_⟩
    · rw [rdR, j_len h]; exact a
    · rw [rdR, j_len h]; exact c
    · rw [rdR, j_len h]; exact d.up (by omega)
  · obtain ⟨j, f, g', a, b, c, d, e, k⟩ := g
    refine Or.inr ⟨j, f, g', ?_, ?_, c, d, e, by rw [← j_len h]; exact k⟩
    · rw [rdR]; exact a
    · rw [j_len h] at b; exact b
/-- the two after the input is parsed: the input is gone -/
theorem nuR_A {i : Nat} (h1 : i ≠ 1) (h8 : i ≠ 8) (h9 : i ≠ 9) : gA (nuR μ L) i = gA μ i := by
  show gA (pX (nuM (muR (bgM μ) L) _ _) _) i = _
  rw [pX_a h9, nuM, gA_sNe, gA_n h8, muR, gA_sNe, gA_sNe, bgM, gA_n h1, gA_sNe]
theorem nuR_N {k : Nat} (h4 : k ≠ 4) (h21 : k ≠ 21) (h22 : k ≠ 22) (h23 : k ≠ 23) (h24 : k ≠ 24) (h25 : k ≠ 25) : gN (nuR μ L) k = gN μ k := by
  show gN (pX (nuM (muR (bgM μ) L) _ _) _) k = _
  rw [pX_k h23 h25, nuM, gN_sNn h24, gN_sA, muR, gN_sNn h21, gN_sNn h22, gN_bg h4]
theorem nuR_21 : gN (nuR μ L) 21 = nI 0 := by
  show gN (pX (nuM (muR (bgM μ) L) _ _) _) 21 = _
  rw [pX_k (by decide) (by decide), nuM, gN_sNn (by decide), gN_sA, muR, gN_sNs]
theorem nuR_4 : gN (nuR μ L) 4 = nI 0 := by
  show gN (pX (nuM (muR (bgM μ) L) _ _) _) 4 = _
  rw [pX_k (by decide) (by decide), nuM, gN_sNn (by decide), gN_sA, muR, gN_sNn (by decide), gN_sNn (by decide)]; rfl
theorem rdS_M {j : Nat} (h7 : j ≠ 7) (h8 : j ≠ 8) (h9 : j ≠ 9) : gM (rdS σ) j = gM σ j := by
  rw [rdS, iS, gM_sM, if_neg h9, gM_sM, if_neg h8, gM_sM, if_neg h7, gM_sS]
theorem rdS_7 : gM (rdS σ) 7 = nI (rdP σ).2.2.1 := by
  rw [rdS, iS, gM_sM, if_neg (by decide), gM_sM, if_neg (by decide), gM_sM, if_pos rfl]
theorem rdS_in : gR (rdS σ) 11 0 = [] := by
  show gR (sS σ 11 (uR (rdP σ).2.1 0 [])) 11 0 = _
  rw [gR_s, uR_b]
theorem j_nu (h : JR n σ μ) : JR n (rdS σ) (nuR μ (gR σ 11 0)) := by
  refine JR.mk (by rw [rdS_0 0 (by decide), nuR_A (by decide) (by decide) (by decide)]; exact h.en) (by rw [rdS_0 0 (by decide)]; exact h.iv) (h.hs.same (rdS_M (by decide) (by decide) (by decide)) (rdS_M (by decide) (by decide) (by decide)) (fun a _ h11 => rdS_0 a (by omega)) (nuR_N (by decide) (by decide) (by decide) (by decide) (by decide) (by decide)) (nuR_A (by decide) (by decide) (by decide))) (h.sv.same (rdS_M (by decide) (by decide) (by decide)) (rdS_0 2 (by decide)) (nuR_N (by decide) (by decide) (by decide) (by decide) (by decide) (by decide)) (nuR_A (by decide) (by decide) (by decide))) ?_
  have eN : ∀ k, k = 8 ∨ k = 9 ∨ k = 10 ∨ k = 11 ∨ k = 17 → gN (nuR μ (gR σ 11 0)) k = gN μ k := fun k hk => nuR_N (by omega) (by omega) (by omega) (by omega) (by omega) (by omega)
  refine JT.mk ?_ ?_ ?_ ?_ ?_ ?_ h.t.tn h.t.tx h.t.ck ?_ ?_ ?_ ?_ ⟨_, rdS_7⟩ (by rw [nuR_9]; exact (j_pe h).b h.t.n9)
  · rw [rdS_M (by decide) (by decide) (by decide), eN 10 (by decide)]; exact h.t.er
  · rw [rdS_M (by decide) (by decide) (by decide), eN 11 (by decide)]; exact h.t.it
  · rw [rdS_M (by decide) (by decide) (by decide), eN 8 (by decide)]; exact h.t.rf
  · rw [rdS_M (by decide) (by decide) (by decide), eN 9 (by decide)]; exact h.t.dt
  · rw [eN 17 (by decide)]; exact h.t.tl
  · rw [nuR_A (by decide) (by decide) (by decide)]; exact h.t.tt
  · rw [nuR_21, rdS_in]; rfl
  · rw [rdS_in]; exact fun j hj => absurd hj (Nat.not_lt_zero j)
  · rw [rdS_in]; exact Nat.zero_le _
  · rw [rdS_in]; exact fun x hx => absurd hx List.not_mem_nil
/-- malformed -/
theorem j_wrong (h : JR n σ μ) : JR n (sM (rdS σ) 1 (nI (rdP σ).2.2.1)) (rdWr μ (gR σ 11 0)) ∧ gN (rdWr μ (gR σ 11 0)) 4 = nI 1 := by
  have g := j_nu h
  have eM : ∀ j, j ≠ 1 → gM (sM (rdS σ) 1 (nI (rdP σ).2.2.1)) j = gM (rdS σ) j := fun j hj => by rw [gM_sM, if_neg hj]
  have eN : ∀ k, k ≠ 10 → k ≠ 4 → gN (rdWr μ (gR σ 11 0)) k = gN (nuR μ (gR σ 11 0)) k := fun k h10 h4 => by rw [rdWr, gN_sNn h4, gN_sNn h10]
  refine ⟨JR.mk g.en g.iv (g.hs.same (eM 5 (by decide)) (eM 6 (by decide)) (fun _ _ _ => rfl) (eN 5 (by decide) (by decide)) rfl) (g.sv.same (eM 0 (by decide)) rfl (eN 12 (by decide) (by decide)) rfl) ?_, gN_sNs⟩
  refine JT.mk ?_ ?_ ?_ ?_ ?_ g.t.tt g.t.tn g.t.tx g.t.ck ?_ g.t.ft g.t.fc g.t.fd ⟨_, (eM 7 (by decide)).trans rdS_7⟩ g.t.n9
  · rw [gM_sM, if_pos rfl, rdWr, gN_sNn (by decide), gN_sNs, (j_pe h).q]
  · rw [eM 2 (by decide), eN 11 (by decide) (by decide)]; exact g.t.it
  · rw [eM 3 (by decide), eN 8 (by decide) (by decide)]; exact g.t.rf
  · rw [eM 4 (by decide), eN 9 (by decide) (by decide)]; exact g.t.dt
  · rw [eN 17 (by decide) (by decide)]; exact g.t.tl
  · rw [eN 21 (by decide) (by decide)]; exact g.t.fl
/-- an order refused, or with an element that there isn't -/
theorem fR_S {x : Option (Int32 × Int32)} {a : Nat} : gS (fR σ x) a = gS σ a := by
  cases x with
  | none => rfl
  | some r => rfl
theorem fR_M {x : Option (Int32 × Int32)} {j : Nat} (h3 : j ≠ 3) (h4 : j ≠ 4) : gM (fR σ x) j = gM σ j := by
  cases x with
  | none => rfl
  | some r => rw [fR, gM_sM, if_neg h4, gM_sM, if_neg h3]
theorem fR_T {x : Option (Int32 × Int32)} : gT (fR σ x) = gT σ ∧ gC (fR σ x) = gC σ := by
  cases x with
  | none => exact ⟨rfl, rfl⟩
  | some r => exact ⟨rfl, rfl⟩
theorem j_ref (h : JR n σ μ) {i : Nat} {x : Option (Int32 × Int32)} (hE : gA μ2 0 = gA μ 0) (hA : ∀ a, a ≠ 0 → gA μ2 a = gA (nuR μ (gR σ 11 0)) a) (hN : ∀ k, k = 5 ∨ k = 10 ∨ k = 12 ∨ k = 17 ∨ k = 21 → gN μ2 k = gN (nuR μ (gR σ 11 0)) k) (h11 : gN μ2 11 = nI i) (hx : match x with
    | none => gN μ2 8 = gN (nuR μ (gR σ 11 0)) 8 ∧ gN μ2 9 = gN (nuR μ (gR σ 11 0)) 9
    | some y => gN μ2 8 = y.1 ∧ gN μ2 9 = y.2) : JR n (sM (sS (fR (rdN σ) x) 0 (gS σ 0)) 2 (nI i)) μ2 := by
  have g := j_nu h
  have eS : ∀ a, a ≠ 0 → a ≠ 1 → gS (sM (sS (fR (rdN σ) x) 0 (gS σ 0)) 2 (nI i)) a = gS (rdS σ) a := fun a h0 h1 => by rw [gS_sM, gS_ne h0, fR_S, rdN, gS_ne h1]
  have eM : ∀ j, j ≠ 2 → j ≠ 3 → j ≠ 4 → gM (sM (sS (fR (rdN σ) x) 0 (gS σ 0)) 2 (nI i)) j = gM (rdS σ) j := fun j h2 h3 h4 => by rw [gM_sM, if_neg h2, gM_sS, fR_M h3 h4, rdN, gM_sS]
  have eR : gR (sM (sS (fR (rdN σ) x) 0 (gS σ 0)) 2 (nI i)) 11 0 = gR (rdS σ) 11 0 := by rw [gR_gS, eS 11 (by decide) (by decide)]; rfl
  have eT : gT (sM (sS (fR (rdN σ) x) 0 (gS σ 0)) 2 (nI i)) = gT (rdS σ) := (fR_T (σ := rdN σ) (x := x)).1
  have eC : gC (sM (sS (fR (rdN σ) x) 0 (gS σ 0)) 2 (nI i)) = gC (rdS σ) := (fR_T (σ := rdN σ) (x := x)).2
  refine JR.mk (by rw [gS_sM, gS_sS, hE]; exact h.en) (by rw [gS_sM, gS_sS]; exact h.iv) (g.hs.same (eM 5 (by decide) (by decide) (by decide)) (eM 6 (by decide) (by decide) (by decide)) (fun a h3 _ => eS a (by omega) (by omega)) (hN 5 (by decide)) (hA 3 (by decide))) (g.sv.same (eM 0 (by decide) (by decide) (by decide)) (eS 2 (by decide) (by decide)) (hN 12 (by decide)) (hA 2 (by decide))) ?_
  refine JT.mk ?_ ?_ ?_ ?_ ?_ ?_ ?_ ?_ ?_ ?_ ?_ ?_ ?_ ⟨_, (eM 7 (by decide) (by decide) (by decide)).trans rdS_7⟩ (by rw [hA 9 (by decide)]; exact g.t.n9)
  · rw [eM 1 (by decide) (by decide) (by decide), hN 10 (by decide)]; exact g.t.er
  · rw [gM_sM, if_pos rfl, h11]
  · rw [gM_sM, if_neg (by decide), gM_sS]
    cases x with
    | none => rw [hx.1]; exact g.t.rf
    | some y => rw [hx.1, fR, gM_sM, if_neg (by decide), gM_sM, if_pos rfl]
  · rw [gM_sM, if_neg (by decide), gM_sS]
    cases x with
    | none => rw [hx.2]; exact g.t.dt
    | some y => rw [hx.2, fR, gM_sM, if_pos rfl]
  · rw [eT, hN 17 (by decide)]; exact g.t.tl
  · rw [eT, hA 6 (by decide)]; exact g.t.tt
  · rw [eT]; exact g.t.tn
  · rw [eT]; exact g.t.tx
  · rw [eC]; exact g.t.ck
  · rw [eR, hN 21 (by decide)]; exact g.t.fl
  · rw [eR, hA 7 (by decide)]; exact g.t.ft
  · rw [eR]; exact g.t.fc
  · rw [eR]; exact g.t.fd
theorem j_el (h : JR n σ μ) {i : Nat} {F1 : Nat → Nat} : JR n (sM (sS (fR (rdN σ) none) 0 (gS σ 0)) 2 (nI i)) (rdEl μ (gR σ 11 0) F1 i) ∧ gN (rdEl μ (gR σ 11 0) F1 i) 4 = nI 2 := by
  have eN : ∀ k, k ≠ 4 → k ≠ 11 → k ≠ 26 → gN (rdEl μ (gR σ 11 0) F1 i) k = gN (nuR μ (gR σ 11 0)) k := fun k h4 h11 h26 => by rw [rdEl, gN_sNn h4, gN_sNn h11, gN_sA, gN_sNn h26]
  refine ⟨j_ref h (x := none) (by rw [rdEl, gA_sNe, gA_sNe, gA_s]) (fun a ha => by rw [rdEl, gA_sNe, gA_sNe, gA_n ha, gA_sNe]) (fun k hk => eN k (by omega) (by omega) (by omega)) (by rw [rdEl, gN_sNn (by decide), gN_sNs]) ⟨eN 8 (by decide) (by decide) (by decide), eN 9 (by decide) (by decide) (by decide)⟩, gN_sNs⟩
theorem j_rf (h : JR n σ μ) {i : Nat} {x : Int32 × Int32} : JR n (sM (sS (fR (rdN σ) (some x)) 0 (gS σ 0)) 2 (nI i)) (rdRf μ (gR σ 11 0) i x) ∧ gN (rdRf μ (gR σ 11 0) i x) 4 = nI 2 := by
  have eN : ∀ k, k ≠ 4 → k ≠ 6 → k ≠ 7 → k ≠ 8 → k ≠ 9 → k ≠ 11 → k ≠ 26 → gN (rdRf μ (gR σ 11 0) i x) k = gN (nuR μ (gR σ 11 0)) k := fun k h4 h6 h7 h8 h9 h11 h26 => by rw [rdRf, gN_sNn h4, gN_sNn h9, gN_sNn h8, gN_sNn h11, gN_sNn h7, gN_sNn h6, gN_sA, gN_sNn h26]
  refine ⟨j_ref h (x := some x) (by rw [rdRf, gA_sNe, gA_sNe, gA_sNe, gA_sNe, gA_sNe, gA_sNe, gA_s]) (fun a ha => by rw [rdRf, gA_sNe, gA_sNe, gA_sNe, gA_sNe, gA_sNe, gA_sNe, gA_n ha, gA_sNe]) (fun k hk => eN k (by omega) (by omega) (by omega) (by omega) (by omega) (by omega) (by omega)) (by rw [rdRf, gN_sNn (by decide), gN_sNn (by decide), gN_sNn (by decide), gN_sNs]) ⟨by rw [rdRf, gN_sNn (by decide), gN_sNn (by decide), gN_sNs], by rw [rdRf, gN_sNn (by decide), gN_sNs]⟩, gN_sNs⟩
/-- all orders carried out -/
theorem j_read (h : JR n σ μ) {o : Nat} (ho8 : o < 8) (hz8 : z ≤ 8) (ho : gM σ 5 = nI o) (hz6 : gM σ 6 = nI z) (hE : EN S' F') (hi : Iv m S') (hm : n ≤ m) {v : Int32} : JR m (hPush (sS (rdN σ) 0 S') o z 1) (kpM (sA (sN (nuR μ (gR σ 11 0)) 26 v) 0 F') z) ∧ gN (kpM (sA (sN (nuR μ (gR σ 11 0)) 26 v) 0 F') z) 4 = nI 0 := by
  have g := j_nu h
  have gm := g.up hm
  obtain ⟨o', z', a, b, c, d, e, f⟩ := g.hs
  have d0 : gM (rdS σ) 6 = nI z := (rdS_M (by decide) (by decide) (by decide)).trans hz6
  have c0 : gM (rdS σ) 5 = nI o := (rdS_M (by decide) (by decide) (by decide)).trans ho
  have ez : z' = z := by
    have := congrArg Int32.toNatClampNeg (d.symm.trans d0)
    rw [nI_c7 (by omega), nI_c7 (by omega)] at this; exact this
  have eo : o' = o := by
    have := congrArg Int32.toNatClampNeg (c.symm.trans c0)
    rw [nI_c7 (by omega), nI_c7 (by omega)] at this; exact this
  subst ez; subst eo
  have eS : ∀ a, a ≠ 0 → a ≠ 1 → gS (sS (rdN σ) 0 S') a = gS (rdS σ) a := fun a h0 h1 => by rw [gS_ne h0, rdN, gS_ne h1]
  have e1 : gS (sS (rdN σ) 0 S') 1 = gS σ 0 := by rw [gS_ne (by decide), rdN, gS_sS]
  have hA : ∀ i, i ≠ 0 → i ≠ 3 → gA (kpM (sA (sN (nuR μ (gR σ 11 0)) 26 v) 0 F') z') i = gA (nuR μ (gR σ 11 0)) i := fun i h0 h3 => by rw [kpM, gA_sNe, gA_n h3, gA_n h0, gA_sNe]
  have hA0 : gA (kpM (sA (sN (nuR μ (gR σ 11 0)) 26 v) 0 F') z') 0 = F' := by rw [kpM, gA_sNe, gA_n (by decide), gA_s]
  have hn1 : gA (nuR μ (gR σ 11 0)) 1 = gA μ 0 := by
    show gA (pX (nuM (muR (bgM μ) (gR σ 11 0)) _ _) _) 1 = _
    rw [pX_a (by decide), nuM, gA_sNe, gA_n (by decide), muR, gA_sNe, gA_sNe, bgM, gA_s]
  have hA3 : gA (kpM (sA (sN (nuR μ (gR σ 11 0)) 26 v) 0 F') z') 3 = kpF (gA μ 0) (gA (nuR μ (gR σ 11 0)) 3) z' := by
    rw [kpM, gA_sNe, gA_s, gA_n (by decide), gA_n (by decide), gA_sNe, hn1]; rfl
  have hN : ∀ k, k ≠ 5 → k ≠ 26 → gN (kpM (sA (sN (nuR μ (gR σ 11 0)) 26 v) 0 F') z') k = gN (nuR μ (gR σ 11 0)) k := fun k h5 h26 => by rw [kpM, gN_sNn h5, gN_sA, gN_sA, gN_sNn h26]
  have hM : ∀ j, j ≠ 5 → j ≠ 6 → gM (hPush (sS (rdN σ) 0 S') o' z' 1) j = gM (rdS σ) j := fun j h5 h6 => by rw [hP_M h5 h6, gM_sS, rdN, gM_sS]
  have hH : HS n (hPush (sS (rdN σ) 0 S') o' z' 1) (kpM (sA (sN (nuR μ (gR σ 11 0)) 26 v) 0 F') z') := by
    refine hs_push (T := gA (nuR μ (gR σ 11 0)) 3) (F := gA μ 0) c0 a b d0 (fun i hi => ?_) (by rw [e1]; exact h.en) (by rw [e1]; exact h.iv) (by rw [kpM, gN_sNs]) hA3
    rw [eS _ (by omega) (by omega)]; exact f i hi
  refine ⟨JR.mk ?_ ?_ (hH.up hm) (gm.sv.same (hM 0 (by decide) (by decide)) ?_ (hN 12 (by decide) (by decide)) (hA 2 (by decide) (by decide))) (gm.t.same (fun j hj => hM j (by omega) (by omega)) hP_T hP_C ?_ (fun k hk => hN k (by omega) (by omega)) fun i hi => hA i (by omega) (by omega)), by rw [hN 4 (by decide) (by decide), nuR_4]⟩
  · rw [hP_S (Or.inl (by decide)), gS_sS, hA0]; exact hE
  · rw [hP_S (Or.inl (by decide)), gS_sS]; exact hi
  · rw [hP_S (Or.inl (by decide)), eS 2 (by decide) (by decide)]
  · rw [gR_gS, hP_S (Or.inr (by decide)), eS 11 (by decide) (by decide)]; rfl
end W99
