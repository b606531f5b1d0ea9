/-! ONE INPUT, TWICE: what the orders do -/
section W89
variable {S : St} {F : Nat → Nat} {L : List Nat} {N K : Nat → Nat} {n l s a b k : Nat}
def FR (f g : Fl) : Prop := f.2 = g.2 ∧ (f.1 = 0 ↔ g.1 = 0)
theorem FR.r {f : Fl} : FR f f := ⟨rfl, Iff.rfl⟩
theorem FR_12 : FR (1, none) (2, none) := ⟨rfl, ⟨fun e => absurd e (show ¬ (1 : Nat) = 0 by decide), fun e => absurd e (show ¬ (2 : Nat) = 0 by decide)⟩⟩
theorem wd_all : ∀ b, b < 7 → 1 ≤ b → ∀ k, k < 64 → k < 2 ^ b → isWd (nI b) (nI k) = true := by decide +kernel
theorem in_9 : ∀ b, b < 10 → inI (nI b) (nI 0) (nI 9) = true := by decide +kernel
theorem nI_inj7 : ∀ a, a < 7 → ∀ b, b < 7 → nI a = nI b → a = b := by decide +kernel
theorem isL_l (h : isL (nI a) = true) (ha : a ≤ 9) : a < 7 := (show ∀ a, a < 10 → isL (nI a) = true → a < 7 by decide +kernel) a (by omega) h
theorem cf_115 : mCF F 115 a b k = tellF F a b k := (if_neg (by decide)).trans <| if_pos rfl
theorem cf_117 : mCF F 117 a b k = tellF F a 0 0 := (if_neg (by decide)).trans <| (if_neg (by decide)).trans <| if_pos rfl
theorem cf_112 : mCF F 112 a b k = uL F a 2 b := (if_neg (by decide)).trans <| (if_neg (by decide)).trans <| (if_neg (by decide)).trans <| if_pos rfl
theorem cf_119 : mCF F 119 a b k = whF F a := (if_neg (by decide)).trans <| (if_neg (by decide)).trans <| (if_neg (by decide)).trans <| (if_neg (by decide)).trans <| if_pos rfl
theorem cf_108 : mCF F 108 a b k = liF F a b := (if_neg (by decide)).trans <| (if_neg (by decide)).trans <| (if_neg (by decide)).trans <| (if_neg (by decide)).trans <| (if_neg (by decide)).trans <| if_pos rfl
theorem cf_120 : mCF F 120 a b k = exF F a (mAt F a) := (if_neg (by decide)).trans <| (if_neg (by decide)).trans <| (if_neg (by decide)).trans <| (if_neg (by decide)).trans <| (if_neg (by decide)).trans <| (if_neg (by decide)).trans <| if_pos rfl
theorem cf_109 : mCF F 109 a b k = uL F a 5 b := (if_neg (by decide)).trans <| (if_neg (by decide)).trans <| (if_neg (by decide)).trans <| (if_neg (by decide)).trans <| (if_neg (by decide)).trans <| (if_neg (by decide)).trans <| (if_neg (by decide)).trans <| if_pos rfl
theorem cf_102 : mCF F 102 a b k = payF F a := (if_neg (by decide)).trans <| (if_neg (by decide)).trans <| (if_neg (by decide)).trans <| (if_neg (by decide)).trans <| (if_neg (by decide)).trans <| (if_neg (by decide)).trans <| (if_neg (by decide)).trans <| (if_neg (by decide)).trans <| rfl
theorem cf_104 : mCF F 104 a b k = gbF F (mWv F (mBest F)) := if_pos rfl
theorem co_115 (h : isL (nI a) = true) : mCo F 115 a b k = mFl (mrSign F b k) := (if_neg (by decide)).trans <| (if_neg (by rw [h]; decide)).trans <| if_pos rfl
theorem co_115x (h : isL (nI a) = false) : mCo F 115 a b k = (2, none) := (if_neg (by decide)).trans <| if_pos h
theorem co_117 (h : isL (nI a) = true) : mCo F 117 a b k = mFl (mrNo F a) := (if_neg (by decide)).trans <| (if_neg (by rw [h]; decide)).trans <| (if_neg (by decide)).trans <| if_pos rfl
theorem co_117x (h : isL (nI a) = false) : mCo F 117 a b k = (2, none) := (if_neg (by decide)).trans <| if_pos h
theorem co_112 (h : isL (nI a) = true) : mCo F 112 a b k = mFl (mrPri F a b) := (if_neg (by decide)).trans <| (if_neg (by rw [h]; decide)).trans <| (if_neg (by decide)).trans <| (if_neg (by decide)).trans <| if_pos rfl
theorem co_112x (h : isL (nI a) = false) : mCo F 112 a b k = (2, none) := (if_neg (by decide)).trans <| if_pos h
theorem co_119 (h : isL (nI a) = true) : mCo F 119 a b k = mFl (mrHu F a a 1) := (if_neg (by decide)).trans <| (if_neg (by rw [h]; decide)).trans <| (if_neg (by decide)).trans <| (if_neg (by decide)).trans <| (if_neg (by decide)).trans <| if_pos rfl
theorem co_119x (h : isL (nI a) = false) : mCo F 119 a b k = (2, none) := (if_neg (by decide)).trans <| if_pos h
theorem co_108 (h : isL (nI a) = true) : mCo F 108 a b k = (if isL (nI b) = false ∨ a = b then (2, none) else mFl (mrHu F a b 2)) := (if_neg (by decide)).trans <| (if_neg (by rw [h]; decide)).trans <| (if_neg (by decide)).trans <| (if_neg (by decide)).trans <| (if_neg (by decide)).trans <| (if_neg (by decide)).trans <| if_pos rfl
theorem co_108x (h : isL (nI a) = false) : mCo F 108 a b k = (2, none) := (if_neg (by decide)).trans <| if_pos h
theorem co_120 (h : isL (nI a) = true) : mCo F 120 a b k = mFl (mrXp F a) := (if_neg (by decide)).trans <| (if_neg (by rw [h]; decide)).trans <| (if_neg (by decide)).trans <| (if_neg (by decide)).trans <| (if_neg (by decide)).trans <| (if_neg (by decide)).trans <| (if_neg (by decide)).trans <| if_pos rfl
theorem co_120x (h : isL (nI a) = false) : mCo F 120 a b k = (2, none) := (if_neg (by decide)).trans <| if_pos h
theorem co_109 (h : isL (nI a) = true) : mCo F 109 a b k = (if inI (nI b) (nI 1) (nI 9) = false then (2, none) else mFl (mrMu F a)) := (if_neg (by decide)).trans <| (if_neg (by rw [h]; decide)).trans <| (if_neg (by decide)).trans <| (if_neg (by decide)).trans <| (if_neg (by decide)).trans <| (if_neg (by decide)).trans <| (if_neg (by decide)).trans <| (if_neg (by decide)).trans <| if_pos rfl
theorem co_109x (h : isL (nI a) = false) : mCo F 109 a b k = (2, none) := (if_neg (by decide)).trans <| if_pos h
theorem co_102 (h : isL (nI a) = true) : mCo F 102 a b k = mFl (mrFi F a) := (if_neg (by decide)).trans <| (if_neg (by rw [h]; decide)).trans <| (if_neg (by decide)).trans <| (if_neg (by decide)).trans <| (if_neg (by decide)).trans <| (if_neg (by decide)).trans <| (if_neg (by decide)).trans <| (if_neg (by decide)).trans <| (if_neg (by decide)).trans <| rfl
theorem co_102x (h : isL (nI a) = false) : mCo F 102 a b k = (2, none) := (if_neg (by decide)).trans <| if_pos h
theorem co_104 : mCo F 104 a b k = no := if_pos rfl
theorem rel_115 (h : EN S F) (hs : Sh n S) (ho : OV 115 l s a b k) : FR (fOrd S 115 l s) (mCo F 115 a b k) := by
  obtain ⟨rfl, ha⟩ := ho.1 (by decide)
  obtain ⟨rfl, hb1, hb6, hk⟩ := ho.2.1 rfl
  have hk64 := pw64 hb6 hk
  cases hl : isL (nI l) with
  | false => rw [co_115x hl, f_115, fSign, if_pos (hl)]; exact FR_12
  | true =>
    have h7 := isL_l hl ha
    rw [co_115 hl, f_115, show (b * 64 + k) / 64 = b by omega, show (b * 64 + k) % 64 = k by omega, ← same_sign h hs, oSign, if_neg (by rw [hl]; decide), if_neg (by rw [wd_all b (by omega) hb1 k hk64 hk]; decide), nI_c7 (by omega), nI_c7 (by omega)]
    exact FR.r
theorem rel_117 (h : EN S F) (hs : Sh n S) (ho : OV 117 l s a b k) : FR (fOrd S 117 l s) (mCo F 117 a b k) := by
  obtain ⟨rfl, ha⟩ := ho.1 (by decide)
  cases hl : isL (nI l) with
  | false => rw [co_117x hl, f_117, fUns, if_pos (hl)]; exact FR_12
  | true =>
    have h7 := isL_l hl ha
    rw [co_117 hl, f_117, ← same_uns h hs, oUns, if_neg (by rw [hl]; decide), nI_c7 (by omega)]
    exact FR.r
theorem rel_112 (h : EN S F) (hs : Sh n S) (ho : OV 112 l s a b k) : FR (fOrd S 112 l s) (mCo F 112 a b k) := by
  obtain ⟨rfl, ha⟩ := ho.1 (by decide)
  obtain ⟨rfl, hb⟩ := ho.2.2 (Or.inl rfl)
  cases hl : isL (nI l) with
  | false => rw [co_112x hl, f_112, fPri, if_pos (hl)]; exact FR_12
  | true =>
    have h7 := isL_l hl ha
    rw [co_112 hl, f_112, ← same_pri h, oPri, if_neg (by rw [hl]; decide), if_neg (by rw [in_9 s (by omega)]; decide), nI_c7 (by omega), nI_c7 (by omega)]
    exact FR.r
theorem rel_119 (h : EN S F) (hs : Sh n S) (ho : OV 119 l s a b k) : FR (fOrd S 119 l s) (mCo F 119 a b k) := by
  obtain ⟨rfl, ha⟩ := ho.1 (by decide)
  cases hl : isL (nI l) with
  | false => rw [co_119x hl, f_119, fWhi, if_pos (hl)]; exact FR_12
  | true =>
    have h7 := isL_l hl ha
    rw [co_119 hl, f_119, ← same_whi h hs, oWhi, if_neg (by rw [hl]; decide), nI_c7 (by omega)]
    exact FR.r
theorem rel_108 (h : EN S F) (hs : Sh n S) (ho : OV 108 l s a b k) : FR (fOrd S 108 l s) (mCo F 108 a b k) := by
  obtain ⟨rfl, ha⟩ := ho.1 (by decide)
  obtain ⟨rfl, hb⟩ := ho.2.2 (Or.inr (Or.inl rfl))
  cases hl : isL (nI l) with
  | false => rw [co_108x hl, f_108, fLi, if_pos (hl)]; exact FR_12
  | true =>
    have h7 := isL_l hl ha
    rw [co_108 hl, f_108, ← same_li h hs, oLi, if_neg (by rw [hl]; decide), nI_c7 (by omega), nI_c7 (by omega)]
    cases hb2 : isL (nI s) with
    | false => rw [if_pos rfl, if_pos (Or.inl rfl)]; exact FR_12
    | true =>
      have hs7 := isL_l hb2 hb
      rw [if_neg (by decide)]
      by_cases g : l = s
      · rw [if_pos (by rw [g]), if_pos (Or.inr g)]; exact FR.r
      · rw [if_neg (fun e => g (nI_inj7 l h7 s hs7 e)), if_neg (fun e => e.elim (by decide) g)]; exact FR.r
theorem rel_120 (h : EN S F) (hs : Sh n S) (ho : OV 120 l s a b k) : FR (fOrd S 120 l s) (mCo F 120 a b k) := by
  obtain ⟨rfl, ha⟩ := ho.1 (by decide)
  cases hl : isL (nI l) with
  | false => rw [co_120x hl, f_120, fXp, if_pos (hl)]; exact FR_12
  | true =>
    have h7 := isL_l hl ha
    rw [co_120 hl, f_120, ← same_xp h, oXp, if_neg (by rw [hl]; decide), nI_c7 (by omega)]
    exact FR.r
theorem rel_109 (h : EN S F) (hs : Sh n S) (ho : OV 109 l s a b k) : FR (fOrd S 109 l s) (mCo F 109 a b k) := by
  obtain ⟨rfl, ha⟩ := ho.1 (by decide)
  obtain ⟨rfl, hb⟩ := ho.2.2 (Or.inr (Or.inr rfl))
  cases hl : isL (nI l) with
  | false => rw [co_109x hl, f_109, fMu, if_pos (hl)]; exact FR_12
  | true =>
    have h7 := isL_l hl ha
    rw [co_109 hl, f_109, ← same_mute h, oMu, if_neg (by rw [hl]; decide), nI_c7 (by omega)]
    exact FR.r
theorem rel_102 (h : EN S F) (hs : Sh n S) (ho : OV 102 l s a b k) : FR (fOrd S 102 l s) (mCo F 102 a b k) := by
  obtain ⟨rfl, ha⟩ := ho.1 (by decide)
  cases hl : isL (nI l) with
  | false => rw [co_102x hl, f_102, fFi, if_pos (hl)]; exact FR_12
  | true =>
    have h7 := isL_l hl ha
    rw [co_102 hl, f_102, ← same_fi h, oFi, if_neg (by rw [hl]; decide), nI_c7 (by omega)]
    exact FR.r
theorem isK_c {c : Nat} (hK : isK c = true) : c = 115 ∨ c = 117 ∨ c = 112 ∨ c = 119 ∨ c = 108 ∨ c = 120 ∨ c = 109 ∨ c = 102 ∨ c = 104 := by
  rw [isK, List.contains_eq_mem, decide_eq_true_eq] at hK
  simpa using hK
theorem rel_all {c : Nat} (h : EN S F) (hs : Sh n S) (hK : isK c = true) (ho : OV c l s a b k) : FR (fOrd S c l s) (mCo F c a b k) := by
  rcases isK_c hK with rfl | rfl | rfl | rfl | rfl | rfl | rfl | rfl | rfl
  · exact rel_115 h hs ho
  · exact rel_117 h hs ho
  · exact rel_112 h hs ho
  · exact rel_119 h hs ho
  · exact rel_108 h hs ho
  · exact rel_120 h hs ho
  · exact rel_109 h hs ho
  · exact rel_102 h hs ho
  · rw [co_104, f_104]; exact FR.r
theorem de6 (hi : Iv n S) (p : Nat) : (S.1 8).getD p 0 < 6 := by
  have := getD_le (m := 5) (fun x hx => by have := hi.sh.de x hx; omega : ∀ x ∈ S.1 8, x ≤ 5) p
  omega
theorem st_whistle (h : EN S F) (hi : Iv n S) (hl : l < 7) (hf : (fBl S l l).1 = 0) : EN (fBlow S l l) (whF F l) ∧ Iv (n + 1) (fBlow S l l) := by
  obtain ⟨f1, f2, f3, f4⟩ := bl_ok hf
  exact ⟨en_whistle h hi.sh (de6 hi) hl f3 (hi.h11b hl f3) (hi.h12b hl f3), iv_blow hi hl hl hf⟩
theorem st_lie (h : EN S F) (hi : Iv n S) (hl : l < 7) (ht : s < 7) (hne : l ≠ s) (hf : (fBl S l s).1 = 0) : EN (fBlow S l s) (liF F l s) ∧ Iv (n + 1) (fBlow S l s) := by
  obtain ⟨f1, f2, f3, f4⟩ := bl_ok hf
  exact ⟨en_lie h hi.sh (de6 hi) hl ht hne f3 (hi.h11b hl f3) (hi.h12b hl f3), iv_blow hi hl ht hf⟩
theorem st_expose (h : EN S F) (hi : Iv n S) (hl : l < 7) (hf : gLie (S.1 11) l ≠ none) : EN (fExp S l ((gLie (S.1 11) l).getD 0)) (exF F l (mAt F l)) ∧ Iv (n + 1) (fExp S l ((gLie (S.1 11) l).getD 0)) := by
  cases e : gLie (S.1 11) l with
  | none => exact absurd e hf
  | some i => exact ⟨en_expose h hi.sh hi.so hl e hi.h11, iv_exp hi hl e⟩
theorem nI_l7 (h : ¬ isL (nI l) = false) (hl : l ≤ 9) : l < 7 := isL_l (by simpa using h) hl
/-- an order's state, in both -/
theorem st_all {c : Nat} (h : EN S F) (hi : Iv n S) (hK : isK c = true) (ho : OV c l s a b k) (hf : (fOrd S c l s).1 = 0) : EN (oOrd S c l s) (mCF F c a b k) ∧ Iv (n + 150) (oOrd S c l s) := by
  rcases isK_c hK with rfl | rfl | rfl | rfl | rfl | rfl | rfl | rfl | rfl
  · obtain ⟨rfl, ha⟩ := ho.1 (by decide)
    obtain ⟨rfl, hb1, hb6, hk⟩ := ho.2.1 rfl
    have hk64 := pw64 hb6 hk
    rw [f_115, show (b * 64 + k) / 64 = b by omega, show (b * 64 + k) % 64 = k by omega] at hf
    have g := iv_sign hi hf
    have h7 := (sign_ok hf).1
    rw [nI_c7 (by omega)] at h7 g
    rw [nI_c7 (by omega), nI_c7 (by omega)] at g
    rw [o_115, cf_115]
    exact ⟨en_word h hi.sh h7 hk64, g.up (by omega)⟩
  · obtain ⟨rfl, ha⟩ := ho.1 (by decide)
    rw [f_117] at hf
    have g := iv_unsign hi hf
    have h7 := uns_ok hf
    rw [nI_c7 (by omega)] at h7 g
    rw [o_117, cf_117]
    exact ⟨en_unsign h hi.sh h7, g.up (by omega)⟩
  · obtain ⟨rfl, ha⟩ := ho.1 (by decide)
    obtain ⟨rfl, hb⟩ := ho.2.2 (Or.inl rfl)
    rw [f_112] at hf
    have g := iv_pri hi hf
    have h7 := (pri_ok hf).1
    rw [nI_c7 (by omega)] at h7 g
    rw [nI_c7 (by omega)] at g
    rw [o_112, cf_112]
    exact ⟨en_pri h hi.sh h7, g.up (by omega)⟩
  · obtain ⟨rfl, ha⟩ := ho.1 (by decide)
    rw [f_119, fWhi] at hf
    obtain ⟨h1, hf⟩ := fl_1 hf one_ne
    have h7 := nI_l7 h1 ha
    rw [nI_c7 (by omega)] at hf
    rw [o_119, cf_119]
    obtain ⟨x, y⟩ := st_whistle h hi h7 hf
    exact ⟨x, y.up (by omega)⟩
  · obtain ⟨rfl, ha⟩ := ho.1 (by decide)
    obtain ⟨rfl, hb⟩ := ho.2.2 (Or.inr (Or.inl rfl))
    rw [f_108, fLi] at hf
    obtain ⟨h1, hf⟩ := fl_1 hf one_ne
    obtain ⟨h2, hf⟩ := fl_1 hf one_ne
    obtain ⟨h3, hf⟩ := fl_1 hf two_ne
    have h7 := nI_l7 h1 ha
    have hs7 := nI_l7 h2 hb
    rw [nI_c7 (by omega), nI_c7 (by omega)] at hf
    rw [o_108, cf_108]
    obtain ⟨x, y⟩ := st_lie h hi h7 hs7 (fun e => h3 (by rw [e])) hf
    exact ⟨x, y.up (by omega)⟩
  · obtain ⟨rfl, ha⟩ := ho.1 (by decide)
    rw [f_120, fXp] at hf
    obtain ⟨h1, hf⟩ := fl_1 hf one_ne
    obtain ⟨h2, hf⟩ := fl_1 hf bad_ne
    have h7 := nI_l7 h1 ha
    rw [nI_c7 (by omega)] at h2
    rw [o_120, cf_120]
    obtain ⟨x, y⟩ := st_expose h hi h7 h2
    exact ⟨x, y.up (by omega)⟩
  · obtain ⟨rfl, ha⟩ := ho.1 (by decide)
    obtain ⟨rfl, hb⟩ := ho.2.2 (Or.inr (Or.inr rfl))
    rw [f_109] at hf
    have g := iv_mute hi hf
    have h7 := (mu_ok hf).1
    rw [nI_c7 (by omega)] at h7 g
    rw [nI_c7 (by omega)] at g
    rw [o_109, cf_109]
    exact ⟨en_mute h hi.sh h7, g.up (by omega)⟩
  · obtain ⟨rfl, ha⟩ := ho.1 (by decide)
    rw [f_102, fFi] at hf
    obtain ⟨h1, hf⟩ := fl_1 hf one_ne
    have h7 := nI_l7 h1 ha
    rw [o_102, cf_102]
    exact ⟨en_pay h hi.sh h7, iv_pay hi |>.up (by omega)⟩
  · rw [o_104, cf_104]
    exact ⟨en_hour h hi.sh hi.so hi.h12, iv_hour hi⟩
/-- all orders, in both -/
theorem ex_rel {A1 A2 A3 : List Nat} {r : Nat} (hv : ∀ i, i < r → isK (K i) = true ∧ A1.getD i 0 = K i ∧ OV (K i) (A2.getD i 0) (A3.getD i 0) (N (3 * i)) (N (3 * i + 1)) (N (3 * i + 2))) : ∀ (q i : Nat) (S : St) (F : Nat → Nat) (n : Nat), i + q = r → EN S F → Iv n S → ((rEx A1 A2 A3 q i S).2 = none ∧ (mEx K N q i F).2 = none ∧ EN (rEx A1 A2 A3 q i S).1 (mEx K N q i F).1 ∧ Iv (n + 150 * q) (rEx A1 A2 A3 q i S).1) ∨ ∃ j f g, (rEx A1 A2 A3 q i S).2 = some (j, f) ∧ (mEx K N q i F).2 = some (j, g) ∧ f.2 = g.2 ∧ f.1 ≠ 0 ∧ g.1 ≠ 0 ∧ j < r
  | 0, i, S, F, n, _, h, hi => Or.inl ⟨rfl, rfl, h, hi⟩
  | q + 1, i, S, F, n, hq, h, hi => by
    obtain ⟨h1, h2, h3⟩ := hv i (by omega)
    have hR := rel_all h hi.sh h1 h3
    rw [rEx, mEx, h2]
    by_cases g : (fOrd S (K i) (A2.getD i 0) (A3.getD i 0)).1 = 0
    · rw [if_pos g, if_pos (hR.2.mp g)]
      obtain ⟨e1, e2⟩ := st_all h hi h1 h3 g
      have := ex_rel hv q (i + 1) _ _ (n + 150) (by omega) e1 e2
      rw [show n + 150 + 150 * q = n + 150 * (q + 1) by omega] at this
      exact this
    · rw [if_neg g, if_neg (fun e => g (hR.2.mpr e))]
      exact Or.inr ⟨i, _, _, rfl, rfl, hR.1, g, fun e => g (hR.2.mpr e), by omega⟩
end W89
