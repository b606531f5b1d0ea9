/-! BOTH TOGETHER: what a change answers -/
section W97
variable {G : En} {Λ : Ob → Nat} {ao ad : Nat} {M M2 : Me} {S S' : St} {F F' : Nat → Nat} {n m z c3 : Nat} {σ σ2 : Sg} {μ μ2 : Mg} {f : Fl}
def CE (G : En) (ao ad : Nat) (M : Me) : Prop := (∃ g, M (12, 0, 0) = some (ao, .inl (G.2.2.1 1, 1, .inr (.inl g)))) ∧ (∃ g, M (12, 1, 0) = some (ad, .inl (G.2.2.1 2, 1, .inr (.inr (.inr (.inl g)))))) ∧ M (99, 0, 0) = none
/-- class, model, the law's two arrays in one memory -/
def HX (G : En) (Λ : Ob → Nat) (ao ad : Nat) (σ : Sg) (μ : Mg) (M : Me) : Prop := RX G Λ M σ M ∧ RM G Λ M μ M ∧ CE G ao ad M
theorem RX.own {ρ : Me} (h : RX G Λ ρ σ M) : RX G Λ M σ M := ⟨h.1, h.2.1, h.2.2.1, h.2.2.2.1, h.2.2.2.2.1, h.2.2.2.2.2.1, h.2.2.2.2.2.2.1, h.2.2.2.2.2.2.2.1, fun _ _ => rfl⟩
theorem RX.fr {ρ : Me} (h : RX G Λ ρ σ M) : ∀ o : Ob, 10 ≤ o.1 → M o = ρ o := h.2.2.2.2.2.2.2.2
theorem RM.own {ρ : Me} (h : RM G Λ ρ μ M) : RM G Λ M μ M := ⟨h.1, h.2.1, fun _ _ _ => rfl⟩
theorem RM.kept (h : RM G Λ M μ M) (e0 : M2 (10, 0, 0) = M (10, 0, 0)) (e : ∀ i, M2 (11, i, 0) = M (11, i, 0)) : RM G Λ M2 μ M2 := by
  refine ⟨e0.trans h.1, fun i hi => ?_, fun _ _ _ => rfl⟩
  obtain ⟨a, f, b, c⟩ := h.2.1 i hi
  exact ⟨a, f, (e i).trans b, c⟩
theorem RX.kept (h : RX G Λ M σ M) (e : ∀ o : Ob, o.1 < 10 → M2 o = M o) : RX G Λ M2 σ M2 := by
  obtain ⟨h1, h2, h3, h4, ⟨f, h5, h5'⟩, h6, h7, h8, -⟩ := h
  exact ⟨(e _ (by decide)).trans h1, fun a ha => (e _ (by show (1 : Nat) < 10; decide)).trans (h2 a ha), fun a b hr => (h3 a b hr).kept (e _ (by show (2 : Nat) < 10; decide)) (e _ (by show (3 : Nat) < 10; decide)), (e _ (by decide)).trans h4, ⟨f, (e _ (by decide)).trans h5, h5'⟩, (e _ (by decide)).trans h6, (e _ (by decide)).trans h7, h8.kept (e _ (by decide)) (e _ (by decide)), fun _ _ => rfl⟩
theorem CE.kept (h : CE G ao ad M) (e : ∀ o : Ob, 12 ≤ o.1 → M2 o = M o) : CE G ao ad M2 := by
  obtain ⟨⟨g, h1⟩, ⟨g2, h2⟩, h3⟩ := h
  exact ⟨⟨g, (e _ (by decide)).trans h1⟩, ⟨g2, (e _ (by decide)).trans h2⟩, (e _ (by decide)).trans h3⟩
theorem HX.cls (h : HX G Λ ao ad σ μ M) (hX : RX G Λ M σ2 M2) : HX G Λ ao ad σ2 μ M2 :=
  ⟨hX.own, h.2.1.kept (hX.fr _ (by decide)) fun i => hX.fr _ (by show (10 : Nat) ≤ 11; decide), h.2.2.kept fun o ho => hX.fr o (by omega)⟩
theorem HX.mod (h : HX G Λ ao ad σ μ M) (hM : RM G Λ M μ2 M2) : HX G Λ ao ad σ μ2 M2 :=
  ⟨h.1.kept fun o ho => hM.2.2 o (by omega) (by omega), hM.own, h.2.2.kept fun o ho => hM.2.2 o (by omega) (by omega)⟩
theorem HX.out (h : HX G Λ ao ad σ μ M) {g : Nat → Int64} {y : Int32} : HX G Λ ao ad σ μ (oM G ao g y M) := by
  have e : ∀ o : Ob, o.1 ≠ 12 → oM G ao g y M o = M o := fun o ho => if_neg (fun e => ho (by rw [e]))
  refine ⟨h.1.kept fun o ho => e o (by omega), h.2.1.kept (e _ (by decide)) fun i => e _ (by show (11 : Nat) ≠ 12; decide), ⟨_, if_pos rfl⟩, ?_, (e _ (by decide)).trans h.2.2.2.2⟩
  obtain ⟨g2, h2⟩ := h.2.2.2.1
  exact ⟨g2, (if_neg (by decide)).trans h2⟩
theorem HX.outD (h : HX G Λ ao ad σ μ M) {g : Nat → UInt64} {y : UInt64} : HX G Λ ao ad σ μ (oD G ad g y M) := by
  have e : ∀ o : Ob, o.1 ≠ 12 → oD G ad g y M o = M o := fun o ho => if_neg (fun e => ho (by rw [e]))
  refine ⟨h.1.kept fun o ho => e o (by omega), h.2.1.kept (e _ (by decide)) fun i => e _ (by show (11 : Nat) ≠ 12; decide), ?_, ⟨_, if_pos rfl⟩, (e _ (by decide)).trans h.2.2.2.2⟩
  obtain ⟨g2, h2⟩ := h.2.2.1
  exact ⟨g2, (if_neg (by decide)).trans h2⟩
/-- a fault's form -/
def FW (f : Fl) : Prop := (f.1 = 0 ∧ f.2 = none) ∨ (f.1 = 1 ∧ f.2 = none) ∨ (f.1 = 2 ∧ f.2 = none) ∨ (f.1 = 3 ∧ ∃ x, f.2 = some x)
theorem FW_no : FW no := Or.inl ⟨rfl, rfl⟩
theorem FW_1 : FW (1, none) := Or.inr (Or.inl ⟨rfl, rfl⟩)
theorem FW_2 : FW (2, none) := Or.inr (Or.inr (Or.inl ⟨rfl, rfl⟩))
theorem FW_bad {a b : Int32} : FW (bad a b) := Or.inr (Or.inr (Or.inr ⟨rfl, _, rfl⟩))
theorem FW_ite {p : Prop} [Decidable p] {a b : Fl} (ha : FW a) (hb : FW b) : FW (if p then a else b) := by split <;> assumption
theorem FW_bl (S : St) (l t : Nat) : FW (fBl S l t) := by
  rw [fBl]
  exact FW_ite FW_bad (FW_ite FW_bad (FW_ite FW_bad (FW_ite FW_bad FW_no)))
theorem FW_sign (S : St) (l a b : Int32) : FW (fSign S l a b) := by
  rw [fSign]
  refine FW_ite FW_1 (FW_ite FW_2 (FW_ite FW_2 (FW_ite FW_2 ?_)))
  split
  · exact FW_no
  · exact FW_bad
theorem FW_uns (S : St) (l : Int32) : FW (fUns S l) := by
  rw [fUns, fNS]; exact FW_ite FW_1 (FW_ite FW_bad FW_no)
theorem FW_pri (S : St) (l p : Int32) : FW (fPri S l p) := by
  rw [fPri]; exact FW_ite FW_1 (FW_ite FW_2 (FW_ite FW_2 (FW_ite FW_bad FW_no)))
theorem FW_pla (p dl k : Int32) : FW (fPla p dl k) := by
  rw [fPla]; exact FW_ite FW_1 (FW_ite FW_2 (FW_ite FW_2 (FW_ite FW_2 (FW_ite FW_2 FW_no))))
theorem FW_whi (S : St) (l : Int32) : FW (fWhi S l) := by rw [fWhi]; exact FW_ite FW_1 (FW_bl S _ _)
theorem FW_li (S : St) (l t : Int32) : FW (fLi S l t) := by rw [fLi]; exact FW_ite FW_1 (FW_ite FW_1 (FW_ite FW_2 (FW_bl S _ _)))
theorem FW_xp (S : St) (l : Int32) : FW (fXp S l) := by rw [fXp]; exact FW_ite FW_1 (FW_ite FW_bad FW_no)
theorem FW_mu (S : St) (l k : Int32) : FW (fMu S l k) := by rw [fMu, fMt]; exact FW_ite FW_1 (FW_ite FW_2 (FW_ite FW_2 (FW_ite FW_bad FW_no)))
theorem FW_fi (S : St) (l : Int32) : FW (fFi S l) := by rw [fFi]; exact FW_ite FW_1 (FW_ite FW_bad (FW_ite FW_bad FW_no))
/-- a change's outcome agrees: the class's states after it, the model's, the code, the answer -/
def JO (n : Nat) (σ : Sg) (f : Fl) (T : St) (y : Int32) (names : List String) (μ2 : Mg) (v : Int32) : Prop := (f.1 = 0 → JR n (sS (pN (fR σ f.2) (gS σ 0)) 0 T) μ2 ∧ gN μ2 4 = nI 0 ∧ y = v) ∧ (∀ E, flE f.1 = some E → ∃ c, exL names c = some E ∧ JR n (sS (fR σ f.2) 0 (gS σ 0)) μ2 ∧ gN μ2 4 = nI c ∧ c ≠ 0 ∧ c < 4)
theorem JO.ok {n : Nat} {σ : Sg} {f : Fl} {T : St} {y : Int32} {names : List String} {μ2 : Mg} {v : Int32} (h : JO n σ f T y names μ2 v) : f.1 = 0 → JR n (sS (pN (fR σ f.2) (gS σ 0)) 0 T) μ2 ∧ gN μ2 4 = nI 0 ∧ y = v := h.1
theorem JO.nok {n : Nat} {σ : Sg} {f : Fl} {T : St} {y : Int32} {names : List String} {μ2 : Mg} {v : Int32} (h : JO n σ f T y names μ2 v) : ∀ E, flE f.1 = some E → ∃ c, exL names c = some E ∧ JR n (sS (fR σ f.2) 0 (gS σ 0)) μ2 ∧ gN μ2 4 = nI c ∧ c ≠ 0 ∧ c < 4 := h.2
theorem JO.mk {n : Nat} {σ : Sg} {f : Fl} {T : St} {y : Int32} {names : List String} {μ2 : Mg} {v : Int32} (ok' : f.1 = 0 → JR n (sS (pN (fR σ f.2) (gS σ 0)) 0 T) μ2 ∧ gN μ2 4 = nI 0 ∧ y = v) (nok' : ∀ E, flE f.1 = some E → ∃ c, exL names c = some E ∧ JR n (sS (fR σ f.2) 0 (gS σ 0)) μ2 ∧ gN μ2 4 = nI c ∧ c ≠ 0 ∧ c < 4) : JO n σ f T y names μ2 v := ⟨ok', nok'⟩
theorem sS_fR {x : Option (Int32 × Int32)} : sS (fR σ x) 0 (gS σ 0) = fR σ x := by
  cases x with
  | none => exact sS_gS
  | some r => exact sS_gS (σ := fR σ (some r)) (a := 0)
theorem jo3 (h : JR n σ μ) (hz : gN μ 5 = nI z) (hz8 : z ≤ 8) (hf : FW f) (hm : n ≤ m) {y v : Int32} (hok : f.1 = 0 → EN S' F' ∧ Iv m S' ∧ y = v) : JO m σ f S' y ["java/lang/IndexOutOfBoundsException", "java/lang/IllegalArgumentException", "java/lang/UnsupportedOperationException"] (mRes μ f 3 F' z) (mVal f v) := by
  obtain ⟨f1, f2⟩ := f
  rcases hf with ⟨a, b⟩ | ⟨a, b⟩ | ⟨a, b⟩ | ⟨a, x, b⟩
  · simp only at a b; subst a; subst b
    obtain ⟨h1, h2, h3⟩ := hok rfl
    refine JO.mk (fun _ => ⟨h.ok hz hz8 h1 h2 hm, ?_, h3⟩) (fun E hE => by cases hE)
    show gN (mOk μ F' z) 4 = nI 0
    rw [mOk, kpM, gN_sNn (by decide), gN_sA, gN_sA]; rfl
  · simp only at a b; subst a; subst b
    refine JO.mk (fun e => absurd e (by decide)) (fun E hE => ⟨1, hE, ?_, gN_sNs, by decide, by decide⟩)
    rw [sS_fR]; exact (h.up hm).no
  · simp only at a b; subst a; subst b
    refine JO.mk (fun e => absurd e (by decide)) (fun E hE => ⟨2, hE, ?_, gN_sNs, by decide, by decide⟩)
    rw [sS_fR]; exact (h.up hm).no
  · simp only at a b; subst a; subst b
    refine JO.mk (fun e => absurd e (show ¬ (3 : Nat) = 0 by decide)) (fun E hE => ⟨3, hE, ?_, gN_sNs, by decide, by decide⟩)
    rw [sS_fR]; exact (h.up hm).rfu
theorem jo2 (h : JR n σ μ) (hz : gN μ 5 = nI z) (hz8 : z ≤ 8) (hf : FW f) (h2 : f.1 ≠ 2) (hm : n ≤ m) {y v : Int32} (hok : f.1 = 0 → EN S' F' ∧ Iv m S' ∧ y = v) : JO m σ f S' y ["java/lang/IndexOutOfBoundsException", "java/lang/UnsupportedOperationException"] (mRes μ f 2 F' z) (mVal f v) := by
  obtain ⟨f1, f2⟩ := f
  rcases hf with ⟨a, b⟩ | ⟨a, b⟩ | ⟨a, b⟩ | ⟨a, x, b⟩
  · simp only at a b; subst a; subst b
    obtain ⟨h1, h2, h3⟩ := hok rfl
    refine JO.mk (fun _ => ⟨h.ok hz hz8 h1 h2 hm, ?_, h3⟩) (fun E hE => by cases hE)
    show gN (mOk μ F' z) 4 = nI 0
    rw [mOk, kpM, gN_sNn (by decide), gN_sA, gN_sA]; rfl
  · simp only at a b; subst a; subst b
    refine JO.mk (fun e => absurd e (by decide)) (fun E hE => ⟨1, hE, ?_, gN_sNs, by decide, by decide⟩)
    rw [sS_fR]; exact (h.up hm).no
  · exact absurd a h2
  · simp only at a b; subst a; subst b
    refine JO.mk (fun e => absurd e (show ¬ (3 : Nat) = 0 by decide)) (fun E hE => ⟨2, hE, ?_, gN_sNs, by decide, by decide⟩)
    rw [sS_fR]; exact (h.up hm).rfu
theorem jo2p (h : JR n σ μ) (hz : gN μ 5 = nI z) (hz8 : z ≤ 8) (hf : FW f) (h3 : f.1 ≠ 3) (hm : n ≤ m) {y v : Int32} (hok : f.1 = 0 → EN S' F' ∧ Iv m S' ∧ y = v) : JO m σ f S' y ["java/lang/IndexOutOfBoundsException", "java/lang/IllegalArgumentException"] (mRes μ f 3 F' z) (mVal f v) := by
  obtain ⟨f1, f2⟩ := f
  rcases hf with ⟨a, b⟩ | ⟨a, b⟩ | ⟨a, b⟩ | ⟨a, x, b⟩
  · simp only at a b; subst a; subst b
    obtain ⟨h1, h2, h3⟩ := hok rfl
    refine JO.mk (fun _ => ⟨h.ok hz hz8 h1 h2 hm, ?_, h3⟩) (fun E hE => by cases hE)
    show gN (mOk μ F' z) 4 = nI 0
    rw [mOk, kpM, gN_sNn (by decide), gN_sA, gN_sA]; rfl
  · simp only at a b; subst a; subst b
    refine JO.mk (fun e => absurd e (by decide)) (fun E hE => ⟨1, hE, ?_, gN_sNs, by decide, by decide⟩)
    rw [sS_fR]; exact (h.up hm).no
  · simp only at a b; subst a; subst b
    refine JO.mk (fun e => absurd e (by decide)) (fun E hE => ⟨2, hE, ?_, gN_sNs, by decide, by decide⟩)
    rw [sS_fR]; exact (h.up hm).no
  · exact absurd a h3
theorem wd_S (h : EN S F) (hs : Sh n S) {l x : Nat} (hl : l < 7) : gWd (uR S 0 ((S.1 0).set l x)) l = x := by
  rw [gWd, uR_b, getD_set (by rw [hs.l7 0 (by decide)]; exact hl), if_pos rfl]
theorem j_sign (h : JR n σ μ) (hz : gN μ 5 = nI z) (hz8 : z ≤ 8) (l a b : Int32) : JO n σ (fSign (gS σ 0) l a b) (uR (gS σ 0) 0 (((gS σ 0).1 0).set l.toNatClampNeg (a.toNatClampNeg * 64 + b.toNatClampNeg))) (nI (stm (a.toNatClampNeg * 64 + b.toNatClampNeg))) ["java/lang/IndexOutOfBoundsException", "java/lang/IllegalArgumentException", "java/lang/UnsupportedOperationException"] (mRes μ (oSign (gA μ 0) l a b) 3 (tellF (gA μ 0) l.toNatClampNeg a.toNatClampNeg b.toNatClampNeg) z) (mVal (oSign (gA μ 0) l a b) (nI (mSt (tellF (gA μ 0) l.toNatClampNeg a.toNatClampNeg b.toNatClampNeg) l.toNatClampNeg))) := by
  rw [same_sign h.en h.iv.sh]
  refine jo3 h hz hz8 (FW_sign _ _ _ _) (Nat.le_refl n) fun hf => ?_
  obtain ⟨h1, h2, h3, h4, h5, h6, -⟩ := sign_ok hf
  have e1 := en_word h.en h.iv.sh (m := a.toNatClampNeg) h1 h5
  have e2 := iv_sign h.iv hf
  exact ⟨e1, e2, by rw [e1.sm e2.sh h1, wd_S h.en h.iv.sh h1]⟩
theorem uns_2 {l : Int32} : (fUns S l).1 ≠ 2 := by
  rw [fUns, fNS]; split
  · decide
  · split
    · exact (by decide : (3 : Nat) ≠ 2)
    · exact (by decide : (0 : Nat) ≠ 2)
theorem j_unsign (h : JR n σ μ) (hz : gN μ 5 = nI z) (hz8 : z ≤ 8) (l : Int32) : JO n σ (fUns (gS σ 0) l) (uR (gS σ 0) 0 (((gS σ 0).1 0).set l.toNatClampNeg 0)) (nI ((((gS σ 0).1 0).set l.toNatClampNeg 0).countP (0 < ·))) ["java/lang/IndexOutOfBoundsException", "java/lang/UnsupportedOperationException"] (mRes μ (oUns (gA μ 0) l) 2 (tellF (gA μ 0) l.toNatClampNeg 0 0) z) (mVal (oUns (gA μ 0) l) (nI (mCn (tellF (gA μ 0) l.toNatClampNeg 0 0) 0 7))) := by
  rw [same_uns h.en h.iv.sh]
  refine jo2 h hz hz8 (FW_uns _ _) uns_2 (Nat.le_refl n) fun hf => ?_
  have e1 := en_unsign h.en h.iv.sh (uns_ok hf)
  have e2 := iv_unsign h.iv hf
  exact ⟨e1, e2, by rw [e1.cn e2.sh, uR_b]⟩
theorem j_priority (h : JR n σ μ) (hz : gN μ 5 = nI z) (hz8 : z ≤ 8) (l p : Int32) : JO n σ (fPri (gS σ 0) l p) (uR (gS σ 0) 1 (((gS σ 0).1 1).set l.toNatClampNeg p.toNatClampNeg)) (nI (((gS σ 0).1 1).getD l.toNatClampNeg 0)) ["java/lang/IndexOutOfBoundsException", "java/lang/IllegalArgumentException", "java/lang/UnsupportedOperationException"] (mRes μ (oPri (gA μ 0) l p) 3 (uL (gA μ 0) l.toNatClampNeg 2 p.toNatClampNeg) z) (mVal (oPri (gA μ 0) l p) (nI (lF (gA μ 0) l.toNatClampNeg 2))) := by
  rw [same_pri h.en]
  refine jo3 h hz hz8 (FW_pri _ _ _) (Nat.le_refl n) fun hf => ?_
  obtain ⟨h1, -⟩ := pri_ok hf
  exact ⟨en_pri h.en h.iv.sh h1, iv_pri h.iv hf, by rw [h.en.ln _ h1 2 (by decide) (by decide)]⟩
theorem pla_3 {p dl k : Int32} : (fPla p dl k).1 ≠ 3 := by
  rw [fPla]
  repeat' split
  all_goals first | exact (by decide : (1 : Nat) ≠ 3) | exact (by decide : (2 : Nat) ≠ 3) | exact (by decide : (0 : Nat) ≠ 3)
theorem j_platform (h : JR n σ μ) (hz : gN μ 5 = nI z) (hz8 : z ≤ 8) (p dl k : Int32) : JO n σ (fPla p dl k) (uR (uR (gS σ 0) 8 (((gS σ 0).1 8).set p.toNatClampNeg dl.toNatClampNeg)) 9 (((gS σ 0).1 9).set p.toNatClampNeg k.toNatClampNeg)) (nI ((((gS σ 0).1 8).set p.toNatClampNeg dl.toNatClampNeg).countP (0 < ·))) ["java/lang/IndexOutOfBoundsException", "java/lang/IllegalArgumentException"] (mRes μ (oPla p dl k) 3 (uP (uP (gA μ 0) p.toNatClampNeg 0 dl.toNatClampNeg) p.toNatClampNeg 1 k.toNatClampNeg) z) (mVal (oPla p dl k) (nI (mPc (uP (uP (gA μ 0) p.toNatClampNeg 0 dl.toNatClampNeg) p.toNatClampNeg 1 k.toNatClampNeg) 4))) := by
  rw [same_pla]
  refine jo2p h hz hz8 (FW_pla _ _ _) pla_3 (Nat.le_refl n) fun hf => ?_
  obtain ⟨h1, h2, h3, -⟩ := pla_ok hf
  have e1 := en_platform h.en h.iv.sh h1 (dl := dl.toNatClampNeg) (ls := k.toNatClampNeg)
  have e2 := iv_plat h.iv (p := p.toNatClampNeg) h2 h3
  exact ⟨e1, e2, by rw [mPc_g e1 e2.sh]; rfl⟩
theorem whi_2 {l : Int32} : (fWhi S l).1 ≠ 2 := by
  rw [fWhi, fBl]
  repeat' split
  all_goals first | exact (by decide : (1 : Nat) ≠ 2) | exact (by decide : (3 : Nat) ≠ 2) | exact (by decide : (0 : Nat) ≠ 2)
theorem j_whistle (h : JR n σ μ) (hz : gN μ 5 = nI z) (hz8 : z ≤ 8) (l : Int32) : JO (n + 1) σ (fWhi (gS σ 0) l) (fBlow (gS σ 0) l.toNatClampNeg l.toNatClampNeg) (nI ((((gS σ 0).1 2).set l.toNatClampNeg (((gS σ 0).1 2).getD l.toNatClampNeg 0 - cost (gS σ 0) l.toNatClampNeg l.toNatClampNeg)).getD l.toNatClampNeg 0)) ["java/lang/IndexOutOfBoundsException", "java/lang/UnsupportedOperationException"] (mRes μ (oWhi (gA μ 0) l) 2 (whF (gA μ 0) l.toNatClampNeg) z) (mVal (oWhi (gA μ 0) l) (nI (lF (gA μ 0) l.toNatClampNeg 3 - mSt (gA μ 0) l.toNatClampNeg))) := by
  rw [same_whi h.en h.iv.sh]
  refine jo2 h hz hz8 (FW_whi _ _) whi_2 (Nat.le_succ n) fun hf => ?_
  rw [fWhi] at hf
  obtain ⟨h1, hf⟩ := fl_1 hf one_ne
  have h7 := (isL_d h1).1
  obtain ⟨e1, e2⟩ := st_whistle h.en h.iv h7 hf
  exact ⟨e1, e2, by rw [getD_set (by rw [h.iv.sh.l7 2 (by decide)]; exact h7), if_pos rfl, h.en.ln _ h7 3 (by decide) (by decide), cost, if_pos rfl, h.en.sm h.iv.sh h7]⟩
theorem j_lie (h : JR n σ μ) (hz : gN μ 5 = nI z) (hz8 : z ≤ 8) (l t : Int32) : JO (n + 1) σ (fLi (gS σ 0) l t) (fBlow (gS σ 0) l.toNatClampNeg t.toNatClampNeg) (nI ((((gS σ 0).1 2).set l.toNatClampNeg (((gS σ 0).1 2).getD l.toNatClampNeg 0 - cost (gS σ 0) l.toNatClampNeg t.toNatClampNeg)).getD l.toNatClampNeg 0)) ["java/lang/IndexOutOfBoundsException", "java/lang/IllegalArgumentException", "java/lang/UnsupportedOperationException"] (mRes μ (oLi (gA μ 0) l t) 3 (liF (gA μ 0) l.toNatClampNeg t.toNatClampNeg) z) (mVal (oLi (gA μ 0) l t) (nI (lF (gA μ 0) l.toNatClampNeg 3 - 2 * mSt (gA μ 0) t.toNatClampNeg))) := by
  rw [same_li h.en h.iv.sh]
  refine jo3 h hz hz8 (FW_li _ _ _) (Nat.le_succ n) fun hf => ?_
  rw [fLi] at hf
  obtain ⟨h1, g1⟩ := fl_1 hf one_ne
  obtain ⟨h2, g2⟩ := fl_1 g1 one_ne
  obtain ⟨h3, g3⟩ := fl_1 g2 two_ne
  obtain ⟨h7, e7⟩ := isL_d h1
  obtain ⟨t7, et⟩ := isL_d h2
  have hne : l.toNatClampNeg ≠ t.toNatClampNeg := fun e => h3 (by rw [e7, et, e])
  obtain ⟨e1, e2⟩ := st_lie h.en h.iv h7 t7 hne g3
  exact ⟨e1, e2, by rw [getD_set (by rw [h.iv.sh.l7 2 (by decide)]; exact h7), if_pos rfl, h.en.ln _ h7 3 (by decide) (by decide), cost, if_neg hne, h.en.sm h.iv.sh t7]⟩
theorem xp_2 {l : Int32} : (fXp S l).1 ≠ 2 := by
  rw [fXp]
  repeat' split
  all_goals first | exact (by decide : (1 : Nat) ≠ 2) | exact (by decide : (3 : Nat) ≠ 2) | exact (by decide : (0 : Nat) ≠ 2)
theorem j_expose (h : JR n σ μ) (hz : gN μ 5 = nI z) (hz8 : z ≤ 8) (l : Int32) : JO (n + 1) σ (fXp (gS σ 0) l) (fExp (gS σ 0) l.toNatClampNeg ((gLie ((gS σ 0).1 11) l.toNatClampNeg).getD 0)) (nI ((((gS σ 0).1 4).set l.toNatClampNeg (((gS σ 0).1 4).getD l.toNatClampNeg 0 + 3)).getD l.toNatClampNeg 0)) ["java/lang/IndexOutOfBoundsException", "java/lang/UnsupportedOperationException"] (mRes μ (oXp (gA μ 0) l) 2 (exF (gA μ 0) l.toNatClampNeg (mAt (gA μ 0) l.toNatClampNeg)) z) (mVal (oXp (gA μ 0) l) (nI (lF (gA μ 0) l.toNatClampNeg 5 + 3))) := by
  rw [same_xp h.en]
  refine jo2 h hz hz8 (FW_xp _ _) xp_2 (Nat.le_succ n) fun hf => ?_
  rw [fXp] at hf
  obtain ⟨h1, g1⟩ := fl_1 hf one_ne
  obtain ⟨h2, g2⟩ := fl_1 g1 bad_ne
  obtain ⟨h7, e7⟩ := isL_d h1
  obtain ⟨e1, e2⟩ := st_expose h.en h.iv h7 h2
  exact ⟨e1, e2, by rw [getD_set (by rw [h.iv.sh.l7 4 (by decide)]; exact h7), if_pos rfl, h.en.ln _ h7 5 (by decide) (by decide)]⟩
theorem j_mute (h : JR n σ μ) (hz : gN μ 5 = nI z) (hz8 : z ≤ 8) (l k : Int32) : JO n σ (fMu (gS σ 0) l k) (uR (gS σ 0) 4 (((gS σ 0).1 4).set l.toNatClampNeg k.toNatClampNeg)) (nI ((((gS σ 0).1 4).set l.toNatClampNeg k.toNatClampNeg).countP (0 < ·))) ["java/lang/IndexOutOfBoundsException", "java/lang/IllegalArgumentException", "java/lang/UnsupportedOperationException"] (mRes μ (oMu (gA μ 0) l k) 3 (uL (gA μ 0) l.toNatClampNeg 5 k.toNatClampNeg) z) (mVal (oMu (gA μ 0) l k) (nI (mCn (uL (gA μ 0) l.toNatClampNeg 5 k.toNatClampNeg) 5 7))) := by
  rw [same_mute h.en]
  refine jo3 h hz hz8 (FW_mu _ _ _) (Nat.le_refl n) fun hf => ?_
  have e1 := en_mute h.en h.iv.sh (x := k.toNatClampNeg) (mu_ok hf).1
  have e2 := iv_mute h.iv hf
  exact ⟨e1, e2, by rw [e1.cnm e2.sh, uR_b]⟩
theorem fi_2 {l : Int32} : (fFi S l).1 ≠ 2 := by
  rw [fFi]
  repeat' split
  all_goals first | exact (by decide : (1 : Nat) ≠ 2) | exact (by decide : (3 : Nat) ≠ 2) | exact (by decide : (0 : Nat) ≠ 2)
theorem j_fine (h : JR n σ μ) (hz : gN μ 5 = nI z) (hz8 : z ≤ 8) (l : Int32) : JO (n + 24) σ (fFi (gS σ 0) l) (fPay (gS σ 0) l.toNatClampNeg) (nI ((((gS σ 0).1 3).set l.toNatClampNeg (((gS σ 0).1 3).getD l.toNatClampNeg 0 - 2 * ((gS σ 0).1 4).getD l.toNatClampNeg 0)).getD l.toNatClampNeg 0)) ["java/lang/IndexOutOfBoundsException", "java/lang/UnsupportedOperationException"] (mRes μ (oFi (gA μ 0) l) 2 (payF (gA μ 0) l.toNatClampNeg) z) (mVal (oFi (gA μ 0) l) (nI (lF (gA μ 0) l.toNatClampNeg 4 - 2 * lF (gA μ 0) l.toNatClampNeg 5))) := by
  rw [same_fi h.en]
  refine jo2 h hz hz8 (FW_fi _ _) fi_2 (by omega) fun hf => ?_
  rw [fFi] at hf
  obtain ⟨h1, g1⟩ := fl_1 hf one_ne
  obtain ⟨h7, e7⟩ := isL_d h1
  exact ⟨en_pay h.en h.iv.sh h7, iv_pay h.iv, by rw [getD_set (by rw [h.iv.sh.l7 3 (by decide)]; exact h7), if_pos rfl, h.en.ln _ h7 4 (by decide) (by decide), h.en.ln _ h7 5 (by decide) (by decide)]⟩
end W97
