/-! THE LAW: its frame, its script, what its cases share -/
section W99a
variable {G : En} {X : Fx} {Λ : Ob → Nat} {ao ad : Nat} {M M2 : Me} {d k n pc q : Nat} {lv lv' : List (Option Value)} {st : List Value} {σ σ2 : Sg} {μ μ2 : Mg}
abbrev XL (tb : List ExceptionTableEntry × String) (k0 n0 : Nat) (Z : List Frame → Array Value → State → State → Prop) : Fx := (RL, cL_law, 9, some .boolean, tb.1, tb.2, k0, n0, Z)
def Fg : List (Option Value) → List (Option Value) → Prop
  | [], _ => True
  | none :: l, _ :: l' => Fg l l'
  | some v :: l, w :: l' => w = some v ∧ Fg l l'
  | _ :: _, [] => False
theorem Fg.get : ∀ (l l' : List (Option Value)), Fg l l' → ∀ (i : Nat) (v : Value), l[i]? = some (some v) → l'[i]? = some (some v)
  | [], _, _, i, v, h => by simp at h
  | none :: l, w :: l', hf, 0, v, h => by simp at h
  | none :: l, w :: l', hf, i + 1, v, h => Fg.get l l' hf i v h
  | some u :: l, w :: l', hf, 0, v, h => by
    have e : u = v := by simpa using h
    show some w = some (some v)
    rw [hf.1, e]
  | some u :: l, w :: l', hf, i + 1, v, h => Fg.get l l' hf.2 i v h
  | none :: _, [], hf, _, _, _ => hf.elim
  | some _ :: _, [], hf, _, _, _ => hf.elim
theorem AW.forget (hf : Fg lv lv') (h : AW G X d k n pc lv st M) : AW G X d k n pc lv' st M := fun p e R s m args below meth c H locs cells slots ls cx hl hm hS hk hn =>
  h p e R s m args below meth c H locs cells slots ls cx ⟨hl.1, hl.2.1, fun i v hi => hl.2.2 i v (Fg.get lv lv' hf i v hi)⟩ hm hS hk hn
def scA (G : En) : Nat := G.2.2.2.2.2.2.2.2.1
def scL (G : En) : Nat := G.2.2.2.2.2.2.2.2.2.1
def scF (G : En) (j : Nat) : Int32 := G.2.2.2.2.2.2.2.2.2.2 j
theorem sc_T : ∀ s : State, wEnv G s s.heap → va_T .int (scA G) (scL G) (fun j => .int (scF G j)) (wA G) s s.heap := fun _ hE => hE.2.2.2.2.2.2.2.2.2.2.1.2.2.2
theorem r_sc {i c : Nat} (hi : i + c < scL G) (hl : scL G ≤ 2048) (dg : decode X.2.1 pc = .ok (.iaload, 1)) (hq : pc + 1 = q) (k1 : AW G X d k n q lv (.int (scF G (i + c)) :: st) M) : AW G X d k n pc lv (.int (nI i + nI c) :: .ref (scA G) :: st) M := by
  rw [n_add]
  exact r_ti (sc_T (G := G)) (vp_in_nI hi (by omega)) (by rw [nI_c7 (by omega)]) dg hq k1
theorem r_sc0 {i : Nat} (hi : i < scL G) (hl : scL G ≤ 2048) (dg : decode X.2.1 pc = .ok (.iaload, 1)) (hq : pc + 1 = q) (k1 : AW G X d k n q lv (.int (scF G i) :: st) M) : AW G X d k n pc lv (.int (nI i) :: .ref (scA G) :: st) M :=
  r_ti (sc_T (G := G)) (vp_in_nI hi (by omega)) (by rw [nI_c7 (by omega)]) dg hq k1
theorem lg_self (x : Int64) : lg_cmp x x = 0 := by
  unfold lg_cmp
  simp
theorem exL_lt {names : List String} {c : Nat} {E : String} (h : exL names c = some E) : c ≠ 0 ∧ c ≤ names.length := by
  cases c with
  | zero => cases h
  | succ c => exact ⟨by omega, (List.getElem?_eq_some_iff.mp h).1⟩
theorem nI_k0 : ∀ k : Nat, k < 4 → nI k = 0 → k = 0 := by decide
theorem outv {g : Nat → Int64} {y : Int32} : vp_updL g (nI 0).toNatClampNeg y.toInt64 (nI 0).toNatClampNeg = y.toInt64 := if_pos rfl
def oCell (G : En) (ao : Nat) (y : Int32) (M : Me) : Prop := ∃ g, M (12, 0, 0) = some (ao, .inl (G.2.2.1 1, 1, .inr (.inl (vp_updL g (nI 0).toNatClampNeg y.toInt64))))
theorem oCell.mod {y : Int32} (h : oCell G ao y M) (hM : RM G Λ M μ2 M2) : oCell G ao y M2 := by
  obtain ⟨g, hg⟩ := h
  exact ⟨g, (hM.2.2 _ (by decide) (by decide)).trans hg⟩
theorem oM_cell {g : Nat → Int64} {y : Int32} : oCell G ao y (oM G ao g y M) := ⟨g, if_pos rfl⟩
theorem HX.x (h : HX G Λ ao ad σ μ M) : M (0, 0, 0) = some (Λ (0, 0, 0), .inr (0, xF Λ σ)) := h.1.1
theorem HX.m (h : HX G Λ ao ad σ μ M) : M (10, 0, 0) = some (Λ (10, 0, 0), .inr (6, mF Λ μ)) := h.2.1.1
theorem HX.c0 (h : HX G Λ ao ad σ μ M) : ∃ g, M (12, 0, 0) = some (ao, .inl (G.2.2.1 1, 1, .inr (.inl g))) := h.2.2.1
theorem JR.oks {n : Nat} (h : JR n σ μ) (hn : n + 5000 ≤ 2 ^ 24) : OKS (gS σ 0) := h.iv.sh.oks h.iv.so (by omega)
theorem JR.okf {n : Nat} (h : JR n σ μ) (hn : n + 5000 ≤ 2 ^ 24) : OKF (gA μ 0) := h.en.okf h.iv.sh h.iv.so (by omega) h.iv.h12 h.iv.h11
theorem JR.z {n : Nat} (h : JR n σ μ) : ∃ z, z ≤ 8 ∧ gN μ 5 = nI z := by
  obtain ⟨o, z, a, b, c, d, e, f⟩ := h.hs
  exact ⟨z, b, e⟩
/-- an argument x != 0 -/
theorem r_bz {x : Int32} {p1 p2 p3 : Nat} {o1 o2 : Int} (d0 : decode X.2.1 pc = .ok (.ifCond .eq o1, 3)) (e1 : pc + 3 = p1) (e2 : p1 + 1 = p2) (d1 : decode X.2.1 p1 = .ok (.iconst 1, 1)) (d2 : decode X.2.1 p2 = .ok (.goto o2, 3)) (t1 : (pc : Int) + o1 = (p3 : Int)) (d3 : decode X.2.1 p3 = .ok (.iconst 0, 1)) (t2 : (p2 : Int) + o2 = (q : Int)) (e3 : p3 + 1 = q) (k1 : AW G X d k n q lv (.int (bI (decide (¬ x = 0))) :: st) M) : AW G X d k n pc lv (.int x :: st) M := by
  refine r_if_eq d0 t1 e1 (fun c => ?_) (fun c => ?_)
  · rw [decide_eq_false (fun g => g c)] at k1
    exact r_iconst d3 (by decide) e3 k1
  · rw [decide_eq_true c] at k1
    exact r_iconst d1 (by decide) e2 (r_goto d2 t2 k1)
theorem bn6 (N : Nat) : 6 + (N + 2394) ≤ N + 2400 := Nat.le_of_eq (Nat.add_left_comm 6 N 2394)
theorem bk1 (K : Nat) : 1 + (K + 7) ≤ K + 8 := Nat.le_of_eq (Nat.add_left_comm 1 K 7)
end W99a
