/-! ONE INPUT, TWICE: an order -/
section W87
variable {S : St} {L : List Nat} {N K : Nat → Nat} {r p : Nat}
def pRun (L : List Nat) : List Nat → PI → Bool × PI
  | [], x => (true, x)
  | c :: cs, x => if (pPt L c x).1 = true then pRun L cs (pPt L c x).2 else (false, (pPt L c x).2)
theorem pPs_run {i : Nat} : ∀ (q j : Nat) (cs : List Nat) (x : PI), cs.length = q → (∀ t, t < q → kCh i (j + t) = cs.getD t 0) → pPs L i q j x = pRun L cs x
  | 0, j, cs, x, h, _ => by rw [List.eq_nil_of_length_eq_zero h]; rfl
  | q + 1, j, [], x, h, _ => by cases h
  | q + 1, j, c :: cs, x, h, hc => by
    have e0 : kCh i j = c := hc 0 (Nat.succ_pos q)
    rw [pPs, pRun, e0]
    split
    · exact pPs_run q (j + 1) cs _ (Nat.succ.inj h) fun t ht => by
        have := hc (t + 1) (by omega)
        rw [Nat.add_assoc, Nat.add_comm 1 t]; exact this
    · rfl
theorem kCh_p : ∀ i, i < 9 → ∀ t, t < kLen i → kCh i (0 + t) = ([[115, 76, 58, 87], [117, 76], [112, 76, 61, 68], [119, 76], [108, 76, 62, 68], [120, 76], [109, 76, 58, 68], [102, 76], [104]].getD i []).getD t 0 := by decide
theorem run_sg_t {c : Nat} {cs : List Nat} {x : PI} (h1 : c ≠ 76) (h2 : c ≠ 68) (h3 : c ≠ 87) (h : L.getD x.1 0 = c) : pRun L (c :: cs) x = pRun L cs (x.1 + 1, x.2.1, x.2.2) := by
  have e : pPt L c x = (true, x.1 + 1, x.2.1, x.2.2) := by rw [pPt, if_neg h1, if_neg h2, if_neg h3, pSg, if_pos h]
  rw [pRun, e, if_pos rfl]
theorem run_sg_f {c : Nat} {cs : List Nat} {x : PI} (h1 : c ≠ 76) (h2 : c ≠ 68) (h3 : c ≠ 87) (h : ¬ L.getD x.1 0 = c) : pRun L (c :: cs) x = (false, x) := by
  have e : pPt L c x = (false, x) := by rw [pPt, if_neg h1, if_neg h2, if_neg h3, pSg, if_neg h]
  rw [pRun, e, if_neg Bool.false_ne_true]
theorem nI_dg : ∀ e : Nat, e < 10 → nI (48 + e) - nI 48 = nI e := by decide
theorem nI_dig {d : Nat} (h : 48 ≤ d ∧ d ≤ 57) : nI d - nI 48 = nI (d - 48) := by
  have := nI_dg (d - 48) (by omega)
  rw [show 48 + (d - 48) = d by omega] at this
  exact this
theorem run_L_t {cs : List Nat} {x : PI} (h : 48 ≤ L.getD x.1 0 ∧ L.getD x.1 0 ≤ 57) : pRun L (76 :: cs) x = pRun L cs (x.1 + 1, nI (L.getD x.1 0 - 48), x.2.2) := by
  have e : pPt L 76 x = (true, x.1 + 1, nI (L.getD x.1 0 - 48), x.2.2) := by rw [pPt, if_pos rfl, pDg, if_pos h, nI_dig h]
  rw [pRun, e, if_pos rfl]
theorem run_L_f {cs : List Nat} {x : PI} (h : ¬ (48 ≤ L.getD x.1 0 ∧ L.getD x.1 0 ≤ 57)) : (pRun L (76 :: cs) x).1 = false ∧ (pRun L (76 :: cs) x).2.1 = x.1 := by
  have e : pPt L 76 x = (false, x.1, nI (L.getD x.1 0) - nI 48, x.2.2) := by rw [pPt, if_pos rfl, pDg, if_neg h]
  rw [pRun, e, if_neg Bool.false_ne_true]; exact ⟨rfl, rfl⟩
theorem run_D_t {cs : List Nat} {x : PI} (h : 48 ≤ L.getD x.1 0 ∧ L.getD x.1 0 ≤ 57) : pRun L (68 :: cs) x = pRun L cs (x.1 + 1, x.2.1, nI (L.getD x.1 0 - 48)) := by
  have e : pPt L 68 x = (true, x.1 + 1, x.2.1, nI (L.getD x.1 0 - 48)) := by rw [pPt, if_neg (by decide), if_pos rfl, pDg, if_pos h, nI_dig h]
  rw [pRun, e, if_pos rfl]
theorem run_D_f {cs : List Nat} {x : PI} (h : ¬ (48 ≤ L.getD x.1 0 ∧ L.getD x.1 0 ≤ 57)) : (pRun L (68 :: cs) x).1 = false ∧ (pRun L (68 :: cs) x).2.1 = x.1 := by
  have e : pPt L 68 x = (false, x.1, x.2.1, nI (L.getD x.1 0) - nI 48) := by rw [pPt, if_neg (by decide), if_pos rfl, pDg, if_neg h]
  rw [pRun, e, if_neg Bool.false_ne_true]; exact ⟨rfl, rfl⟩
theorem pWl_n : ∀ (q : Nat) (x : Nat × Nat × Nat), x.2.1 ≤ (pWl L q x).2.1
  | 0, x => Nat.le_refl _
  | q + 1, x => by
    rw [pWl]
    split
    · exact Nat.le_trans (Nat.le_succ _) (pWl_n q (x.1 + 1, x.2.1 + 1, _))
    · exact Nat.le_refl _
theorem pWl_1 {p : Nat} (h : isLt (L.getD p 0) = true) : 1 ≤ (pWl L 6 (p, 0, 0)).2.1 ∧ p + 1 ≤ (pWl L 6 (p, 0, 0)).1 := by
  have e : pWl L 6 (p, 0, 0) = pWl L 5 (p + 1, 0 + 1, 0 + if L.getD p 0 = 108 then 2 ^ 0 else 0) := by
    show pWl L (5 + 1) (p, 0, 0) = _
    rw [pWl, if_pos h]
  rw [e]
  exact ⟨pWl_n 5 (p + 1, 0 + 1, 0 + if L.getD p 0 = 108 then 2 ^ 0 else 0), pWl_ge 5 (p + 1, 0 + 1, 0 + if L.getD p 0 = 108 then 2 ^ 0 else 0)⟩
theorem run_W_t {x : PI} (h : isLt (L.getD x.1 0) = true) : pRun L [87] x = (true, (pWl L 6 (x.1, 0, 0)).1, x.2.1, nI ((pWl L 6 (x.1, 0, 0)).2.1 * 64 + (pWl L 6 (x.1, 0, 0)).2.2)) := by
  have h1 := (pWl_1 h).1
  have e : pPt L 87 x = (true, (pWl L 6 (x.1, 0, 0)).1, x.2.1, nI ((pWl L 6 (x.1, 0, 0)).2.1 * 64 + (pWl L 6 (x.1, 0, 0)).2.2)) := by
    rw [pPt, if_neg (by decide), if_neg (by decide), if_pos rfl, decide_eq_true (show 0 < (pWl L 6 (x.1, 0, 0)).2.1 from h1)]
  rw [pRun, e, if_pos rfl]; rfl
theorem run_W_f {x : PI} (h : isLt (L.getD x.1 0) = false) : (pRun L [87] x).1 = false ∧ (pRun L [87] x).2.1 = x.1 := by
  have e0 : pWl L 6 (x.1, 0, 0) = (x.1, 0, 0) := pWl_stop (x := (x.1, 0, 0)) h
  have e : pPt L 87 x = (false, x.1, x.2.1, nI (0 * 64 + 0)) := by
    rw [pPt, if_neg (by decide), if_neg (by decide), if_pos rfl, e0]; rfl
  rw [pRun, e, if_neg Bool.false_ne_true]; exact ⟨rfl, rfl⟩
/-- an order's numbers in the class and in the model -/
def OV (c l s a b k : Nat) : Prop := (c ≠ 104 → l = a ∧ a ≤ 9) ∧ (c = 115 → s = b * 64 + k ∧ 1 ≤ b ∧ b ≤ 6 ∧ k < 2 ^ b) ∧ (c = 112 ∨ c = 108 ∨ c = 109 → s = b ∧ b ≤ 9)
def RE (c : Nat) (u : Nat) (t : Nat) (N : Nat → Nat) (y : Bool × PI) (X : PX) : Prop := (y.1 = !X.1) ∧ (y.2.1 = X.2.1) ∧ (y.1 = true → OV c y.2.2.1.toNatClampNeg y.2.2.2.toNatClampNeg (X.2.2 (3 * t)) (X.2.2 (3 * t + 1)) (X.2.2 (3 * t + 2)) ∧ u + 1 ≤ y.2.1) ∧ (∀ j, j < 3 * t → X.2.2 j = N j) ∧ ((∀ j, N j < 100) → ∀ j, X.2.2 j < 100)
theorem RE.v {c : Nat} {u : Nat} {t : Nat} {N : Nat → Nat} {y : Bool × PI} {X : PX} (h : RE c u t N y X) : y.1 = !X.1 := h.1
theorem RE.q {c : Nat} {u : Nat} {t : Nat} {N : Nat → Nat} {y : Bool × PI} {X : PX} (h : RE c u t N y X) : y.2.1 = X.2.1 := h.2.1
theorem RE.o {c : Nat} {u : Nat} {t : Nat} {N : Nat → Nat} {y : Bool × PI} {X : PX} (h : RE c u t N y X) : y.1 = true → OV c y.2.2.1.toNatClampNeg y.2.2.2.toNatClampNeg (X.2.2 (3 * t)) (X.2.2 (3 * t + 1)) (X.2.2 (3 * t + 2)) ∧ u + 1 ≤ y.2.1 := h.2.2.1
theorem RE.k {c : Nat} {u : Nat} {t : Nat} {N : Nat → Nat} {y : Bool × PI} {X : PX} (h : RE c u t N y X) : ∀ j, j < 3 * t → X.2.2 j = N j := h.2.2.2.1
theorem RE.b {c : Nat} {u : Nat} {t : Nat} {N : Nat → Nat} {y : Bool × PI} {X : PX} (h : RE c u t N y X) : (∀ j, N j < 100) → ∀ j, X.2.2 j < 100 := h.2.2.2.2
theorem RE.mk {c : Nat} {u : Nat} {t : Nat} {N : Nat → Nat} {y : Bool × PI} {X : PX} (v' : y.1 = !X.1) (q' : y.2.1 = X.2.1) (o' : y.1 = true → OV c y.2.2.1.toNatClampNeg y.2.2.2.toNatClampNeg (X.2.2 (3 * t)) (X.2.2 (3 * t + 1)) (X.2.2 (3 * t + 2)) ∧ u + 1 ≤ y.2.1) (k' : ∀ j, j < 3 * t → X.2.2 j = N j) (b' : (∀ j, N j < 100) → ∀ j, X.2.2 j < 100) : RE c u t N y X := ⟨v', q', o', k', b'⟩
theorem uN_b {j x : Nat} (hx : x < 100) (h : ∀ j, N j < 100) : ∀ i, uN N j x i < 100 := fun i => by
  show (if i = j then x else N i) < 100
  split
  · exact hx
  · exact h i
theorem dg_t {a : Nat} (h : 48 ≤ L.getD p 0 ∧ L.getD p 0 ≤ 57) : dgK L r a (false, p, N) = (false, p + 1, uN N (3 * r + a) (L.getD p 0 - 48)) := by rw [dgK, if_pos ⟨rfl, h⟩]
theorem dg_0 (h : 48 ≤ L.getD p 0 ∧ L.getD p 0 ≤ 57) : dgK L r 0 (false, p, N) = (false, p + 1, uN N (3 * r) (L.getD p 0 - 48)) := dg_t (a := 0) h
theorem dg_f {a : Nat} (h : ¬ (48 ≤ L.getD p 0 ∧ L.getD p 0 ≤ 57)) : dgK L r a (false, p, N) = (true, p, N) := by rw [dgK, if_neg (fun e => h e.2)]
theorem dg_w {a : Nat} : dgK L r a (true, p, N) = (true, p, N) := by rw [dgK, if_neg (fun e => by cases e.1)]
theorem tk_t {c : Nat} (h : L.getD p 0 = c) : tkS L c (false, p, N) = (false, p + 1, N) := by rw [tkS, if_pos ⟨rfl, h⟩]
theorem tk_f {c : Nat} (h : ¬ L.getD p 0 = c) : tkS L c (false, p, N) = (true, p, N) := by rw [tkS, if_neg (fun e => h e.2)]
theorem tk_w {c : Nat} : tkS L c (true, p, N) = (true, p, N) := by rw [tkS, if_neg (fun e => by cases e.1)]
theorem wd_t (h : isLt (L.getD p 0) = true) : wdK L r (false, p, N) = (false, (pWl L 6 (p, 0, 0)).1, uN (uN N (3 * r + 1) (pWl L 6 (p, 0, 0)).2.1) (3 * r + 2) (pWl L 6 (p, 0, 0)).2.2) := by
  rw [wdK, if_pos (show isLtB L false p = true by rw [isLtB, h]; rfl)]
theorem wd_f (h : isLt (L.getD p 0) = false) : wdK L r (false, p, N) = (true, p, uN (uN N (3 * r + 1) 0) (3 * r + 2) 0) := by
  rw [wdK, if_neg (show ¬ isLtB L false p = true by rw [isLtB, h]; decide)]
theorem wd_w : wdK L r (true, p, N) = (true, p, uN (uN N (3 * r + 1) 0) (3 * r + 2) 0) := by
  rw [wdK, if_neg (show ¬ isLtB L true p = true from fun e => by rw [isLtB] at e; cases e)]
theorem re_f {c q : Nat} {y : Bool × PI} {X : PX} (e1 : y.1 = false) (e2 : y.2.1 = q) (eX : X = (true, q, N)) : RE c p r N y X := by
  subst eX
  exact RE.mk e1 e2 (fun h => absurd h (by rw [e1]; decide)) (fun _ _ => rfl) fun h => h
theorem re_f2 {c q j x : Nat} {y : Bool × PI} {X : PX} (e1 : y.1 = false) (e2 : y.2.1 = q) (hj : 3 * r ≤ j) (hx : x < 100) (eX : X = (true, q, uN N j x)) : RE c p r N y X := by
  subst eX
  exact RE.mk e1 e2 (fun h => absurd h (by rw [e1]; decide)) (fun i hi => cF_uN (by omega)) fun h => uN_b hx h
theorem re_1 {c : Nat} (h1 : c ≠ 76) (h2 : c ≠ 68) (h3 : c ≠ 87) (hc : c ≠ 115 ∧ c ≠ 112 ∧ c ≠ 108 ∧ c ≠ 109) (h : L.getD p 0 = c) : RE c p r N (pRun L [c, 76] (p, nI 0, nI 0)) (dgK L r 0 (false, p + 1, N)) := by
  rw [run_sg_t h1 h2 h3 h]
  by_cases d : 48 ≤ L.getD (p + 1) 0 ∧ L.getD (p + 1) 0 ≤ 57
  · rw [run_L_t d, dg_0 d]
    refine RE.mk rfl rfl (fun _ => ⟨⟨fun _ => ?_, fun e => absurd e hc.1, fun e => by omega⟩, by show p + 1 ≤ p + 1 + 1; omega⟩) (fun j hj => cF_uN (by omega)) fun hb => uN_b (by omega) hb
    show (nI (L.getD (p + 1) 0 - 48)).toNatClampNeg = uN N (3 * r) (L.getD (p + 1) 0 - 48) (3 * r) ∧ uN N (3 * r) (L.getD (p + 1) 0 - 48) (3 * r) ≤ 9
    rw [uN_s, nI_c7 (by omega)]; exact ⟨rfl, by omega⟩
  · obtain ⟨e1, e2⟩ := run_L_f (cs := []) (x := (p + 1, nI 0, nI 0)) d
    exact re_f e1 e2 (dg_f d)
theorem re_2 {c o : Nat} (h1 : c ≠ 76) (h2 : c ≠ 68) (h3 : c ≠ 87) (o1 : o ≠ 76) (o2 : o ≠ 68) (o3 : o ≠ 87) (hc : c ≠ 115) (h : L.getD p 0 = c) : RE c p r N (pRun L [c, 76, o, 68] (p, nI 0, nI 0)) (dgK L r 1 (tkS L o (dgK L r 0 (false, p + 1, N)))) := by
  rw [run_sg_t h1 h2 h3 h]
  by_cases d : 48 ≤ L.getD (p + 1) 0 ∧ L.getD (p + 1) 0 ≤ 57
  · rw [run_L_t d, dg_0 d]
    by_cases g : L.getD (p + 1 + 1) 0 = o
    · rw [run_sg_t o1 o2 o3 g, tk_t g]
      by_cases d2 : 48 ≤ L.getD (p + 1 + 1 + 1) 0 ∧ L.getD (p + 1 + 1 + 1) 0 ≤ 57
      · rw [run_D_t d2, dg_t d2]
        refine RE.mk rfl rfl (fun _ => ⟨⟨fun _ => ?_, fun e => absurd e hc, fun _ => ?_⟩, by show p + 1 ≤ p + 1 + 1 + 1 + 1; omega⟩) (fun j hj => (cF_uN (by omega)).trans (cF_uN (by omega))) fun hb => uN_b (by omega) (uN_b (by omega) hb)
        · show (nI (L.getD (p + 1) 0 - 48)).toNatClampNeg = uN (uN N (3 * r) (L.getD (p + 1) 0 - 48)) (3 * r + 1) (L.getD (p + 1 + 1 + 1) 0 - 48) (3 * r) ∧ uN (uN N (3 * r) (L.getD (p + 1) 0 - 48)) (3 * r + 1) (L.getD (p + 1 + 1 + 1) 0 - 48) (3 * r) ≤ 9
          rw [cF_uN (by omega), uN_s, nI_c7 (by omega)]; exact ⟨rfl, by omega⟩
        · show (nI (L.getD (p + 1 + 1 + 1) 0 - 48)).toNatClampNeg = uN (uN N (3 * r) (L.getD (p + 1) 0 - 48)) (3 * r + 1) (L.getD (p + 1 + 1 + 1) 0 - 48) (3 * r + 1) ∧ uN (uN N (3 * r) (L.getD (p + 1) 0 - 48)) (3 * r + 1) (L.getD (p + 1 + 1 + 1) 0 - 48) (3 * r + 1) ≤ 9
          rw [uN_s, nI_c7 (by omega)]; exact ⟨rfl, by omega⟩
      · obtain ⟨e1, e2⟩ := run_D_f (cs := []) (x := (p + 1 + 1 + 1, nI (L.getD (p + 1) 0 - 48), nI 0)) d2
        exact re_f2 e1 e2 (Nat.le_refl _) (by omega) (dg_f d2)
    · rw [tk_f g, dg_w]
      have e := run_sg_f (L := L) (cs := [68]) (x := (p + 1 + 1, nI (L.getD (p + 1) 0 - 48), nI 0)) o1 o2 o3 g
      exact re_f2 (by rw [e]) (by rw [e]) (Nat.le_refl _) (by omega) rfl
  · obtain ⟨e1, e2⟩ := run_L_f (cs := [o, 68]) (x := (p + 1, nI 0, nI 0)) d
    rw [dg_f d, tk_w, dg_w]
    exact re_f e1 e2 rfl
theorem re_3 (h : L.getD p 0 = 115) : RE 115 p r N (pRun L [115, 76, 58, 87] (p, nI 0, nI 0)) (wdK L r (tkS L 58 (dgK L r 0 (false, p + 1, N)))) := by
  rw [run_sg_t (by decide) (by decide) (by decide) h]
  by_cases d : 48 ≤ L.getD (p + 1) 0 ∧ L.getD (p + 1) 0 ≤ 57
  · rw [run_L_t d, dg_0 d]
    by_cases g : L.getD (p + 1 + 1) 0 = 58
    · rw [run_sg_t (by decide) (by decide) (by decide) g, tk_t g]
      cases w : isLt (L.getD (p + 1 + 1 + 1) 0) with
      | true =>
        have hle : p + 1 + 1 + 1 ≤ L.length := Nat.le_of_succ_le (getD_ne (isLt_ne w))
        obtain ⟨w1, w2, w3⟩ := pWl_ok 6 (p + 1 + 1 + 1, 0, 0) hle (Nat.le_refl 6) (show (0 : Nat) < 2 ^ 0 by decide)
        obtain ⟨w4, w5⟩ := pWl_1 w
        have w6 := pw64 w2 w3
        rw [run_W_t w, wd_t w]
        show RE 115 p r N (true, (pWl L 6 (p + 1 + 1 + 1, 0, 0)).1, nI (L.getD (p + 1) 0 - 48), nI ((pWl L 6 (p + 1 + 1 + 1, 0, 0)).2.1 * 64 + (pWl L 6 (p + 1 + 1 + 1, 0, 0)).2.2)) _
        generalize pWl L 6 (p + 1 + 1 + 1, 0, 0) = z at w1 w2 w3 w4 w5 w6 ⊢
        refine RE.mk rfl rfl (fun _ => ⟨⟨fun _ => ?_, fun _ => ?_, fun e => by omega⟩, by show p + 1 ≤ z.1; omega⟩) (fun j hj => (cF_uN (by omega)).trans ((cF_uN (by omega)).trans (cF_uN (by omega)))) fun hb => uN_b (by omega) (uN_b (by omega) (uN_b (by omega) hb))
        · show (nI (L.getD (p + 1) 0 - 48)).toNatClampNeg = uN (uN (uN N (3 * r) (L.getD (p + 1) 0 - 48)) (3 * r + 1) z.2.1) (3 * r + 2) z.2.2 (3 * r) ∧ uN (uN (uN N (3 * r) (L.getD (p + 1) 0 - 48)) (3 * r + 1) z.2.1) (3 * r + 2) z.2.2 (3 * r) ≤ 9
          rw [cF_uN (by omega), cF_uN (by omega), uN_s, nI_c7 (by omega)]; exact ⟨rfl, by omega⟩
        · show (nI (z.2.1 * 64 + z.2.2)).toNatClampNeg = uN (uN (uN N (3 * r) (L.getD (p + 1) 0 - 48)) (3 * r + 1) z.2.1) (3 * r + 2) z.2.2 (3 * r + 1) * 64 + uN (uN (uN N (3 * r) (L.getD (p + 1) 0 - 48)) (3 * r + 1) z.2.1) (3 * r + 2) z.2.2 (3 * r + 2) ∧ 1 ≤ uN (uN (uN N (3 * r) (L.getD (p + 1) 0 - 48)) (3 * r + 1) z.2.1) (3 * r + 2) z.2.2 (3 * r + 1) ∧ uN (uN (uN N (3 * r) (L.getD (p + 1) 0 - 48)) (3 * r + 1) z.2.1) (3 * r + 2) z.2.2 (3 * r + 1) ≤ 6 ∧ uN (uN (uN N (3 * r) (L.getD (p + 1) 0 - 48)) (3 * r + 1) z.2.1) (3 * r + 2) z.2.2 (3 * r + 2) < 2 ^ uN (uN (uN N (3 * r) (L.getD (p + 1) 0 - 48)) (3 * r + 1) z.2.1) (3 * r + 2) z.2.2 (3 * r + 1)
          rw [uN_s, cF_uN (by omega), uN_s, nI_c7 (by omega)]
          exact ⟨rfl, w4, w2, w3⟩
      | false =>
        obtain ⟨e1, e2⟩ := run_W_f (x := (p + 1 + 1 + 1, nI (L.getD (p + 1) 0 - 48), nI 0)) w
        rw [wd_f w]
        refine RE.mk e1 e2 (fun h => absurd h (by rw [e1]; decide)) (fun j hj => ?_) fun hb => uN_b (by omega) (uN_b (by omega) (uN_b (by omega) hb))
        show uN (uN (uN N (3 * r) (L.getD (p + 1) 0 - 48)) (3 * r + 1) 0) (3 * r + 2) 0 j = N j
        rw [cF_uN (by omega), cF_uN (by omega), cF_uN (by omega)]
    · rw [tk_f g, wd_w]
      have e := run_sg_f (L := L) (c := 58) (cs := [87]) (x := (p + 1 + 1, nI (L.getD (p + 1) 0 - 48), nI 0)) (by decide) (by decide) (by decide) g
      refine RE.mk (by rw [e]; rfl) (by rw [e]) (fun h => absurd h (by rw [e]; exact Bool.false_ne_true)) (fun j hj => ?_) fun hb => uN_b (by omega) (uN_b (by omega) (uN_b (by omega) hb))
      show uN (uN (uN N (3 * r) (L.getD (p + 1) 0 - 48)) (3 * r + 1) 0) (3 * r + 2) 0 j = N j
      rw [cF_uN (by omega), cF_uN (by omega), cF_uN (by omega)]
  · obtain ⟨e1, e2⟩ := run_L_f (cs := [58, 87]) (x := (p + 1, nI 0, nI 0)) d
    rw [dg_f d, tk_w, wd_w]
    refine RE.mk e1 e2 (fun h => absurd h (by rw [e1]; decide)) (fun j hj => ?_) fun hb => uN_b (by omega) (uN_b (by omega) hb)
    show uN (uN N (3 * r + 1) 0) (3 * r + 2) 0 j = N j
    rw [cF_uN (by omega), cF_uN (by omega)]
theorem re_4 (h : L.getD p 0 = 104) : RE 104 p r N (pRun L [104] (p, nI 0, nI 0)) (false, p + 1, N) := by
  rw [run_sg_t (by decide) (by decide) (by decide) h]
  exact RE.mk rfl rfl (fun _ => ⟨⟨fun e => absurd rfl e, fun e => absurd e (by decide), fun e => absurd e (by decide)⟩, Nat.le_refl _⟩) (fun _ _ => rfl) fun h => h
/-- an order, in both -/
theorem ord_re (hK : isK (L.getD p 0) = true) : pIx (L.getD p 0) < 9 ∧ RE (L.getD p 0) p r N (pPs L (pIx (L.getD p 0)) (kLen (pIx (L.getD p 0))) 0 (p, nI 0, nI 0)) (mOrd L r p N) := by
  rw [mOrd, if_pos hK]
  have run : ∀ i, i < 9 → pPs L i (kLen i) 0 (p, nI 0, nI 0) = pRun L ([[115, 76, 58, 87], [117, 76], [112, 76, 61, 68], [119, 76], [108, 76, 62, 68], [120, 76], [109, 76, 58, 68], [102, 76], [104]].getD i []) (p, nI 0, nI 0) := fun i hi => pPs_run _ 0 _ _ ((show ∀ i, i < 9 → ([[115, 76, 58, 87], [117, 76], [112, 76, 61, 68], [119, 76], [108, 76, 62, 68], [120, 76], [109, 76, 58, 68], [102, 76], [104]].getD i []).length = kLen i by decide) i hi) (kCh_p i hi)
  rcases isK_m hK with e | e | e | e | e | e | e | e | e
  · rw [e, show pIx 115 = 0 from rfl, run 0 (by decide)]
    exact ⟨by decide, re_3 e⟩
  · rw [e, show pIx 117 = 1 from rfl, run 1 (by decide)]
    exact ⟨by decide, re_1 (by decide) (by decide) (by decide) (by decide) e⟩
  · rw [e, show pIx 112 = 2 from rfl, run 2 (by decide)]
    exact ⟨by decide, re_2 (by decide) (by decide) (by decide) (by decide) (by decide) (by decide) (by decide) e⟩
  · rw [e, show pIx 119 = 3 from rfl, run 3 (by decide)]
    exact ⟨by decide, re_1 (by decide) (by decide) (by decide) (by decide) e⟩
  · rw [e, show pIx 108 = 4 from rfl, run 4 (by decide)]
    exact ⟨by decide, re_2 (by decide) (by decide) (by decide) (by decide) (by decide) (by decide) (by decide) e⟩
  · rw [e, show pIx 120 = 5 from rfl, run 5 (by decide)]
    exact ⟨by decide, re_1 (by decide) (by decide) (by decide) (by decide) e⟩
  · rw [e, show pIx 109 = 6 from rfl, run 6 (by decide)]
    exact ⟨by decide, re_2 (by decide) (by decide) (by decide) (by decide) (by decide) (by decide) (by decide) e⟩
  · rw [e, show pIx 102 = 7 from rfl, run 7 (by decide)]
    exact ⟨by decide, re_1 (by decide) (by decide) (by decide) (by decide) e⟩
  · rw [e, show pIx 104 = 8 from rfl, run 8 (by decide)]
    exact ⟨by decide, re_4 e⟩
theorem pIx_n (hK : isK (L.getD p 0) = false) : pIx (L.getD p 0) = 9 := by
  have h : ¬ (L.getD p 0) ∈ [115, 117, 112, 119, 108, 120, 109, 102, 104] := by
    rw [isK, List.contains_eq_mem, decide_eq_false_iff_not] at hK; exact hK
  simp only [List.mem_cons, List.not_mem_nil, or_false, not_or] at h
  obtain ⟨a, b, c, d, e, f, g, i, j⟩ := h
  rw [pIx, if_neg a, if_neg b, if_neg c, if_neg d, if_neg e, if_neg f, if_neg g, if_neg i, if_neg j]
end W87
