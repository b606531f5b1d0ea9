/-! ONE INPUT, TWICE: all orders -/
section W88
variable {S : St} {L : List Nat} {N K : Nat → Nat} {r p : Nat}
def PS (L : List Nat) (S : St) (r : Nat) (N : Nat → Nat) (K : Nat → Nat) : Prop := (S.1 0 = L) ∧ ((S.1 1).length = r) ∧ ((S.1 2).length = r) ∧ ((S.1 3).length = r) ∧ (∀ i, i < r → isK (K i) = true ∧ (S.1 1).getD i 0 = K i ∧ OV (K i) ((S.1 2).getD i 0) ((S.1 3).getD i 0) (N (3 * i)) (N (3 * i + 1)) (N (3 * i + 2)))
theorem PS.r0 {L : List Nat} {S : St} {r : Nat} {N : Nat → Nat} {K : Nat → Nat} (h : PS L S r N K) : S.1 0 = L := h.1
theorem PS.l1 {L : List Nat} {S : St} {r : Nat} {N : Nat → Nat} {K : Nat → Nat} (h : PS L S r N K) : (S.1 1).length = r := h.2.1
theorem PS.l2 {L : List Nat} {S : St} {r : Nat} {N : Nat → Nat} {K : Nat → Nat} (h : PS L S r N K) : (S.1 2).length = r := h.2.2.1
theorem PS.l3 {L : List Nat} {S : St} {r : Nat} {N : Nat → Nat} {K : Nat → Nat} (h : PS L S r N K) : (S.1 3).length = r := h.2.2.2.1
theorem PS.o {L : List Nat} {S : St} {r : Nat} {N : Nat → Nat} {K : Nat → Nat} (h : PS L S r N K) : ∀ i, i < r → isK (K i) = true ∧ (S.1 1).getD i 0 = K i ∧ OV (K i) ((S.1 2).getD i 0) ((S.1 3).getD i 0) (N (3 * i)) (N (3 * i + 1)) (N (3 * i + 2)) := h.2.2.2.2
theorem PS.mk {L : List Nat} {S : St} {r : Nat} {N : Nat → Nat} {K : Nat → Nat} (r0' : S.1 0 = L) (l1' : (S.1 1).length = r) (l2' : (S.1 2).length = r) (l3' : (S.1 3).length = r) (o' : ∀ i, i < r → isK (K i) = true ∧ (S.1 1).getD i 0 = K i ∧ OV (K i) ((S.1 2).getD i 0) ((S.1 3).getD i 0) (N (3 * i)) (N (3 * i + 1)) (N (3 * i + 2))) : PS L S r N K := ⟨r0', l1', l2', l3', o'⟩
def PQ (L : List Nat) (N : Nat → Nat) (y : Bool × St × PI) (Y : PY) : Prop := (PS L y.2.1 Y.2.1 Y.1.2.2 Y.2.2) ∧ (y.1 = !Y.1.1) ∧ (y.2.2.1 = Y.1.2.1) ∧ (y.1 = true → 2 * Y.2.1 ≤ y.2.2.1 + 1) ∧ (Y.2.1 ≤ 31) ∧ ((∀ j, N j < 100) → ∀ j, Y.1.2.2 j < 100)
theorem PQ.s {L : List Nat} {N : Nat → Nat} {y : Bool × St × PI} {Y : PY} (h : PQ L N y Y) : PS L y.2.1 Y.2.1 Y.1.2.2 Y.2.2 := h.1
theorem PQ.v {L : List Nat} {N : Nat → Nat} {y : Bool × St × PI} {Y : PY} (h : PQ L N y Y) : y.1 = !Y.1.1 := h.2.1
theorem PQ.q {L : List Nat} {N : Nat → Nat} {y : Bool × St × PI} {Y : PY} (h : PQ L N y Y) : y.2.2.1 = Y.1.2.1 := h.2.2.1
theorem PQ.rr {L : List Nat} {N : Nat → Nat} {y : Bool × St × PI} {Y : PY} (h : PQ L N y Y) : y.1 = true → 2 * Y.2.1 ≤ y.2.2.1 + 1 := h.2.2.2.1
theorem PQ.m {L : List Nat} {N : Nat → Nat} {y : Bool × St × PI} {Y : PY} (h : PQ L N y Y) : Y.2.1 ≤ 31 := h.2.2.2.2.1
theorem PQ.b {L : List Nat} {N : Nat → Nat} {y : Bool × St × PI} {Y : PY} (h : PQ L N y Y) : (∀ j, N j < 100) → ∀ j, Y.1.2.2 j < 100 := h.2.2.2.2.2
theorem PQ.mk {L : List Nat} {N : Nat → Nat} {y : Bool × St × PI} {Y : PY} (s' : PS L y.2.1 Y.2.1 Y.1.2.2 Y.2.2) (v' : y.1 = !Y.1.1) (q' : y.2.2.1 = Y.1.2.1) (rr' : y.1 = true → 2 * Y.2.1 ≤ y.2.2.1 + 1) (m' : Y.2.1 ≤ 31) (b' : (∀ j, N j < 100) → ∀ j, Y.1.2.2 j < 100) : PQ L N y Y := ⟨s', v', q', rr', m', b'⟩
theorem pOr_1 {x : PI} (h : pIx ((S.1 0).getD x.1 0) = 9) : pOr S x = (false, S, x) := if_pos h
theorem pOr_g {x : PI} (h : pIx ((S.1 0).getD x.1 0) < 9) (h2 : (pPs (S.1 0) (pIx ((S.1 0).getD x.1 0)) (kLen (pIx ((S.1 0).getD x.1 0))) 0 (x.1, nI 0, nI 0)).1 = false) : pOr S x = (false, S, (pPs (S.1 0) (pIx ((S.1 0).getD x.1 0)) (kLen (pIx ((S.1 0).getD x.1 0))) 0 (x.1, nI 0, nI 0)).2) := by
  rw [pOr, if_neg (by omega), if_neg (by rw [h2]; decide)]
theorem ord_pq (hs : PS L S r N K) (hL : L.length ≤ 60) (hr : 2 * r ≤ p) (hp60 : p ≤ 60) {l s : Int32} : PQ L N (pOr S (p, l, s)) (mOrY L r p N K) ∧ ((pOr S (p, l, s)).1 = true → p + 1 ≤ (pOr S (p, l, s)).2.2.1) := by
  cases hK : isK (L.getD p 0) with
  | false =>
    have e1 : pOr S (p, l, s) = (false, S, (p, l, s)) := pOr_1 (by show pIx ((S.1 0).getD p 0) = 9; rw [hs.r0]; exact pIx_n hK)
    have e2 : mOrd L r p N = (true, p, N) := by rw [mOrd, if_neg (by rw [hK]; decide)]
    have e3 : mOrY L r p N K = ((true, p, N), r, K) := by rw [mOrY, e2]; rfl
    rw [e1, e3]
    exact ⟨PQ.mk hs rfl rfl (fun h => by cases h) (by show r ≤ 31; omega) fun h => h, fun h => by cases h⟩
  | true =>
    obtain ⟨h9, hR⟩ := ord_re (r := r) (N := N) hK
    have hp : p < L.length := getD_ne (fun e => by
      rw [isK, List.contains_eq_mem, decide_eq_true_eq, e] at hK
      exact absurd hK (by decide))
    cases hy : (pPs L (pIx (L.getD p 0)) (kLen (pIx (L.getD p 0))) 0 (p, nI 0, nI 0)).1 with
    | false =>
      have hX : (mOrd L r p N).1 = true := by have := hR.v; rw [hy] at this; simpa using this.symm
      have e1 : pOr S (p, l, s) = (false, S, (pPs L (pIx (L.getD p 0)) (kLen (pIx (L.getD p 0))) 0 (p, nI 0, nI 0)).2) := by
        have := pOr_g (S := S) (x := (p, l, s)) (by show pIx ((S.1 0).getD p 0) < 9; rw [hs.r0]; exact h9) (by show (pPs (S.1 0) (pIx ((S.1 0).getD p 0)) (kLen (pIx ((S.1 0).getD p 0))) 0 (p, nI 0, nI 0)).1 = false; rw [hs.r0]; exact hy)
        rw [this, hs.r0]
      have e3 : mOrY L r p N K = (mOrd L r p N, r, K) := by rw [mOrY, if_pos hX, if_pos hX]
      rw [e1, e3]
      refine ⟨PQ.mk (PS.mk hs.r0 hs.l1 hs.l2 hs.l3 fun i hi => ?_) ?_ hR.q (fun h => by cases h) (by show r ≤ 31; omega) hR.b, fun h => by cases h⟩
      · replace hi : i < r := hi
        obtain ⟨a, b, c⟩ := hs.o i hi
        refine ⟨a, b, ?_⟩
        show OV (K i) ((S.1 2).getD i 0) ((S.1 3).getD i 0) ((mOrd L r p N).2.2 (3 * i)) ((mOrd L r p N).2.2 (3 * i + 1)) ((mOrd L r p N).2.2 (3 * i + 2))
        rw [hR.k _ (by omega), hR.k _ (by omega), hR.k _ (by omega)]; exact c
      · show false = !(mOrd L r p N).1
        rw [hX]; rfl
    | true =>
      have hX : (mOrd L r p N).1 = false := by have := hR.v; rw [hy] at this; simpa using this.symm
      obtain ⟨ho, hq⟩ := hR.o hy
      have hpe := hR.q
      have hkk := hR.k
      have hbb := hR.b
      have e3 : mOrY L r p N K = (mOrd L r p N, r + 1, uN K r (L.getD p 0)) := by rw [mOrY, if_neg (by rw [hX]; decide), if_neg (by rw [hX]; decide)]
      have e1 : ∃ z : PI, z = (pPs L (pIx (L.getD p 0)) (kLen (pIx (L.getD p 0))) 0 (p, nI 0, nI 0)).2 ∧ pOr S (p, l, s) = (true, uR (uR (uR S 1 (S.1 1 ++ [L.getD p 0])) 2 (S.1 2 ++ [z.2.1.toNatClampNeg])) 3 (S.1 3 ++ [z.2.2.toNatClampNeg]), z) := by
        refine ⟨_, rfl, ?_⟩
        rw [pOr]
        show (if pIx ((S.1 0).getD p 0) = 9 then _ else _) = _
        rw [if_neg (by rw [hs.r0]; omega), if_pos (by show (pPs (S.1 0) (pIx ((S.1 0).getD p 0)) (kLen (pIx ((S.1 0).getD p 0))) 0 (p, nI 0, nI 0)).1 = true; rw [hs.r0]; exact hy)]
        rw [rAdd, rAdd, rAdd, if_pos (by rw [hs.l1]; omega), if_pos (by rw [hs.l2]; omega), if_pos (by rw [hs.l3]; omega), hs.r0]
      obtain ⟨z, hz, e1⟩ := e1
      rw [← hz] at ho hq hpe
      rw [e1, e3]
      refine ⟨PQ.mk (PS.mk hs.r0 ?_ ?_ ?_ fun i hi => ?_) ?_ hpe (fun _ => by show 2 * (r + 1) ≤ z.1 + 1; omega) (by show r + 1 ≤ 31; omega) hbb, fun _ => hq⟩
      · show (S.1 1 ++ [L.getD p 0]).length = r + 1
        rw [List.length_append, hs.l1]; rfl
      · show (S.1 2 ++ [z.2.1.toNatClampNeg]).length = r + 1
        rw [List.length_append, hs.l2]; rfl
      · show (S.1 3 ++ [z.2.2.toNatClampNeg]).length = r + 1
        rw [List.length_append, hs.l3]; rfl
      · show isK (uN K r (L.getD p 0) i) = true ∧ (S.1 1 ++ [L.getD p 0]).getD i 0 = uN K r (L.getD p 0) i ∧ OV (uN K r (L.getD p 0) i) ((S.1 2 ++ [z.2.1.toNatClampNeg]).getD i 0) ((S.1 3 ++ [z.2.2.toNatClampNeg]).getD i 0) ((mOrd L r p N).2.2 (3 * i)) ((mOrd L r p N).2.2 (3 * i + 1)) ((mOrd L r p N).2.2 (3 * i + 2))
        replace hi : i < r + 1 := hi
        by_cases g : i = r
        · subst g
          rw [uN_s]
          have a1 := getD_last (L := S.1 1) (s := L.getD p 0)
          have a2 := getD_last (L := S.1 2) (s := z.2.1.toNatClampNeg)
          have a3 := getD_last (L := S.1 3) (s := z.2.2.toNatClampNeg)
          rw [hs.l1] at a1
          rw [hs.l2] at a2
          rw [hs.l3] at a3
          rw [a1, a2, a3]
          exact ⟨hK, rfl, ho⟩
        · obtain ⟨a, b, c⟩ := hs.o i (by omega)
          rw [cF_uN g, getD_app (by rw [hs.l1]; omega), getD_app (by rw [hs.l2]; omega), getD_app (by rw [hs.l3]; omega), hkk _ (by omega), hkk _ (by omega), hkk _ (by omega)]
          exact ⟨a, b, c⟩
      · show true = !(mOrd L r p N).1
        rw [hX]; rfl
theorem pLp_stop {y : Bool × St × PI} : ∀ q, ¬ (y.1 = true ∧ y.2.2.1 < (y.2.1.1 0).length) → pLp q y = y
  | 0, _ => rfl
  | q + 1, h => by rw [pLp, if_neg h]
theorem mLp_stop {Y : PY} : ∀ q, ¬ (Y.1.1 = false ∧ L.getD Y.1.2.1 0 = 59) → mLp L q Y = Y
  | 0, _ => rfl
  | q + 1, h => by rw [mLp, if_neg h]
def PE (L : List Nat) (N : Nat → Nat) (y : Bool × St × PI) (Y : PY) : Prop := (PS L y.2.1 Y.2.1 Y.1.2.2 Y.2.2) ∧ (y.1 = true ↔ (Y.1.1 || decide (Y.1.2.1 < L.length)) = false) ∧ (y.2.2.1 = Y.1.2.1) ∧ (Y.2.1 ≤ 31) ∧ ((∀ j, N j < 100) → ∀ j, Y.1.2.2 j < 100)
theorem PE.s {L : List Nat} {N : Nat → Nat} {y : Bool × St × PI} {Y : PY} (h : PE L N y Y) : PS L y.2.1 Y.2.1 Y.1.2.2 Y.2.2 := h.1
theorem PE.v {L : List Nat} {N : Nat → Nat} {y : Bool × St × PI} {Y : PY} (h : PE L N y Y) : y.1 = true ↔ (Y.1.1 || decide (Y.1.2.1 < L.length)) = false := h.2.1
theorem PE.q {L : List Nat} {N : Nat → Nat} {y : Bool × St × PI} {Y : PY} (h : PE L N y Y) : y.2.2.1 = Y.1.2.1 := h.2.2.1
theorem PE.m {L : List Nat} {N : Nat → Nat} {y : Bool × St × PI} {Y : PY} (h : PE L N y Y) : Y.2.1 ≤ 31 := h.2.2.2.1
theorem PE.b {L : List Nat} {N : Nat → Nat} {y : Bool × St × PI} {Y : PY} (h : PE L N y Y) : (∀ j, N j < 100) → ∀ j, Y.1.2.2 j < 100 := h.2.2.2.2
theorem PE.mk {L : List Nat} {N : Nat → Nat} {y : Bool × St × PI} {Y : PY} (s' : PS L y.2.1 Y.2.1 Y.1.2.2 Y.2.2) (v' : y.1 = true ↔ (Y.1.1 || decide (Y.1.2.1 < L.length)) = false) (q' : y.2.2.1 = Y.1.2.1) (m' : Y.2.1 ≤ 31) (b' : (∀ j, N j < 100) → ∀ j, Y.1.2.2 j < 100) : PE L N y Y := ⟨s', v', q', m', b'⟩
theorem lp_pe (hL : L.length ≤ 60) : ∀ (q q' : Nat) (y : Bool × St × PI) (Y : PY), PQ L N y Y → (y.1 = true → L.length ≤ y.2.2.1 + q ∧ L.length ≤ y.2.2.1 + q') → PE L N (pLp q y) (mLp L q' Y)
  | q, q', y, Y, h, hf => by
    cases hy : y.1 with
    | false =>
      have hY : Y.1.1 = true := by have := h.v; rw [hy] at this; simpa using this.symm
      rw [pLp_stop q (fun e => by rw [hy] at e; cases e.1), mLp_stop q' (fun e => by rw [hY] at e; cases e.1)]
      exact PE.mk h.s (by rw [hy, hY]; exact ⟨fun e => (by cases e), fun e => (by cases e)⟩) h.q h.m h.b
    | true =>
      have hY : Y.1.1 = false := by have := h.v; rw [hy] at this; simpa using this.symm
      obtain ⟨f1, f2⟩ := hf hy
      by_cases hp : y.2.2.1 < L.length
      · cases q with
        | zero => omega
        | succ q =>
          cases q' with
          | zero => omega
          | succ q' =>
            rw [pLp, if_pos ⟨hy, by rw [h.s.r0]; exact hp⟩]
            by_cases g : L.getD y.2.2.1 0 = 59
            · rw [mLp, if_pos ⟨hY, by rw [← h.q]; exact g⟩]
              have e0 : pSg (y.2.1.1 0) 59 y.2.2.1 = (true, y.2.2.1 + 1) := by rw [h.s.r0, pSg, if_pos g]
              have e1 : pNx y = pOr y.2.1 (y.2.2.1 + 1, y.2.2.2.1, y.2.2.2.2) := by rw [pNx, e0, if_pos rfl]
              rw [e1, ← h.q]
              obtain ⟨o1, o2⟩ := ord_pq h.s hL (p := y.2.2.1 + 1) (by have := h.rr hy; omega) (by omega) (l := y.2.2.2.1) (s := y.2.2.2.2)
              refine lp_pe hL q q' _ _ (PQ.mk o1.s o1.v o1.q o1.rr o1.m fun hb => o1.b (h.b hb)) fun e => ?_
              have := o2 e
              omega
            · rw [mLp_stop (q' + 1) (fun e => g (by rw [h.q]; exact e.2))]
              have e0 : pSg (y.2.1.1 0) 59 y.2.2.1 = (false, y.2.2.1) := by rw [h.s.r0, pSg, if_neg g]
              rw [pNx, e0, if_neg Bool.false_ne_true, pLp_stop q (fun e => by cases e.1)]
              refine PE.mk h.s ?_ h.q h.m h.b
              rw [hY, ← h.q, decide_eq_true hp]
              exact ⟨fun e => (by cases e), fun e => (by cases e)⟩
      · rw [pLp_stop q (fun e => by rw [h.s.r0] at e; exact hp e.2), mLp_stop q' (fun e => by
          rw [← h.q, List.getD_eq_getElem?_getD, List.getElem?_eq_none (by omega)] at e
          exact absurd e.2 (show ¬ (0 : Nat) = 59 by decide))]
        refine PE.mk h.s ?_ h.q h.m h.b
        rw [hY, hy, ← h.q, decide_eq_false hp]
        exact ⟨fun _ => rfl, fun _ => rfl⟩
/-- the whole input, in both -/
theorem par_pe (hS : S.1 0 = L) (hL : L.length ≤ 60) {l s : Int32} : PE L N (pPar S l s) (mPar L N K) := by
  have h0 : PS L (pClr S) 0 N K := PS.mk hS rfl rfl rfl fun i hi => absurd hi (Nat.not_lt_zero _)
  obtain ⟨o1, -⟩ := ord_pq h0 hL (Nat.le_refl 0) (Nat.zero_le _) (l := l) (s := s)
  exact lp_pe hL 60 61 _ _ o1 fun _ => ⟨by omega, by omega⟩
theorem kOk_of {c l s a b k : Nat} (hK : isK c = true) (ho : OV c l s a b k) (ha : a < 100) (hb : b < 100) (hk : k < 100) : kOk c a b k := by
  have hm : c = 115 ∨ c = 117 ∨ c = 112 ∨ c = 119 ∨ c = 108 ∨ c = 120 ∨ c = 109 ∨ c = 102 ∨ c = 104 := by
    rw [isK, List.contains_eq_mem, decide_eq_true_eq] at hK
    simpa using hK
  refine ⟨hm, ha, hb, hk, fun e => ?_⟩
  obtain ⟨-, h1, h2, h3⟩ := ho.2.1 e
  exact ⟨h2, pw64 h2 h3⟩
end W88
