/-! WHAT ALL STATES KEEP -/
section W86
variable {S : St} {F : Nat → Nat} {n : Nat} {L : List Nat}
def wN (S : St) (l : Nat) : Nat := if (gWh (S.1 11) l).isSome = true then 1 else 0
def eC (L : List Nat) (l k : Nat) : Nat := L.countP fun s => decide (dW s = l) && decide (k ≤ dH s)
def sum7 (f : Nat → Nat) : Nat := f 0 + f 1 + f 2 + f 3 + f 4 + f 5 + f 6
def Iv (n : Nat) (S : St) : Prop := (Sh n S) ∧ (So S) ∧ (DW (S.1 0)) ∧ (∀ l, l < 7 → ∀ k, 1 ≤ k → k ≤ 5 → eC (S.1 12) l k ≤ 4 * (5 - k + wN S l)) ∧ ((S.1 11).length ≤ 140 + sum7 (wN S)) ∧ (∀ l, l < 7 → stt S l = 2 → (S.1 4).getD l 0 ≤ 9)
theorem Iv.sh {n : Nat} {S : St} (h : Iv n S) : Sh n S := h.1
theorem Iv.so {n : Nat} {S : St} (h : Iv n S) : So S := h.2.1
theorem Iv.dw {n : Nat} {S : St} (h : Iv n S) : DW (S.1 0) := h.2.2.1
theorem Iv.ec {n : Nat} {S : St} (h : Iv n S) : ∀ l, l < 7 → ∀ k, 1 ≤ k → k ≤ 5 → eC (S.1 12) l k ≤ 4 * (5 - k + wN S l) := h.2.2.2.1
theorem Iv.el {n : Nat} {S : St} (h : Iv n S) : (S.1 11).length ≤ 140 + sum7 (wN S) := h.2.2.2.2.1
theorem Iv.mt {n : Nat} {S : St} (h : Iv n S) : ∀ l, l < 7 → stt S l = 2 → (S.1 4).getD l 0 ≤ 9 := h.2.2.2.2.2
theorem Iv.mk {n : Nat} {S : St} (sh' : Sh n S) (so' : So S) (dw' : DW (S.1 0)) (ec' : ∀ l, l < 7 → ∀ k, 1 ≤ k → k ≤ 5 → eC (S.1 12) l k ≤ 4 * (5 - k + wN S l)) (el' : (S.1 11).length ≤ 140 + sum7 (wN S)) (mt' : ∀ l, l < 7 → stt S l = 2 → (S.1 4).getD l 0 ≤ 9) : Iv n S := ⟨sh', so', dw', ec', el', mt'⟩
theorem wN_le (S : St) (l : Nat) : wN S l ≤ 1 := by unfold wN; split <;> omega
theorem eC_cons {x : Nat} {l k : Nat} : eC (x :: L) l k = eC L l k + if dW x = l ∧ k ≤ dH x then 1 else 0 := by
  unfold eC
  rw [List.countP_cons]
  congr 1
  by_cases g : dW x = l ∧ k ≤ dH x
  · rw [if_pos g, g.1, if_pos (by simp [g.2])]
  · rw [if_neg g, if_neg (by rw [Bool.and_eq_true, decide_eq_true_eq, decide_eq_true_eq]; exact g)]
theorem eC_app {x : Nat} {l k : Nat} : eC (L ++ [x]) l k = eC L l k + if dW x = l ∧ k ≤ dH x then 1 else 0 := by
  unfold eC
  rw [List.countP_append]
  show eC L l k + eC [x] l k = _
  rw [eC_cons]
  show eC L l k + (0 + _) = _
  rw [Nat.zero_add]; rfl
theorem eC_all : ∀ (L : List Nat), (∀ s ∈ L, dW s < 7 ∧ 1 ≤ dH s) → L.length = sum7 fun l => eC L l 1
  | [], _ => rfl
  | x :: L, h => by
    have ih := eC_all L fun s hs => h s (List.mem_cons_of_mem _ hs)
    obtain ⟨h1, h2⟩ := h x (List.mem_cons_self ..)
    have hc : dW x = 0 ∨ dW x = 1 ∨ dW x = 2 ∨ dW x = 3 ∨ dW x = 4 ∨ dW x = 5 ∨ dW x = 6 := by omega
    unfold sum7 at ih ⊢
    rw [List.length_cons, ih]
    simp only [eC_cons]
    rcases hc with e | e | e | e | e | e | e <;> simp [e, h2] <;> omega
theorem Iv.h12 (h : Iv n S) : (S.1 12).length ≤ 140 := by
  rw [eC_all (S.1 12) fun s hs => ⟨h.so.ew s hs, (h.so.eh s hs).1⟩]
  have k := fun l hl => h.ec l hl 1 (Nat.le_refl _) (by decide)
  have w := wN_le S
  have a0 := k 0 (by decide); have a1 := k 1 (by decide); have a2 := k 2 (by decide); have a3 := k 3 (by decide); have a4 := k 4 (by decide); have a5 := k 5 (by decide); have a6 := k 6 (by decide)
  have b0 := w 0; have b1 := w 1; have b2 := w 2; have b3 := w 3; have b4 := w 4; have b5 := w 5; have b6 := w 6
  unfold sum7; dsimp only; omega
theorem Iv.h12b (h : Iv n S) {l : Nat} (hl : l < 7) (hn : gWh (S.1 11) l = none) : (S.1 12).length ≤ 136 := by
  rw [eC_all (S.1 12) fun s hs => ⟨h.so.ew s hs, (h.so.eh s hs).1⟩]
  have k := fun l hl => h.ec l hl 1 (Nat.le_refl _) (by decide)
  have w := wN_le S
  have z : wN S l = 0 := by unfold wN; rw [hn]; rfl
  have a0 := k 0 (by decide); have a1 := k 1 (by decide); have a2 := k 2 (by decide); have a3 := k 3 (by decide); have a4 := k 4 (by decide); have a5 := k 5 (by decide); have a6 := k 6 (by decide)
  have b0 := w 0; have b1 := w 1; have b2 := w 2; have b3 := w 3; have b4 := w 4; have b5 := w 5; have b6 := w 6
  have hc : l = 0 ∨ l = 1 ∨ l = 2 ∨ l = 3 ∨ l = 4 ∨ l = 5 ∨ l = 6 := by omega
  unfold sum7
  dsimp only
  rcases hc with rfl | rfl | rfl | rfl | rfl | rfl | rfl <;> omega
theorem Iv.h11 (h : Iv n S) : (S.1 11).length ≤ 147 := by
  have e := h.el
  have w := wN_le S
  have b0 := w 0; have b1 := w 1; have b2 := w 2; have b3 := w 3; have b4 := w 4; have b5 := w 5; have b6 := w 6
  unfold sum7 at e; omega
theorem Iv.h11b (h : Iv n S) {l : Nat} (hl : l < 7) (hn : gWh (S.1 11) l = none) : (S.1 11).length < 147 := by
  have e := h.el
  have w := wN_le S
  have z : wN S l = 0 := by unfold wN; rw [hn]; rfl
  have b0 := w 0; have b1 := w 1; have b2 := w 2; have b3 := w 3; have b4 := w 4; have b5 := w 5; have b6 := w 6
  have hc : l = 0 ∨ l = 1 ∨ l = 2 ∨ l = 3 ∨ l = 4 ∨ l = 5 ∨ l = 6 := by omega
  unfold sum7 at e
  rcases hc with rfl | rfl | rfl | rfl | rfl | rfl | rfl <;> omega
theorem so_of {S' : St} (h : So S) (e11 : S'.1 11 = S.1 11) (e12 : S'.1 12 = S.1 12) : So S' := by
  refine So.mk ?_ ?_ ?_ ?_ ?_ ?_ ?_ ?_ ?_ ?_ ?_ ?_
  · rw [e11]; exact h.tx
  · rw [e11]; exact h.th
  · rw [e11]; exact h.tt
  · rw [e11]; exact h.tw
  · rw [e11]; exact h.te
  · rw [e11]; exact h.td
  · rw [e12]; exact h.ex
  · rw [e12]; exact h.eh
  · rw [e12]; exact h.et
  · rw [e12]; exact h.ew
  · rw [e12]; exact h.ee
  · rw [e12]; exact h.ed
theorem wN_e {S' : St} (e : S'.1 11 = S.1 11) : wN S' = wN S := by funext l; rw [wN, wN, e]
theorem iv_of {S' : St} {m : Nat} (h : Iv n S) (hs : Sh m S') (e11 : S'.1 11 = S.1 11) (e12 : S'.1 12 = S.1 12) (dw : DW (S'.1 0)) (mt : ∀ l, l < 7 → stt S l = 2 → (S'.1 4).getD l 0 ≤ 9) : Iv m S' := by
  refine Iv.mk hs (so_of h.so e11 e12) dw ?_ ?_ ?_
  · intro l hl k h1 h5
    rw [e12, wN_e e11]; exact h.ec l hl k h1 h5
  · rw [e11, wN_e e11]; exact h.el
  · intro l hl h2
    rw [stt_e e11] at h2; exact mt l hl h2
theorem Iv.up (h : Iv n S) {m : Nat} (hm : n ≤ m) : Iv m S := iv_of h (h.sh.up hm) rfl rfl h.dw h.mt
theorem dw_set (h : DW L) (hL : L.length = 7) {l x : Nat} (hl : l < 7) (hx : x = 0 ∨ ∀ j, j < 7 → L.getD j 0 ≠ x) : DW (L.set l x) := by
  intro i j hi hj e ne
  rw [getD_set (by omega), getD_set (by omega)] at e
  rw [getD_set (by omega)] at ne
  by_cases g1 : i = l
  · by_cases g2 : j = l
    · rw [g1, g2]
    · rw [if_pos g1, if_neg g2] at e
      rw [if_pos g1] at ne
      rcases hx with x0 | xh
      · exact absurd x0 ne
      · exact absurd e.symm (xh j hj)
  · rw [if_neg g1] at e ne
    by_cases g2 : j = l
    · rw [if_pos g2] at e
      rcases hx with x0 | xh
      · exact absurd (e.trans x0) ne
      · exact absurd e (xh i hi)
    · rw [if_neg g2] at e; exact h i j hi hj e ne
theorem iv_word (h : Iv n S) {l x : Nat} (hl : l < 7) (hx : okW x) (hd : x = 0 ∨ ∀ j, j < 7 → (S.1 0).getD j 0 ≠ x) : Iv n (uR S 0 ((S.1 0).set l x)) :=
  iv_of h (h.sh.set (b := 0) hx) (uR_e (by decide)) (uR_e (by decide)) (by rw [uR_b]; exact dw_set h.dw (h.sh.l7 0 (by decide)) hl hd) (by rw [uR_e (by decide)]; exact h.mt)
theorem fl_1 {p : Prop} [Decidable p] {x y : Fl} (h : (if p then x else y).1 = 0) (hx : x.1 ≠ 0) : ¬ p ∧ y.1 = 0 := by
  by_cases g : p
  · rw [if_pos g] at h; exact absurd h hx
  · rw [if_neg g] at h; exact ⟨g, h⟩
theorem one_ne : ((1, none) : Fl).1 ≠ 0 := by decide
theorem two_ne : ((2, none) : Fl).1 ≠ 0 := by decide
theorem bad_ne {f v : Int32} : (bad f v).1 ≠ 0 := show (3 : Nat) ≠ 0 by decide
theorem isL_d {l : Int32} (h : ¬ isL l = false) : l.toNatClampNeg < 7 ∧ l = nI l.toNatClampNeg := by
  obtain ⟨j, hj, rfl⟩ := isL_7 h
  rw [nI_c7 (by omega)]; exact ⟨hj, rfl⟩
theorem sign_ok {l m b : Int32} (h : (fSign S l m b).1 = 0) : l.toNatClampNeg < 7 ∧ 1 ≤ m.toNatClampNeg ∧ m.toNatClampNeg ≤ 6 ∧ b.toNatClampNeg < 2 ^ m.toNatClampNeg ∧ b.toNatClampNeg < 64 ∧ (∀ j, j < 7 → (S.1 0).getD j 0 ≠ m.toNatClampNeg * 64 + b.toNatClampNeg) ∧ m = nI m.toNatClampNeg ∧ b = nI b.toNatClampNeg := by
  rw [fSign] at h
  obtain ⟨h1, h⟩ := fl_1 h one_ne
  obtain ⟨h2, h⟩ := fl_1 h two_ne
  obtain ⟨h3, h⟩ := fl_1 h two_ne
  obtain ⟨h4, h⟩ := fl_1 h two_ne
  have hw : isWd m b = true := by
    rw [isWd, show isN m = true by simpa using h2, Bool.true_and]
    cases e : inI b (nI 0) (nI (2 ^ m.toNatClampNeg - 1)) with
    | true => rfl
    | false => rcases inI_f.mp e with g | g
               · exact absurd g h3
               · exact absurd g h4
  obtain ⟨m', b', a1, a2, a3, a4, rfl, rfl⟩ := isWd_t hw
  rw [nI_c7 (by omega), nI_c7 (by omega)] at h ⊢
  refine ⟨(isL_d h1).1, a1, a2, a3, a4, fun j hj e => ?_, rfl, rfl⟩
  cases eo : gOwner (S.1 0) (m' * 64 + b') with
  | none =>
    exact List.find?_eq_none.mp eo j (List.mem_range.mpr hj) (decide_eq_true e)
  | some o => rw [eo] at h; exact absurd h bad_ne
theorem iv_sign (h : Iv n S) {l m b : Int32} (hf : (fSign S l m b).1 = 0) : Iv n (uR S 0 ((S.1 0).set l.toNatClampNeg (m.toNatClampNeg * 64 + b.toNatClampNeg))) := by
  obtain ⟨h1, h2, h3, h4, h5, h6, -⟩ := sign_ok hf
  refine iv_word h h1 (Or.inr ⟨by omega, by omega, ?_⟩) (Or.inr h6)
  rw [show (m.toNatClampNeg * 64 + b.toNatClampNeg) % 64 = b.toNatClampNeg by omega, show (m.toNatClampNeg * 64 + b.toNatClampNeg) / 64 = m.toNatClampNeg by omega]
  exact h4
theorem uns_ok {l : Int32} (h : (fUns S l).1 = 0) : l.toNatClampNeg < 7 := by
  rw [fUns] at h
  exact (isL_d (fl_1 h one_ne).1).1
theorem iv_unsign (h : Iv n S) {l : Int32} (hf : (fUns S l).1 = 0) : Iv n (uR S 0 ((S.1 0).set l.toNatClampNeg 0)) := iv_word h (uns_ok hf) (Or.inl rfl) (Or.inl rfl)
theorem pri_ok {l p : Int32} (h : (fPri S l p).1 = 0) : l.toNatClampNeg < 7 ∧ p.toNatClampNeg ≤ 9 ∧ p = nI p.toNatClampNeg := by
  rw [fPri] at h
  obtain ⟨h1, h⟩ := fl_1 h one_ne
  obtain ⟨h2, h⟩ := fl_1 h two_ne
  obtain ⟨h3, h⟩ := fl_1 h two_ne
  have : inI p (nI 0) (nI 9) = true := by
    cases e : inI p (nI 0) (nI 9) with
    | true => rfl
    | false => rcases inI_f.mp e with g | g
               · exact absurd g h2
               · exact absurd g h3
  obtain ⟨k, -, hk, rfl⟩ := inI_t (by decide) (by decide) this
  rw [nI_c7 (by omega)]
  exact ⟨(isL_d h1).1, hk, rfl⟩
theorem iv_pri (h : Iv n S) {l p : Int32} (hf : (fPri S l p).1 = 0) : Iv n (uR S 1 ((S.1 1).set l.toNatClampNeg p.toNatClampNeg)) := by
  obtain ⟨h1, h2, -⟩ := pri_ok hf
  exact iv_of h (h.sh.set (b := 1) (show p.toNatClampNeg < 10 by omega)) (uR_e (by decide)) (uR_e (by decide)) (by rw [uR_e (by decide)]; exact h.dw) (by rw [uR_e (by decide)]; exact h.mt)
theorem pla_ok {p dl m : Int32} (h : (fPla p dl m).1 = 0) : p.toNatClampNeg < 4 ∧ dl.toNatClampNeg < 6 ∧ m.toNatClampNeg < 128 ∧ p = nI p.toNatClampNeg ∧ dl = nI dl.toNatClampNeg ∧ m = nI m.toNatClampNeg := by
  rw [fPla] at h
  obtain ⟨h1, h⟩ := fl_1 h one_ne
  obtain ⟨h2, h⟩ := fl_1 h two_ne
  obtain ⟨h3, h⟩ := fl_1 h two_ne
  obtain ⟨h4, h⟩ := fl_1 h two_ne
  obtain ⟨h5, h⟩ := fl_1 h two_ne
  have i1 : inI dl (nI 0) (nI 5) = true := by
    cases e : inI dl (nI 0) (nI 5) with
    | true => rfl
    | false => rcases inI_f.mp e with g | g
               · exact absurd g h2
               · exact absurd g h3
  have i2 : inI m (nI 0) (nI 127) = true := by
    cases e : inI m (nI 0) (nI 127) with
    | true => rfl
    | false => rcases inI_f.mp e with g | g
               · exact absurd g h4
               · exact absurd g h5
  obtain ⟨k, -, hk, rfl⟩ := inI_t (by decide) (by decide) i1
  obtain ⟨k2, -, hk2, rfl⟩ := inI_t (by decide) (by decide) i2
  obtain ⟨q, hq, rfl⟩ := isP_t (l := p) (by simpa using h1)
  rw [nI_c7 (by omega), nI_c7 (by omega), nI_c7 (by omega)]
  exact ⟨hq, by omega, by omega, rfl, rfl, rfl⟩
theorem iv_plat (h : Iv n S) {p dl m : Nat} (hd : dl < 6) (hm : m < 128) : Iv n (uR (uR S 8 ((S.1 8).set p dl)) 9 ((S.1 9).set p m)) := by
  have r1 := h.sh.set (b := 8) (l := p) (x := dl) hd
  exact iv_of h (r1.set (b := 9) (l := p) (x := m) hm) rfl rfl h.dw h.mt
theorem mu_ok {l m : Int32} (h : (fMu S l m).1 = 0) : l.toNatClampNeg < 7 ∧ 1 ≤ m.toNatClampNeg ∧ m.toNatClampNeg ≤ 9 ∧ (S.1 4).getD l.toNatClampNeg 0 = 0 ∧ m = nI m.toNatClampNeg := by
  rw [fMu] at h
  obtain ⟨h1, g1⟩ := fl_1 h one_ne
  obtain ⟨h2, g2⟩ := fl_1 g1 two_ne
  obtain ⟨h3, g3⟩ := fl_1 g2 two_ne
  rw [fMt] at g3
  have g4 := (fl_1 g3 bad_ne).1
  have i1 : inI m (nI 1) (nI 9) = true := by
    cases e : inI m (nI 1) (nI 9) with
    | true => rfl
    | false => rcases inI_f.mp e with g | g
               · exact absurd g h2
               · exact absurd g h3
  obtain ⟨k, hk1, hk, rfl⟩ := inI_t (by decide) (by decide) i1
  rw [nI_c7 (by omega)]
  exact ⟨(isL_d h1).1, hk1, hk, by omega, rfl⟩
theorem iv_mute (h : Iv n S) {l m : Int32} (hf : (fMu S l m).1 = 0) : Iv n (uR S 4 ((S.1 4).set l.toNatClampNeg m.toNatClampNeg)) := by
  obtain ⟨h1, h2, h3, -⟩ := mu_ok hf
  refine iv_of h (h.sh.set (b := 4) (show m.toNatClampNeg ≤ 12 by omega)) (uR_e (by decide)) (uR_e (by decide)) (by rw [uR_e (by decide)]; exact h.dw) fun l' hl' h2' => ?_
  rw [uR_b, getD_set (by rw [h.sh.l7 4 (by decide)]; exact h1)]
  split
  · exact h3
  · exact h.mt l' hl' h2'
theorem iv_pay (h : Iv n S) {l : Nat} : Iv (n + 24) (fPay S l) := by
  have h0 := h.sh.up (m := n + 24) (by omega)
  have a := getD_le h.sh.co l
  have b := getD_le h.sh.mu l
  have c := h.sh.nu 3 (by decide)
  have r1 := (h0.set (b := 3) (l := l) (x := (S.1 3).getD l 0 - 2 * (S.1 4).getD l 0) (show (S.1 3).getD l 0 - 2 * (S.1 4).getD l 0 ≤ n + 24 by omega)).num (j := 3) (x := S.2 3 + 2 * (S.1 4).getD l 0) (by omega)
  have r2 := r1.set (b := 4) (l := l) (x := 0) (Nat.zero_le _)
  refine iv_of h r2 rfl rfl h.dw fun l' hl' h2' => ?_
  show ((S.1 4).set l 0).getD l' 0 ≤ 9
  have := h.mt l' hl' h2'
  by_cases g : l < (S.1 4).length
  · rw [getD_set g]; split <;> omega
  · rw [List.set_eq_of_length_le (by omega)]; exact this
theorem bl_ok {l t : Nat} (h : (fBl S l t).1 = 0) : gWd S t ≠ 0 ∧ (S.1 4).getD l 0 = 0 ∧ gWh (S.1 11) l = none ∧ cost S l t ≤ (S.1 2).getD l 0 := by
  rw [fBl] at h
  obtain ⟨h1, h⟩ := fl_1 h bad_ne
  obtain ⟨h2, h⟩ := fl_1 h bad_ne
  obtain ⟨h3, h⟩ := fl_1 h bad_ne
  obtain ⟨h4, h⟩ := fl_1 h bad_ne
  refine ⟨h1, by omega, ?_, by omega⟩
  cases e : gWh (S.1 11) l with
  | none => rfl
  | some i => rw [e] at h3; exact absurd rfl h3
theorem eC_blow {l t l' k : Nat} (hd : ∀ p, (S.1 8).getD p 0 < 6) (ht : t < 7) (hl : l < 7) (hw : gWd S t < 448) : ∀ p, p ≤ 4 → eC (eBlow S l t p) l' k ≤ eC (S.1 12) l' k + if l' = l then p else 0
  | 0, _ => by show eC (S.1 12) l' k ≤ _; omega
  | p + 1, hp => by
    have ih := eC_blow (l' := l') (k := k) hd ht hl hw p (by omega)
    rw [eBlow, fold_s, eStep]
    have e0 : (List.range p).foldl (eStep S l t) (S.1 12) = eBlow S l t p := rfl
    rw [e0]
    have hf := ech_f (dl := (S.1 8).getD p 0) ht hl hw (show p < 4 by omega) (hd p)
    split
    · rw [rAdd]
      split
      · rw [eC_app, show dW (snd S l t + 64 * (p + 1) + 262144 * (S.1 8).getD p 0) = l from hf.2.1]
        by_cases g : l' = l
        · rw [if_pos g] at ih ⊢; split <;> omega
        · rw [if_neg g] at ih ⊢; rw [if_neg (fun e => g e.1.symm)]; omega
      · split at ih <;> split <;> first | omega | contradiction
    · split at ih <;> split <;> first | omega | contradiction
theorem iv_blow (h : Iv n S) {l t : Nat} (hl : l < 7) (ht : t < 7) (hf : (fBl S l t).1 = 0) : Iv (n + 1) (fBlow S l t) := by
  obtain ⟨f1, f2, f3, f4⟩ := bl_ok hf
  have hw := okW_lt (h.sh.w t)
  have h11 := h.h11b hl f3
  have e11 : (fBlow S l t).1 11 = S.1 11 ++ [snd S l t] := by rw [fBlow, uR_e (by decide), dBlow, uR_b, rAdd, if_pos h11]
  have hsn := snd_f ht hl hw
  rw [show t + 8 * l + 512 * gWd S t = snd S l t from rfl] at hsn
  have hd : ∀ p, (S.1 8).getD p 0 < 6 := fun p => by
    have := getD_le (m := 5) (fun x hx => by have := h.sh.de x hx; omega : ∀ x ∈ S.1 8, x ≤ 5) p
    omega
  have ew : ∀ l', wN (fBlow S l t) l' = if l' = l then 1 else wN S l' := fun l' => by
    rw [wN, wN, e11]
    by_cases g : l' = l
    · subst g
      rw [gWh_n f3 ⟨hsn.2.2.1, hsn.2.1⟩, if_pos rfl]; rfl
    · rw [gWh_o (fun x => g (x.2.symm.trans hsn.2.1)), if_neg g]
  have ew0 : wN S l = 0 := by unfold wN; rw [f3]; rfl
  have e4 : (fBlow S l t).1 4 = S.1 4 := by rw [fBlow]; exact dB_r (by decide) (by decide) (by decide) (by decide)
  have e0 : (fBlow S l t).1 0 = S.1 0 := by rw [fBlow]; exact dB_r (by decide) (by decide) (by decide) (by decide)
  refine Iv.mk (sh_blow h.sh hl) (so_blow h.sh h.so hl ht f1) (by rw [e0]; exact h.dw) ?_ ?_ ?_
  · intro l' hl' k h1 h5
    have a := eC_blow (S := S) (l := l) (t := t) (l' := l') (k := k) hd ht hl hw 4 (Nat.le_refl _)
    have b := h.ec l' hl' k h1 h5
    rw [ew]
    show eC (eBlow S l t 4) l' k ≤ _
    by_cases g : l' = l
    · subst g
      rw [if_pos rfl] at a ⊢
      rw [ew0] at b
      omega
    · rw [if_neg g] at a ⊢
      omega
  · have e := h.el
    have es : sum7 (wN (fBlow S l t)) = sum7 (wN S) + 1 := by
      have hc : l = 0 ∨ l = 1 ∨ l = 2 ∨ l = 3 ∨ l = 4 ∨ l = 5 ∨ l = 6 := by omega
      unfold sum7
      rw [ew, ew, ew, ew, ew, ew, ew]
      rcases hc with rfl | rfl | rfl | rfl | rfl | rfl | rfl <;> (rw [ew0]; simp) <;> omega
    rw [e11, es, List.length_append]
    show (S.1 11).length + 1 ≤ _
    omega
  · intro l' hl' h2
    rw [e4]
    rw [stt_blow hl ht hw e11 f3] at h2
    by_cases g : l' = l
    · rw [g, f2]; exact Nat.zero_le _
    · rw [if_neg g] at h2; exact h.mt l' hl' h2
theorem iv_exp (h : Iv n S) {l i : Nat} (hl : l < 7) (hg : gLie (S.1 11) l = some i) : Iv (n + 1) (fExp S l i) := by
  obtain ⟨e, hne, hx⟩ := gLie_t hg
  have hi := gWh_lt e
  have hm : (S.1 11).getD i 0 ∈ S.1 11 := by rw [getD_lt hi]; exact List.getElem_mem hi
  have hxf := xp_f (xp_lt (h.so.tx _ hm) hx)
  have h2 : stt S l = 2 := by
    rw [stt, e]
    show (if dX ((S.1 11).getD i 0) = true then 3 else if dT ((S.1 11).getD i 0) = l then 1 else 2) = 2
    rw [hx, if_neg (by decide), if_neg hne]
  have e11 : (fExp S l i).1 11 = (S.1 11).set i ((S.1 11).getD i 0 ||| 2097152) := rfl
  have e4 : (fExp S l i).1 4 = (S.1 4).set l ((S.1 4).getD l 0 + 3) := rfl
  have ew : wN (fExp S l i) = wN S := by funext l'; rw [wN, wN, e11, gWh_set hi hxf.2.2.1 hxf.2.1]
  refine Iv.mk (sh_expose h.sh (h.mt l hl h2)) (so_expose h.so hg) h.dw ?_ ?_ ?_
  · intro l' hl' k h1 h5
    rw [ew]; exact h.ec l' hl' k h1 h5
  · rw [ew, e11, List.length_set]; exact h.el
  · intro l' hl' h2'
    by_cases g : l' = l
    · subst g
      rw [stt, e11, gWh_set hi hxf.2.2.1 hxf.2.1, e] at h2'
      replace h2' : (if dX (((S.1 11).set i ((S.1 11).getD i 0 ||| 2097152)).getD i 0) = true then 3 else if dT (((S.1 11).set i ((S.1 11).getD i 0 ||| 2097152)).getD i 0) = l' then 1 else 2) = 2 := h2'
      rw [getD_set hi, if_pos rfl, if_pos hxf.2.2.2.2.2.1] at h2'
      exact absurd h2' (by decide)
    · rw [e4, getD_set (by rw [h.sh.l7 4 (by decide)]; exact hl), if_neg g]
      refine h.mt l' hl' ?_
      rw [stt, e11, gWh_set hi hxf.2.2.1 hxf.2.1] at h2'
      rw [stt]
      cases e2 : gWh (S.1 11) l' with
      | none => rw [e2] at h2'; exact absurd h2' (show ¬ (0 : Nat) = 2 by decide)
      | some i2 =>
        have hi2 : i2 ≠ i := fun x => g (by rw [← (gWh_f e2).2, x, (gWh_f e).2])
        rw [e2] at h2'
        replace h2' : (if dX (((S.1 11).set i ((S.1 11).getD i 0 ||| 2097152)).getD i2 0) = true then 3 else if dT (((S.1 11).set i ((S.1 11).getD i 0 ||| 2097152)).getD i2 0) = l' then 1 else 2) = 2 := h2'
        rw [getD_set hi, if_neg hi2] at h2'
        exact h2'
theorem eC_hr {l k : Nat} (hk : 1 ≤ k) : ∀ (L : List Nat) (T : List Nat × List Nat × List Nat), (∀ x ∈ L, x < 2097152 ∧ 1 ≤ dH x) → eC (L.foldl hStp T).2.2 l k = eC T.2.2 l k + eC L l (k + 1)
  | [], T, _ => rfl
  | x :: L, T, h => by
    have ih := eC_hr (l := l) hk L (hStp T x) fun y hy => h y (List.mem_cons_of_mem _ hy)
    obtain ⟨h1, h2⟩ := h x (List.mem_cons_self ..)
    obtain ⟨-, -, f2, -, -, f5, -⟩ := ec_f h1 h2
    rw [List.foldl_cons, ih, eC_cons]
    by_cases g : dH (x - 262144) = 0
    · rw [hStp_a g, if_neg (by omega), Nat.add_zero (eC L l (k + 1))]
    · rw [hStp_b g]
      show eC (T.2.2 ++ [x - 262144]) l k + _ = _
      rw [eC_app, f2, f5]
      by_cases g2 : dW x = l ∧ k ≤ dH x - 1
      · rw [if_pos g2, if_pos ⟨g2.1, by omega⟩]; omega
      · rw [if_neg g2, if_neg (fun e => g2 ⟨e.1, by omega⟩)]; omega
theorem hr_len1 : ∀ (L : List Nat) (T : List Nat × List Nat × List Nat), (L.foldl hStp T).1.length ≤ T.1.length + L.length
  | [], T => Nat.le_refl _
  | x :: L, T => by
    have ih := hr_len1 L (hStp T x)
    have h2 : (hStp T x).1.length ≤ T.1.length + 1 := by
      unfold hStp
      split
      · show (rAdd 147 T.1 _).length ≤ _
        rw [rAdd]
        split
        · rw [List.length_append]; exact Nat.le_refl _
        · omega
      · show T.1.length ≤ _; omega
    rw [List.foldl_cons, List.length_cons]
    omega
theorem iv_hour (h : Iv n S) : Iv (n + 150) (fHour S) := by
  have h12 := h.h12
  have ew : ∀ l, wN (fHour S) l = 0 := fun l => by unfold wN; rw [hour_gWh h.so l]; rfl
  refine Iv.mk (sh_hour h.sh h12) (so_hour h.so) ?_ ?_ ?_ ?_
  · have : (fHour S).1 0 = S.1 0 := by
      rw [hour_b (by decide), fHrs_1]
      exact fRs_r (by decide) (by decide) (by decide) (by decide) 7
    rw [this]; exact h.dw
  · intro l hl k h1 h5
    have hc : eC ([] : List Nat) l k = 0 := rfl
    rw [ew, hour_12, gHr_0, eC_hr h1 _ _ fun x hx => ⟨h.so.ex x hx, (h.so.eh x hx).1⟩]
    generalize (fHrs S).1 10 = Z
    show eC [] l k + _ ≤ _
    rw [hc, Nat.zero_add]
    by_cases g : k = 5
    · subst g
      have : eC (S.1 12) l 6 = 0 := by
        unfold eC
        rw [List.countP_eq_zero]
        intro s hs
        have := (h.so.eh s hs).2
        simp; omega
      rw [this]; exact Nat.zero_le _
    · have := h.ec l hl (k + 1) (by omega) (by omega)
      have := wN_le S l
      omega
  · rw [hour_11, gHr_0]
    generalize (fHrs S).1 10 = Z
    have := hr_len1 (S.1 12) ([], Z, [])
    have e0 : ([] : List Nat).length = 0 := rfl
    simp only [e0] at this
    omega
  · intro l hl h2
    rw [stt, hour_gWh h.so l] at h2
    exact absurd h2 (show ¬ (0 : Nat) = 2 by decide)
theorem s0_x {b x : Nat} (hb : b < 11) (hx : x ∈ s0.1 b) : x = if b = 2 ∨ b = 3 then 10 else 0 := by
  have hc : b = 0 ∨ b = 1 ∨ b = 2 ∨ b = 3 ∨ b = 4 ∨ b = 5 ∨ b = 6 ∨ b = 7 ∨ b = 8 ∨ b = 9 ∨ b = 10 := by omega
  rcases hc with rfl | rfl | rfl | rfl | rfl | rfl | rfl | rfl | rfl | rfl | rfl
  all_goals exact (List.mem_replicate.mp hx).2
theorem iv_s0 : Iv 10 s0 := by
  have no : ∀ {P : Prop} {s : Nat}, s ∈ ([] : List Nat) → P := fun h => absurd h List.not_mem_nil
  have h4 : ∀ b, 8 ≤ b → b < 11 → (s0.1 b).length = 4 := fun b h8 hb => by
    have hc : b = 8 ∨ b = 9 ∨ b = 10 := by omega
    rcases hc with rfl | rfl | rfl <;> rfl
  refine Iv.mk (Sh.of (by decide) h4 (fun b hb x hx => ?_) (fun _ _ => Nat.zero_le _)) (So.mk (fun s hs => no hs) (fun s hs => no hs) (fun s hs => no hs) (fun s hs => no hs) (fun s hs => no hs) (fun s hs => no hs) (fun s hs => no hs) (fun s hs => no hs) (fun s hs => no hs) (fun s hs => no hs) (fun s hs => no hs) (fun s hs => no hs)) ?_ ?_ ?_ ?_
  · rw [s0_x hb hx]
    have hc : b = 0 ∨ b = 1 ∨ b = 2 ∨ b = 3 ∨ b = 4 ∨ b = 5 ∨ b = 6 ∨ b = 7 ∨ b = 8 ∨ b = 9 ∨ b = 10 := by omega
    rcases hc with rfl | rfl | rfl | rfl | rfl | rfl | rfl | rfl | rfl | rfl | rfl
    · exact Or.inl rfl
    · show (0 : Nat) < 10; decide
    · show (10 : Nat) ≤ 20; decide
    · show (10 : Nat) ≤ 10; decide
    · show (0 : Nat) ≤ 12; decide
    · show (0 : Nat) ≤ 10; decide
    · show (0 : Nat) ≤ 10; decide
    · show (0 : Nat) ≤ 10; decide
    · show (0 : Nat) < 6; decide
    · show (0 : Nat) < 128; decide
    · show (0 : Nat) ≤ 10; decide
  · intro i j hi hj e ne
    have z : ∀ i, i < 7 → (s0.1 0).getD i 0 = 0 := by decide
    exact absurd (z i hi) ne
  · intro l _ k _ _; exact Nat.zero_le _
  · exact Nat.zero_le _
  · intro l _ h
    exact absurd (show (0 : Nat) = 2 from h) (by decide)
end W86
