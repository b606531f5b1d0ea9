/-! NUMBERS: plain facts; the counter's step -/
section W15
variable {G : En} {X : Fx} {d k n pc q : Nat} {lv : List (Option Value)} {st : List Value} {M : Me}
theorem r_inc1 {i j : Nat} (dg : decode X.2.1 pc = .ok (.iinc i 1, 3)) (hx : lv[i]? = some (some (.int (nI j)))) (hb : i < X.2.2.1) (hw : wOk lv i = true) (hq : pc + 3 = q) (kk : AW G X d k n q (lv.set i (some (.int (nI (j + 1))))) st M) : AW G X d k n pc lv st M :=
  r_iinc dg hx (nI_1 j) hb hw hq kk
theorem nI_lt0 {j : Nat} (hj : j < 2 ^ 31) : nI j < 0 ↔ False := ⟨fun h => nI_pos hj h, False.elim⟩
theorem nI_ge0 {j : Nat} (hj : j < 2 ^ 31) : 0 ≤ nI j ↔ True := ⟨fun _ => trivial, fun _ => nI_pos' hj⟩
theorem nI_gt0 {j : Nat} (hj : j < 2 ^ 31) : 0 < nI j ↔ 0 < j := by
  rw [show (0 : Int32) = nI 0 from rfl, nI_ltI (by omega) hj]
theorem nI_le0 {j : Nat} (hj : j < 2 ^ 31) : nI j ≤ 0 ↔ j = 0 := by
  rw [show (0 : Int32) = nI 0 from rfl, nI_leI hj (by omega)]; omega
theorem nI_eq0 {j : Nat} (hj : j < 2 ^ 31) : nI j = 0 ↔ j = 0 := by
  rw [show (0 : Int32) = nI 0 from rfl, nI_eq hj (by omega)]
theorem nI_nat {x : Int32} (h : ¬ x < 0) : ∃ j : Nat, j < 2 ^ 31 ∧ x = nI j := nI_of h
theorem getD_ge {α : Type} {L : List α} {j : Nat} {z : α} (h : L.length ≤ j) : L.getD j z = z := by
  rw [List.getD_eq_getElem?_getD, List.getElem?_eq_none h]; rfl
theorem getD_lt {α : Type} {L : List α} {j : Nat} {z : α} (h : j < L.length) : L.getD j z = L[j] := by
  rw [List.getD_eq_getElem?_getD, List.getElem?_eq_getElem h]; rfl
theorem getD_all {L : List Nat} {B : Nat} (hB : 0 < B) (h : ∀ x ∈ L, x < B) (j : Nat) : L.getD j 0 < B := by
  by_cases hj : j < L.length
  · rw [getD_lt hj]; exact h _ (List.getElem_mem hj)
  · rw [getD_ge (by omega)]; exact hB
end W15
section W15b
variable {G : En} {X : Fx} {d k n pc q : Nat} {lv : List (Option Value)} {st : List Value} {M : Me}
theorem r_put' {ix i kk ci N : Nat} {o : Ob} {a : Nat} {fs : List Value} {C ref : String} {T : u_T} {ty0 : Nat → FieldType} {v : Value} (hM : M o = some (a, .inr (ci, fs))) (hc : wCl[ci]? = some (C, T, N)) (hin : ∀ w ∈ u_ws C T N, w ∈ wG) (hty : ∀ k, k < N → parseFieldDescriptor (T k).2.2.1 = some (ty0 k)) (hnm : ∀ a, a < N → ∀ b, b < N → a ≠ b → (T a).2.1 ≠ (T b).2.1) (hk0 : kk < N) (hfin : (T kk).2.2.2 = false ∨ (X.2.2.2.2.2.1 = "<init>" ∧ (T kk).1 = X.1)) (href : (T kk).1 = ref) (hlk : lw_tbl[i]? = some (.fieldLink X.1 ix ref (T kk).2.1 (T kk).2.2.1)) (hn0 : narrow (ty0 kk) v = v) (hfit : fits (ty0 kk) v = true) (hlen : kk < fs.length) (dg : decode X.2.1 pc = .ok (.putfield ix, 3)) (hq : pc + 3 = q)
    (k1 : ∀ M' : Me, M' o = some (a, .inr (ci, fs.set kk v)) → (∀ x, x ≠ o → M' x = M x) → AW G X d k n q lv st M') : AW G X d k n pc lv (v :: .ref a :: st) M :=
  r_put hM hc hin hty hnm hk0 hfin href hlk hn0 hfit hlen dg hq (k1 _ (if_pos rfl) fun _ hx => if_neg hx)
theorem r_iast' {o : Ob} {a len : Nat} {f : Nat → Int32} {i x : Int32} (hM : M o = some (a, .inl (G.2.2.1 0, len, .inl f))) (hin : vp_in i len) (dg : decode X.2.1 pc = .ok (.iastore, 1)) (hq : pc + 1 = q)
    (k1 : ∀ M' : Me, M' o = some (a, .inl (G.2.2.1 0, len, .inl (upd f i.toNatClampNeg x))) → (∀ y, y ≠ o → M' y = M y) → AW G X d k n q lv st M') : AW G X d k n pc lv (.int x :: .int i :: .ref a :: st) M :=
  r_iast hM hin dg hq (k1 _ (if_pos rfl) fun _ hx => if_neg hx)
theorem upd_self {f : Nat → Int32} {k : Nat} {x : Int32} : upd f k x k = x := if_pos rfl
theorem upd_ne {f : Nat → Int32} {k j : Nat} {x : Int32} (h : j ≠ k) : upd f k x j = f j := if_neg h
end W15b
section W15c
theorem ml_X2_25 : lw_tbl[160]? = some (.methodLink RX2 25 Lib.Math.min.name) := by decide +kernel
theorem ml_X2_31 : lw_tbl[163]? = some (.methodLink RX2 31 Lib.Math.max.name) := by decide +kernel
theorem ml_X5_138 : lw_tbl[572]? = some (.methodLink RX5 138 Lib.Math.min.name) := by decide +kernel
theorem ml_X6_62 : lw_tbl[632]? = some (.methodLink RX6 62 Lib.Math.min.name) := by decide +kernel
theorem ml_J8_194 : lw_tbl[716]? = some (.methodLink RJ8 194 Lib.Math.max.name) := by decide +kernel
theorem ml_J7_304 : lw_tbl[732]? = some (.methodLink RJ7 304 Lib.Math.min.name) := by decide +kernel
theorem ml_J5_138 : lw_tbl[1356]? = some (.methodLink RJ5 138 Lib.Math.min.name) := by decide +kernel
theorem ini_Math : lw_tbl[94]? = some (.initialized "java/lang/Math") := by decide +kernel
theorem st_Mmin : lw_tbl[161]? = some (.static Lib.Math.min.name) := by decide +kernel
theorem cd_Mmin : lw_tbl[162]? = some (.code Lib.Math.min.name Lib.Math.min.code 2 (some .int)) := by decide +kernel
theorem st_Mmax : lw_tbl[164]? = some (.static Lib.Math.max.name) := by decide +kernel
theorem cd_Mmax : lw_tbl[165]? = some (.code Lib.Math.max.name Lib.Math.max.code 2 (some .int)) := by decide +kernel
variable {G : En} {X : Fx} {d k n pc q : Nat} {lv : List (Option Value)} {st : List Value} {M : Me}
theorem r_mmin {ix i : Nat} {x y : Int32} (hl0 : lw_tbl[i]? = some (.methodLink X.1 ix Lib.Math.min.name)) (dg : decode X.2.1 pc = .ok (.invokestatic ix, 3)) (hq : pc + 3 = q) (hst : (st.map fun v => v.category).sum ≤ 8) (kk : AW G X (d + 1) k n q lv (.int (if y < x then y else x) :: st) M) : AW G X (d + 1) k n pc lv (.int y :: .int x :: st) M := by
  intro p e R s m args below meth c H locs cells slots ls cx hl hm hS hk hn
  subst hq
  have hRc := cx.2.2.2.2.2.2.2.2.2.2.2.2.2.1
  have hRs := cx.2.2.2.2.2.2.2.2.2.2.2.2.2.2
  have hF := cx.2.2.2.2.2.2.2.2.2.2.2.1
  have hL := cx.2.2.2.2.2.2.2.2.2.2.2.2.1
  exact va_mmin cx.1 cx.2.1 (cx.2.2.1.trans hl.1.symm) cx.own (cx.ts hl0 rfl) (cx.ts st_Mmin rfl) (cx.ts ini_Math rfl) (cx.ts cd_Mmin rfl) (by omega) (by omega) (by omega) (by omega) dg (kk p e R s m args below meth c H locs cells slots ls cx hl hm hS hk hn)
theorem r_mmax {ix i : Nat} {x y : Int32} (hl0 : lw_tbl[i]? = some (.methodLink X.1 ix Lib.Math.max.name)) (dg : decode X.2.1 pc = .ok (.invokestatic ix, 3)) (hq : pc + 3 = q) (hst : (st.map fun v => v.category).sum ≤ 8) (kk : AW G X (d + 1) k n q lv (.int (if x < y then y else x) :: st) M) : AW G X (d + 1) k n pc lv (.int y :: .int x :: st) M := by
  intro p e R s m args below meth c H locs cells slots ls cx hl hm hS hk hn
  subst hq
  have hRc := cx.2.2.2.2.2.2.2.2.2.2.2.2.2.1
  have hRs := cx.2.2.2.2.2.2.2.2.2.2.2.2.2.2
  have hF := cx.2.2.2.2.2.2.2.2.2.2.2.1
  have hL := cx.2.2.2.2.2.2.2.2.2.2.2.2.1
  exact va_mmax cx.1 cx.2.1 (cx.2.2.1.trans hl.1.symm) cx.own (cx.ts hl0 rfl) (cx.ts st_Mmax rfl) (cx.ts ini_Math rfl) (cx.ts cd_Mmax rfl) (by omega) (by omega) (by omega) (by omega) dg (kk p e R s m args below meth c H locs cells slots ls cx hl hm hS hk hn)
theorem min_nI {x y : Nat} (hx : x < 2 ^ 31) (hy : y < 2 ^ 31) : (if nI y < nI x then nI y else nI x) = nI (min x y) := by
  by_cases h : y < x
  · rw [if_pos (nI_lt h hx), Nat.min_eq_right (by omega)]
  · rw [if_neg (nI_nlt (by omega) hy), Nat.min_eq_left (by omega)]
theorem max0_nI {y : Nat} (hy : y < 2 ^ 31) : (if nI 0 < nI y then nI y else nI 0) = nI y := by
  by_cases h : 0 < y
  · rw [if_pos (nI_lt h hy)]
  · rw [if_neg (nI_nlt (by omega) (by omega))]; congr 1; omega
end W15c
