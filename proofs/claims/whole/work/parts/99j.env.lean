/-! THE ENVIRONMENT at the law's entry, and the law from there -/
section W99j
theorem sx_priv {C : String} {y0 y : MethodName} {s : State} {args : Array Value} (h0 : (Cond.selects C y0 y0).before args s = true) (hc : y.cls = y0.cls) (hy : y.cls ≠ "java/lang/invoke/MethodHandle" ∧ y.cls ≠ "java/lang/invoke/VarHandle") (hpriv : (Cond.privateMethod y).before args s = true) (hinst : (Cond.instanceMethod y).before args s = true) : (Cond.selects C y y).before args s = true := by
  obtain ⟨c2, r2, m2, q1, q2, q3, q4, kP, q5, q6⟩ := Cond.selects_spec h0
  obtain ⟨mk, methM, hnamed, hmethM, -, -⟩ := Cond.instanceMethod_spec hinst
  have hfound : s.methodFound? y.cls y.name y.desc = some mk := State.methodFound?_of_named hnamed hy
  have e1 := findClass_of_methodNamed hnamed
  have e2 := findClass_of_methodNamed q3
  rw [hc] at e1
  have hcls : mk.cls = m2.cls := Option.some.inj (e1.symm.trans e2)
  have hsel : selectMethod {} s.vm c2 mk = .method mk := selectMethod_private hmethM (Cond.privateMethod_at hpriv mk methM hnamed hmethM)
  simp only [Cond.before, Cond.holds, Cond.value, q1, hfound, hnamed, hsel, hcls, q5]
  simp
  exact q6
theorem eTab {args : Array Value} {s : State} (hts : ∀ w ∈ lw_tbl, w.before args s = true) {i : Nat} {w : Cond} (h : lw_tbl[i]? = some w) : w.before args s = true := hts w (List.mem_of_getElem? h)
theorem eGiv {args : Array Value} {s : State} (hg : (Jvm.Cond.and given_1 narrow_1).before args s = true) {i : Nat} {w : Cond} (h : eF[i]? = some w) : w.before args s = true := flat_of_before _ hg w (List.mem_of_getElem? h)
theorem eWG {args : Array Value} {s : State} (hts : ∀ w ∈ lw_tbl, w.before args s = true) : ∀ w ∈ wG, w.before args s = true := by
  intro w hw
  rcases List.mem_append.mp hw with h | h
  · exact hts w (List.mem_filter.mp h).1
  · have key : ∀ y : MethodName, y.cls = RJ5 → (Cond.privateMethod y).before args s = true → (Cond.instanceMethod y).before args s = true → (Cond.selects RJ4 y y).before args s = true := fun y hy h1 h2 => sx_priv (eTab hts eS_0) (hy.trans rfl) (by rw [hy]; decide) h1 h2
    simp only [wSx, List.mem_cons, List.not_mem_nil, or_false] at h
    rcases h with rfl | rfl
    · exact key _ rfl (eTab hts eP_0) (eTab hts im_J5_ensureCapacityInternal_d00df)
    · exact key _ rfl (eTab hts eP_1) (eTab hts im_J5_newCapacity_0f7a4)
theorem eArr {args : Array Value} {s : State} {ty : FieldType} (hp : ∀ C, ty ≠ .object C) (h : (Cond.arrayClass ty).before args s = true) : ∃ cA : ClassId, ArrOfT s cA ty ∧ va_RA s cA ty := by
  obtain ⟨cA, kA, comp, h1, h2, h3⟩ := Cond.arrayClass_spec h
  refine ⟨cA, fun n z => ⟨fun k h => (by cases h), kA, h2, comp, h3⟩, ?_⟩
  cases ty with
  | object C => exact absurd rfl (hp C)
  | _ => exact h1
theorem eArrO {args : Array Value} {s : State} {C : String} (h : (Cond.arrayOver (.object C)).before args s = true) : ∃ cA : ClassId, ArrOfT s cA (.object C) ∧ va_RA s cA (.object C) := by
  obtain ⟨comp, cA, kA, h1, h2, h3, h4, h5⟩ := Cond.arrayOver_spec h
  exact ⟨cA, fun n z => ⟨fun k h => (by cases h), kA, h3, comp, h4⟩, kA, comp, h3, h4, h1, h5⟩
theorem eKn {args : Array Value} {s : State} (hts : ∀ w ∈ lw_tbl, w.before args s = true) : ∃ (dC : Nat → ClassId) (dI : Nat → Nat → Nat), ∀ (k : Nat) (q : vw_C), wCl[k]? = some q → u_Kn s q.1 q.2.1 q.2.2 (dC k) (dI k) := by
  have hG := eWG hts
  have one : ∀ k : Nat, ∃ x : ClassId × (Nat → Nat), ∀ q : vw_C, wCl[k]? = some q → u_Kn s q.1 q.2.1 q.2.2 x.1 x.2 := by
    intro k
    by_cases hk : k < 8
    · have hi : ∀ q : vw_C, wCl[k]? = some q → (Cond.instantiable q.1 q.2.2).before args s = true := fun q hq => eTab hts (i := eN.getD k 0) (by rw [eN_ k hk, hq]; rfl)
      have hu : ∀ q : vw_C, wCl[k]? = some q → ∀ w ∈ u_ws q.1 q.2.1 q.2.2, w ∈ wG := by
        intro q hq
        match k, hk, hq with
        | 0, _, hq => cases hq; exact wi_RX8
        | 1, _, hq => cases hq; exact wi_RX0
        | 2, _, hq => cases hq; exact wi_RX1
        | 3, _, hq => cases hq; exact wi_RX2
        | 4, _, hq => cases hq; exact wi_RX5
        | 5, _, hq => cases hq; exact wi_RX6
        | 6, _, hq => cases hq; exact wi_RX9
        | 7, _, hq => cases hq; exact wi_RJ4
        | k + 8, hk, _ => exact absurd hk (by omega)
      have hk2 : k < wCl.length := hk
      obtain ⟨cC, iS, h⟩ := u_known hG (hu wCl[k] (List.getElem?_eq_getElem hk2)) (hi wCl[k] (List.getElem?_eq_getElem hk2))
      refine ⟨(cC, iS), fun q hq => ?_⟩
      rw [List.getElem?_eq_getElem hk2] at hq
      cases hq
      exact h
    · exact ⟨(0, fun _ => 0), fun q hq => absurd (List.getElem?_eq_some_iff.mp hq).1 hk⟩
  exact ⟨fun k => (Classical.choose (one k)).1, fun k => (Classical.choose (one k)).2, fun k q hq => Classical.choose_spec (one k) q hq⟩
end W99j
