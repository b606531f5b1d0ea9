/-! THE LAW from its entry -/
section W99k
variable {args : Array Value} {s : State} {A : Nat → Prop}
theorem eTe {j : Nat} {x : String × Nat × String} (h : wTx[j]? = some x) : eT j = .string x.1 x.2.1 := by
  unfold eT
  rw [h]
theorem eStr (hts : ∀ w ∈ lw_tbl, w.before args s = true) (hg : (Jvm.Cond.and given_1 narrow_1).before args s = true) (hA : ∀ a : Nat, a < s.heap.size → ¬ A a) : ∃ adK adV : Nat → Nat, (∀ j x, wTx[j]? = some x → vk_R x.1 x.2.1 x.2.2 (adK j) s) ∧ ∀ i : Nat, i < 10 → va_O "java/lang/String" (adK i) A s s.heap ∧ va_OF "java/lang/String" "coder" "B" (.int 0) (adK i) A s s.heap ∧ va_OF "java/lang/String" "value" "[B" (.ref (adV i)) (adK i) A s s.heap ∧ va_T .byte (adV i) (wSl.getD i 0) (fun j => .int ((wSb.getD i []).getD j 0)) A s s.heap := by
  have h0 : ∀ j : Nat, ∃ a : Nat, j < 37 → (eT j).eval args s none [] s = some (.ref a) ∧ va_O "java/lang/String" a A s s.heap := by
    intro j
    by_cases hj : j < 37
    · have hx := eGiv hg (eF_x j hj)
      obtain ⟨a, c, cA, kA, q1, q2, q3, q4, q5, q6, -⟩ := Cond.exactly_spec (args := args) (first := s) (o := none) (s := s) (idx := []) (t := eT j) (cls := "java/lang/String") hx
      exact ⟨a, fun _ => ⟨q1, va_Oof hx q1 hA⟩⟩
    · exact ⟨0, fun h => absurd h hj⟩
  have h1 : ∀ i : Nat, ∃ t : Nat, i < 10 → (Term.field (eT i) "java/lang/String" "value" "[B").eval args s none [] s = some (.ref t) ∧ va_T .byte t (wSl.getD i 0) (fun j => .int ((wSb.getD i []).getD j 0)) A s s.heap := by
    intro i
    by_cases hi : i < 10
    · have hN : wSl.getD i 0 < 2 ^ 31 := by
        have : ∀ i : Nat, i < 10 → wSl.getD i 0 < 2 ^ 31 := by decide
        exact this i hi
      obtain ⟨t, ht, hT⟩ := va_Tof (f := fun j => .int ((wSb.getD i []).getD j 0)) (A := A) hN (eGiv hg (eF_a i hi)) (va_eqt (eGiv hg (eF_l i hi))) (fun j hj => va_eqt (eGiv hg (eF_e i hi j hj))) hA
      exact ⟨t, fun _ => ⟨ht, hT⟩⟩
    · exact ⟨0, fun h => absurd h hi⟩
  refine ⟨fun j => Classical.choose (h0 j), fun i => Classical.choose (h1 i), fun j x hx => ?_, fun i hi => ?_⟩
  · have hj : j < 37 := (List.getElem?_eq_some_iff.mp hx).1
    have hr := eF_r j hj
    rw [hx] at hr
    have he := (Classical.choose_spec (h0 j) hj).1
    exact vk_R.of (eTab hts hr) ((congrArg (fun t => Term.eval args s none [] s t) (eTe hx)).symm.trans he)
  · have a1 := Classical.choose_spec (h0 i) (by omega)
    have a2 := Classical.choose_spec (h1 i) hi
    exact ⟨a1.2, vk_OFof a1.1 (va_eqt (eGiv hg (eF_c i hi))) hA, vk_OFof a1.1 a2.1 hA, a2.2⟩
theorem eDig (hts : ∀ w ∈ lw_tbl, w.before args s = true) (hg : (Jvm.Cond.and given_1 narrow_1).before args s = true) (hA : ∀ a : Nat, a < s.heap.size → ¬ A a) : ∃ te on : Nat, va_Z "java/lang/Integer" "DigitTens" "[B" (.ref te) A s s.heap ∧ va_Z "java/lang/Integer" "DigitOnes" "[B" (.ref on) A s s.heap ∧ va_T .byte te 100 (fun k => .int (nI (48 + k / 10))) A s s.heap ∧ va_T .byte on 100 (fun k => .int (nI (48 + k % 10))) A s s.heap := by
  obtain ⟨t1, h1, g1⟩ := va_Tof (f := fun k => .int (nI (48 + k / 10))) (A := A) (by decide) (eGiv hg eF_5) (va_eqt (eGiv hg eF_6)) (fun j hj => va_eqt (eGiv hg (eF_t j hj))) hA
  obtain ⟨t2, h2, g2⟩ := va_Tof (f := fun k => .int (nI (48 + k % 10))) (A := A) (by decide) (eGiv hg eF_7) (va_eqt (eGiv hg eF_8)) (fun j hj => va_eqt (eGiv hg (eF_o j hj))) hA
  exact ⟨t1, t2, va_Zof (eTab hts eL_4) (eTab hts eZ_4) h1 hA, va_Zof (eTab hts eL_5) (eTab hts eZ_5) h2 hA, g1, g2⟩
theorem eTy (hts : ∀ w ∈ lw_tbl, w.before args s = true) : ∃ ty : Nat → ClassId, ∀ (k : Nat) (q : ClassId × FieldType), ([(ty 0, .int), (ty 1, .long), (ty 2, .double), (ty 3, .byte), (ty 4, .object RX5)] : List (ClassId × FieldType))[k]? = some q → ArrOfT s q.1 q.2 ∧ va_RA s q.1 q.2 := by
  obtain ⟨c0, h0⟩ := eArr (fun _ h => by cases h) (eTab hts eA_0)
  obtain ⟨c1, h1⟩ := eArr (fun _ h => by cases h) (eTab hts eA_1)
  obtain ⟨c2, h2⟩ := eArr (fun _ h => by cases h) (eTab hts eA_2)
  obtain ⟨c3, h3⟩ := eArr (fun _ h => by cases h) (eTab hts eA_3)
  obtain ⟨c4, h4⟩ := eArrO (eTab hts eO_)
  refine ⟨fun k => match k with | 0 => c0 | 1 => c1 | 2 => c2 | 3 => c3 | _ => c4, fun k q hq => ?_⟩
  match k, hq with
  | 0, hq => cases hq; exact h0
  | 1, hq => cases hq; exact h1
  | 2, hq => cases hq; exact h2
  | 3, hq => cases hq; exact h3
  | 4, hq => cases hq; exact h4
  | k + 5, hq => simp at hq
theorem whole_start {p : Program} {e : Env} {s : State} {m : MethodId} {below : List Frame} {meth : Method} {c : Code} (l : Launch) (hflags : l.flags = flags0) {b L : Nat} {xs : Nat → Int32} (hL : L ≤ 2048) (C0 : lw_At p s m meth c b L xs) : W p l e room_1 s m #[Value.ref b] below meth c s.heap [] 0 0 (lw_Z below #[Value.ref b] s) (entryFrame m ([Value.ref b] : List Value).toArray 9) := by
  obtain ⟨hx, hb, hr, hml, hown, hts, hX, hbl, hlocks, hgv⟩ := id C0
  have hA : ∀ a : Nat, a < s.heap.size → ¬ (fun q : Nat => s.heap.size ≤ q) a := fun a h => Nat.not_le.mpr h
  obtain ⟨dC, dI, hK⟩ := eKn hts
  obtain ⟨ty, hTy⟩ := eTy hts
  obtain ⟨adK, adV, hR, hStr⟩ := eStr hts hgv hA
  obtain ⟨te, on, hZt, hZo, hTt, hTo⟩ := eDig hts hgv hA
  obtain ⟨G, hG⟩ : ∃ G : En, G = (l, (dC, dI), ty, s.heap.size, adK, adV, te, on, b, L, xs) := ⟨_, rfl⟩
  have hE : wEnv G s s.heap := by
    rw [hG]
    refine ⟨fun w hw hn => ?_, va_AO.of (eTab hts eO_), vx_Zqof (eTab hts eL_0) (eTab hts eZ_0) (eGiv hgv eF_1) hA, vx_Zqof (eTab hts eL_1) (eTab hts eZ_1) (eGiv hgv eF_2) hA, va_Zof (eTab hts eL_3) (eTab hts eZ_3) (va_eqi (eGiv hgv eF_4)) hA, hZt, hZo, hTt, hTo, hR, ⟨hStr, vx_Zqof (eTab hts eL_2) (eTab hts eZ_2) (eGiv hgv eF_3) hA, fun q hq => va_Nc.of (flat_of_before _ hgv _ (eF_n q hq)), ?_⟩, ?_⟩
    · have ho : w.onTables = true := by cases w <;> first | rfl | cases hn
      exact va_Nw.of ho (hts w hw)
    · obtain ⟨scr, g1, g2, g3, g4, g5⟩ := hX
      refine ⟨scr, g1, g2, g3, ?_, ?_, g5, hA _ hbl⟩
      · show L ≤ scr.slots.size
        rw [g4]
        exact Nat.le_refl _
      · rw [g4]
    · show l.stackTraces = false
      unfold Launch.stackTraces
      rw [hflags]
      decide +kernel
  have hM : wMem G (fun _ => none) s s.heap := by
    rw [hG]
    exact ⟨⟨hK, hTy⟩, fun o a e h => (by cases h), fun o o' a e e' h => (by cases h)⟩
  have hWl := wL_entry (av := [.ref b]) (mL := 9) (fun w hw => by rw [List.mem_singleton.mp hw]; rfl) (Nat.le_of_ble_eq_true rfl)
  rw [lg_entry_eq]
  generalize (lg_sl ([.ref b]) ++ List.replicate (9 - (lg_sl ([.ref b])).length) Slot.unset).toArray = ls at hWl ⊢
  have cx : wCx G (XL (c.exceptionTable.toList, meth.name) 603072 7194730 (lw_ZG G)) 15 p room_1 s m #[Value.ref b] meth c :=
    ⟨hx, hb, hml, hown, hlocks, hr, rfl, rfl, eWG hts, hE, by rw [hG]; exact Nat.le_refl _, Nat.le_of_ble_eq_true rfl, Nat.le_of_ble_eq_true rfl, rfl, rfl⟩
  have hl2 : scL G ≤ 2048 := by rw [hG]; exact hL
  have e1 : G.1 = l := by rw [hG]
  have e2 : scA G = b := by rw [hG]; rfl
  have e3 : G.2.2.2.1 = s.heap.size := by rw [hG]
  have K := law_all (tb := (c.exceptionTable.toList, meth.name)) hl2 p e room_1 s m #[Value.ref b] below meth c s.heap [] 0 0 ls cx (by rw [e2]; exact hWl) hM va_S.rf (Nat.le_refl _) (Nat.le_refl _)
  rw [e1] at K
  intro T hT X
  obtain ⟨t, a1, a2⟩ := K T hT X
  exact ⟨t, a1, a2 (Nat.le_of_eq e3.symm)⟩
end W99k
