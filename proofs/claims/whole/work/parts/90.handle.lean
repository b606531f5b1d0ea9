/-! BODIES WITH HANDLERS, calls in a try -/
section W90
variable {G : En} {X : Fx} {d k n pc q : Nat} {lv : List (Option Value)} {st : List Value} {M : Me}
abbrev Tb : Type := List (Nat × Nat × Nat × Nat)
def MT (G : En) (y : MethodName) (b : ByteArray) (mL : Nat) (rt : Option FieldType) (hh : Tb) (d k n : Nat) (av : List Value) (M : Me) (Q : Option Value → Me → Prop) (QX : String → Me → Prop) : Prop :=
  vx_Met G.1 y (.codeWith y b mL rt hh :: wG) (wRm d k n) (wPc G av M) (wQc G Q) (wXC G QX) k n (wA G)
abbrev wXT (G : En) (y : MethodName) (b : ByteArray) (mL : Nat) (rt : Option FieldType) (hh : Tb) (k0 n0 : Nat) (Q : Option Value → Me → Prop) (QX : String → Me → Prop) : Fx := (y.cls, b, mL, rt, tableOf hh, y.name, k0, n0, wFin G Q QX k0 n0)
theorem MT.of {y : MethodName} {b : ByteArray} {mL : Nat} {rt : Option FieldType} {hh : Tb} {av : List Value} {Q : Option Value → Me → Prop} {QX : String → Me → Prop} (hy : plainName y.cls = true) (hc : ∀ w ∈ av, w.category = 1) (hle : av.length ≤ mL)
    (h : AW G (wXT G y b mL rt hh k n Q QX) d k n 0 (av.map some ++ List.replicate (mL - av.length) none) [] M) : MT G y b mL rt hh d k n av M Q QX := by
  refine vx_ofWH (cc := b) (maxL := mL) (ret := rt) (hh := hh) hy rfl ?_
  intro p e s m args below meth c s₁ B hml hv
  obtain ⟨rfl, hP⟩ := hv
  have hts := atoms_spec (ws := .codeWith y b mL rt hh :: wG) B.pre
  have hl := wL_entry (mL := mL) hc hle
  rw [lg_entry_eq]
  generalize (lg_sl av ++ List.replicate (mL - (lg_sl av).length) Slot.unset).toArray = ls at hl ⊢
  have htab : c.exceptionTable.toList = tableOf hh := vx_table (x := y) B (hts _ List.mem_cons_self)
  exact h p e _ s m _ below meth c s.heap [] 0 0 ls ⟨B.exec, B.bytes, hml, findClass_of_methodNamed B.named, B.notSynchronized, B.returns, htab, (name_of_methodNamed B.named B.method).1, fun w hw => hts w (List.mem_cons_of_mem _ hw), hP.2.1, hP.2.2, Nat.le_refl _, Nat.le_refl _, rfl, rfl⟩ hl hP.1 va_S.rf (by show 0 + k ≤ k; omega) (by show 0 + n ≤ n; omega)
def wCallH (own : String) (ix : Nat) (y : MethodName) (b : ByteArray) (mL : Nat) (rt : Option FieldType) (hh : Tb) (np : Nat) : Prop :=
  Cond.methodLink own ix y ∈ wG ∧ Cond.codeWith y b mL rt hh ∈ wG ∧ Cond.initialized y.cls ∈ wG ∧ (y.cls ≠ "java/lang/invoke/MethodHandle" ∧ y.cls ≠ "java/lang/invoke/VarHandle") ∧ (parseMethodDescriptor y.desc).map (fun d => d.parameters.length) = some np ∧ mL ≤ 81
theorem r_invSH {ix i1 : Nat} {y : MethodName} {b : ByteArray} {mL np k' n' k2 n2 : Nat} {rt : Option FieldType} {hh : Tb} {As : List Value} (hw : wCallH X.1 ix y b mL rt hh np) (h1 : lw_tbl[i1]? = some (.static y)) (hn0 : As.length = np) (hst : (st.map fun v => v.category).sum ≤ 8) (hk2 : k' + k2 ≤ k) (hn2 : n' + n2 ≤ n) (dg : decode X.2.1 pc = .ok (.invokestatic ix, 3)) (hq : pc + 3 = q) {stk : List Value} (hstk : stk = As.reverse ++ st)
    (ms : MT G y b mL rt hh d k' n' As M (fun v M' => AW G X (d + 1) k2 n2 q lv (wCons v st) M') (fun _ _ => False)) : AW G X (d + 1) k n pc lv stk M := by
  intro p e R s m args below meth c H locs cells slots ls cx hl hm hS hk hn
  subst hq; subst hstk
  have hRc := cx.2.2.2.2.2.2.2.2.2.2.2.2.2.1
  have hRs := cx.2.2.2.2.2.2.2.2.2.2.2.2.2.2
  obtain ⟨w1, w2, w3, w4, w5, w6⟩ := hw
  have ht := cx.2.2.2.2.2.2.2.2.1
  have hF := cx.2.2.2.2.2.2.2.2.2.2.2.1
  have hL := cx.2.2.2.2.2.2.2.2.2.2.2.2.1
  have cw : vx_CSW R s args X.1 ix y b mL rt hh (.codeWith y b mL rt hh :: wG) (wRm d k' n') k' n' np := by
    refine ⟨⟨rfl, rfl, hF, by show 8 + (mL + 11) + 100 * d ≤ R.locals; omega, ?_, List.mem_cons_self⟩, ht _ w2, ht _ w3, w4, fun sig hs => ?_, ht _ w1, cx.ts h1 rfl⟩
    · intro w hw a' U hW
      rcases List.mem_cons.mp hw with rfl | hw
      · exact word_at hW (good_of_word (wG_good _ w2)) (ht _ w2)
      · exact word_at hW (good_of_word (wG_good _ hw)) (ht _ hw)
    · rw [hs] at w5
      exact (Option.some.inj w5).symm
  refine aw_run (vx_runSX (Ts := wG) (own := X.1) (As := As) (rest := st) ⟨cx.1, cx.2.1, cx.2.2.1, cx.own, cx.2.2.2.2.2.2.2.2.1⟩ ms cw ⟨wPc_blind, wPre cx hm hS⟩ rfl hn0 hl.1 rfl (lv_room hst) dg ⟨by omega, by omega⟩) hS (fun v M' H' locs' hq hm' hS' => ?_) (fun E M' q9 ce H' locs' hq => hq.elim)
  exact hq p e R s m args below meth c H' locs' _ _ ls cx hl hm' hS' (by omega) (by omega)
/-- a throw of E at pc goes to the handler at h -/
def CT (T : List ExceptionTableEntry) (own : String) (pc : Nat) (E : String) (h : Nat) : Prop := ∃ pre x suf name, T = pre ++ x :: suf ∧ (∀ z ∈ pre, covers z pc = false ∨ (z.catchType ≠ 0 ∧ ∃ (nm : String) (i : Nat), lw_tbl[i]? = some (Cond.classLink own z.catchType nm) ∧ (E, nm) ∈ wNc)) ∧ covers x pc = true ∧ x.catchType ≠ 0 ∧ (∃ i : Nat, lw_tbl[i]? = some (Cond.classLink own x.catchType name)) ∧ (∃ i : Nat, lw_tbl[i]? = some (Cond.castable E name)) ∧ x.handlerPc = h
/-- a call in a try -/
theorem r_invVC {ix i1 i2 : Nat} {y : MethodName} {b : ByteArray} {mL np k' n' k2 n2 ci N a : Nat} {rt : Option FieldType} {o : Ob} {fs : List Value} {C : String} {T : u_T} {As : List Value} {QX : String → Me → Prop} (hw : wCall X.1 ix y b mL rt np) (hyC : y.cls = C) (h1 : lw_tbl[i1]? = some (.instanceMethod y)) (h2 : lw_tbl[i2]? = some (.selects C y y)) (hM : M o = some (a, .inr (ci, fs))) (hc : wCl[ci]? = some (C, T, N)) (hn0 : As.length = np) (hst : (st.map fun v => v.category).sum ≤ 8) (hk2 : k' + k2 ≤ k) (hn2 : n' + n2 ≤ n) (dg : decode X.2.1 pc = .ok (.invokevirtual ix, 3)) (hq : pc + 3 = q) {stk : List Value} (hstk : stk = As.reverse ++ .ref a :: st)
    (ms : MS G y b mL rt d k' n' (.ref a :: As) M (fun v M' => AW G X (d + 1) k2 n2 q lv (wCons v st) M') QX)
    (hx : ∀ E M', QX E M' → ∃ h, CT X.2.2.2.2.1 X.1 pc E h ∧ ∀ q9 : Nat, AW G X (d + 1) k2 n2 h lv [.ref q9] M') : AW G X (d + 1) k n pc lv stk M := by
  intro p e R s m args below meth c H locs cells slots ls cx hl hm hS hk hn
  subst hq; subst hstk
  have hRc := cx.2.2.2.2.2.2.2.2.2.2.2.2.2.1
  have hRs := cx.2.2.2.2.2.2.2.2.2.2.2.2.2.2
  have hE := cx.2.2.2.2.2.2.2.2.2.1
  refine aw_run (vx_runV (Ts := wG) (own := X.1) (C := C) (b := a) (As := As) (rest := st) ⟨cx.1, cx.2.1, cx.2.2.1, cx.own, cx.2.2.2.2.2.2.2.2.1⟩ ms ⟨wCallB cx hw, cx.ts h1 rfl, cx.ts h2 rfl⟩ ⟨wPc_blind, va_recv hm.1 (hm.at1 hM) hc (q0 := 0) rfl, wPre cx hm hS⟩ rfl hn0 hl.1 rfl (lv_room hst) dg ⟨by omega, by omega⟩) hS (fun v M' H' locs' hq hm' hS' => ?_) (fun E M' q9 ce H' locs' hq hm' hS' h4 h5 h6 => ?_)
  · exact hq p e R s m args below meth c H' locs' _ _ ls cx hl hm' hS' (by omega) (by omega)
  · obtain ⟨h, ⟨pre, x, suf, name, t1, t2, t3, t4, ⟨i5, t5⟩, ⟨i6, t6⟩, t7⟩, go⟩ := hx E M' hq
    refine vx_catch (own := X.1) (name := name) (E := E) cx.own pre x suf (by rw [cx.2.2.2.2.2.2.1]; exact t1) (fun z hz => ?_) t3 t4 (cx.ts t5 rfl) ?_ h4 h5 h6 ?_
    · rcases t2 z hz with g | ⟨g1, nm, i, g2, g3⟩
      · exact Or.inl g
      · exact Or.inr ⟨g1, nm, cx.ts g2 rfl, (hE.kept hS.2.1).2.2.2.2.2.2.2.2.2.2.1.2.2.1 _ g3⟩
    · exact va_Nw.use rfl (hE.1 _ (List.mem_of_getElem? t6) rfl)
    · rw [t7]
      exact go q9 p e R s m args below meth c H' locs' _ _ ls cx hl hm' hS' (by omega) (by omega)
end W90
