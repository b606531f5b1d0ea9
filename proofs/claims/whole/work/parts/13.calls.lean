/-! METHODS: contracts over the memory; calls, returns, throws -/
section WMT
variable {G : En} {X : Fx} {d k n pc q : Nat} {lv : List (Option Value)} {st : List Value} {M : Me}
theorem wPic.same {U U' : State} (ev : U'.vm = U.vm) (eh : U'.heap = U.heap) (h : wPic G M U) : wPic G M U' := by
  obtain ⟨h1, h2, h3⟩ := h
  refine ⟨?_, ?_, by rw [eh]; exact h3⟩
  · rw [eh]
    exact wMem.moved (by rw [ev]; exact Vm.Alike.refl U.vm) h1
  · rw [eh]
    exact wEnv.same ev h2
def wPc (G : En) (av : List Value) (M : Me) : Array Value → State → Prop := fun v U => v = av.toArray ∧ wPic G M U
def wQc (G : En) (Q : Option Value → Me → Prop) : Array Value → State → Outcome → State → Prop := fun _ st o t => (∃ v M', o = .returned v ∧ Q v M' ∧ wMem G M' t t.heap) ∧ va_F (wA G) st t
def wXC (G : En) (QX : String → Me → Prop) : String → State → State → Prop := fun E st t => (∃ M', QX E M' ∧ wMem G M' t t.heap) ∧ va_F (wA G) st t
theorem wPc_blind {av : List Value} : FrameBlind (wPc G av M) := fun a U g mk h => ⟨h.1, wPic.same (U := U) (U' := U.calling g mk a) rfl rfl h.2⟩
def wRm (d k n : Nat) : Room := { frames := d, cells := k, slots := n, locals := 100 * d }
/-- the contract of a method over the memory -/
def MS (G : En) (y : MethodName) (b : ByteArray) (mL : Nat) (rt : Option FieldType) (d k n : Nat) (av : List Value) (M : Me) (Q : Option Value → Me → Prop) (QX : String → Me → Prop) : Prop :=
  vx_Met G.1 y (.code y b mL rt :: wG) (wRm d k n) (wPc G av M) (wQc G Q) (wXC G QX) k n (wA G)
def wFin (G : En) (Q : Option Value → Me → Prop) (QX : String → Me → Prop) (k0 n0 : Nat) : List Frame → Array Value → State → State → Prop := fun below args s => vx_MQ below (wQc G Q) (wXC G QX) args s k0 n0 (wA G)
abbrev wX (G : En) (y : MethodName) (b : ByteArray) (mL : Nat) (rt : Option FieldType) (k0 n0 : Nat) (Q : Option Value → Me → Prop) (QX : String → Me → Prop) : Fx := (y.cls, b, mL, rt, [], y.name, k0, n0, wFin G Q QX k0 n0)
theorem lv_args_mem : ∀ (av : List Value) (j i : Nat) (v : Value), (∀ w ∈ av, w.category = 1) → av[i]? = some v → (j + i, v) ∈ lv_args j av := by
  intro av
  induction av with
  | nil => intro j i v _ h; simp at h
  | cons w av ih =>
    intro j i v hc h
    cases i with
    | zero =>
      simp only [List.getElem?_cons_zero, Option.some.injEq] at h
      subst h
      simp [lv_args]
    | succ i =>
      simp only [List.getElem?_cons_succ] at h
      have h1 := ih (j + 1) i v (fun x hx => hc x (List.mem_cons_of_mem _ hx)) h
      have hw : ¬ w.category = 2 := by rw [hc w List.mem_cons_self]; decide
      simp only [lv_args, if_neg hw]
      rw [show j + (i + 1) = j + 1 + i by omega]
      exact List.mem_cons_of_mem _ h1
theorem lg_sl_len : ∀ (av : List Value), (∀ w ∈ av, w.category = 1) → (lg_sl av).length = av.length := by
  intro av
  induction av with
  | nil => intro _; rfl
  | cons w av ih =>
    intro hc
    have hw : ¬ w.category = 2 := by rw [hc w List.mem_cons_self]; decide
    have h1 := ih (fun x hx => hc x (List.mem_cons_of_mem _ hx))
    simp only [lg_sl, List.flatMap_cons, if_neg hw, List.length_append, List.length_cons, List.length_nil] at h1 ⊢
    omega
theorem wL_entry {av : List Value} {mL : Nat} (hc : ∀ w ∈ av, w.category = 1) (hle : av.length ≤ mL) : wL ((lg_sl av ++ List.replicate (mL - (lg_sl av).length) Slot.unset).toArray) mL (av.map some ++ List.replicate (mL - av.length) none) := by
  have h := lv_entry av (n := mL) (by rw [lg_sl_len av hc]; exact hle)
  refine ⟨h.1, h.2.1, fun i v hi => ?_⟩
  by_cases hl : i < av.length
  · rw [List.getElem?_append_left (by simpa using hl), List.getElem?_map] at hi
    cases hx : av[i]? with
    | none => rw [hx] at hi; simp at hi
    | some w =>
      rw [hx] at hi
      simp only [Option.map_some, Option.some.injEq] at hi
      subst hi
      have h2 := lv_args_mem av 0 i w hc hx
      rw [Nat.zero_add] at h2
      exact h.2.2 _ h2
  · rw [List.getElem?_append_right (by simpa using hl)] at hi
    have h3 := List.mem_of_getElem? hi
    rw [List.mem_replicate] at h3
    exact absurd h3.2 (by simp)
theorem MS.of {y : MethodName} {b : ByteArray} {mL : Nat} {rt : Option FieldType} {av : List Value} {Q : Option Value → Me → Prop} {QX : String → Me → Prop} (hy : plainName y.cls = true) (hc : ∀ w ∈ av, w.category = 1) (hle : av.length ≤ mL)
    (h : AW G (wX G y b mL rt k n Q QX) d k n 0 (av.map some ++ List.replicate (mL - av.length) none) [] M) : MS G y b mL rt d k n av M Q QX := by
  refine vx_ofW (cc := b) (maxL := mL) (ret := rt) hy rfl ?_
  intro p e s m args below meth c s₁ B hml ht hv
  obtain ⟨rfl, hP⟩ := hv
  have hts := atoms_spec (ws := .code y b mL rt :: wG) B.pre
  have hl := wL_entry (mL := mL) hc hle
  rw [lg_entry_eq]
  generalize (lg_sl av ++ List.replicate (mL - (lg_sl av).length) Slot.unset).toArray = ls at hl ⊢
  have htab : c.exceptionTable.toList = [] := List.eq_nil_iff_forall_not_mem.mpr fun x hx => ht x hx
  exact h p e _ s m _ below meth c s.heap [] 0 0 ls ⟨B.exec, B.bytes, hml, findClass_of_methodNamed B.named, B.notSynchronized, B.returns, htab, (name_of_methodNamed B.named B.method).1, fun w hw => hts w (List.mem_cons_of_mem _ hw), hP.2.1, hP.2.2, Nat.le_refl _, Nat.le_refl _, rfl, rfl⟩ hl hP.1 va_S.rf (by show 0 + k ≤ k; omega) (by show 0 + n ≤ n; omega)
/-! returns -/
theorem wEnd {p : Program} {R : Room} {s : State} {m : MethodId} {args : Array Value} {meth : Method} {c : Code} {H : Heap} {locs : List Loc} {v : Option Value} {Q : Option Value → Me → Prop} (hm : wMem G M s H) (hS : va_S (wA G) s.heap H locs) (hQ : Q v M) : ∀ t : State, t.heap = H → s.WarmedH t.vm → wQc G Q args s (.returned v) t := by
  intro t ht hW
  exact ⟨⟨v, M, rfl, hQ, by rw [ht]; exact hm.moved hW.alike⟩, hS.F ht⟩
theorem r_zret {own : String} {b : ByteArray} {mL k0 n0 : Nat} {ty : FieldType} {tab : List ExceptionTableEntry} {nm : String} {Q : Option Value → Me → Prop} {QX : String → Me → Prop} {v : Int32} (dg : decode b pc = .ok (.ireturn, 1)) (hn0 : narrow ty (.int v) = .int v) (hQ : Q (some (.int v)) M) : AW G (own, b, mL, some ty, tab, nm, k0, n0, wFin G Q QX k0 n0) d k n pc lv [.int v] M := by
  intro p e R s m args below meth c H locs cells slots ls cx hl hm hS hk hn
  refine vx_ret (W.widen (k := k0) (n := n0) (Nat.le_trans (Nat.le_add_right _ k) hk) (Nat.le_trans (Nat.le_add_right _ n) hn) ?_)
  exact W.zret cx.1 cx.2.1 cx.2.2.2.2.2.1 hn0 (wEnd (p := p) (R := R) (m := m) (meth := meth) (c := c) hm hS hQ) hS.2.2 dg cx.2.2.2.2.1
theorem r_iret {own : String} {b : ByteArray} {mL k0 n0 : Nat} {tab : List ExceptionTableEntry} {nm : String} {Q : Option Value → Me → Prop} {QX : String → Me → Prop} {v : Int32} (dg : decode b pc = .ok (.ireturn, 1)) (hQ : Q (some (.int v)) M) : AW G (own, b, mL, some .int, tab, nm, k0, n0, wFin G Q QX k0 n0) d k n pc lv [.int v] M := r_zret dg rfl hQ
theorem r_vret {own : String} {b : ByteArray} {mL k0 n0 : Nat} {tab : List ExceptionTableEntry} {nm : String} {Q : Option Value → Me → Prop} {QX : String → Me → Prop} (dg : decode b pc = .ok (.return_, 1)) (hQ : Q none M) : AW G (own, b, mL, none, tab, nm, k0, n0, wFin G Q QX k0 n0) d k n pc lv [] M := by
  intro p e R s m args below meth c H locs cells slots ls cx hl hm hS hk hn
  refine vx_ret (W.widen (k := k0) (n := n0) (Nat.le_trans (Nat.le_add_right _ k) hk) (Nat.le_trans (Nat.le_add_right _ n) hn) ?_)
  exact W.vret cx.1 cx.2.1 cx.2.2.2.2.2.1 (wEnd (p := p) (R := R) (m := m) (meth := meth) (c := c) hm hS hQ) hS.2.2 dg cx.2.2.2.2.1
theorem r_aret {own : String} {b : ByteArray} {mL k0 n0 : Nat} {rt : FieldType} {tab : List ExceptionTableEntry} {nm : String} {Q : Option Value → Me → Prop} {QX : String → Me → Prop} {v : Value} (dg : decode b pc = .ok (.areturn, 1)) (hrt : (∃ n, rt = .object n) ∨ ∃ t, rt = .array t) (hv : v = .null ∨ ∃ a, v = .ref a) (hQ : Q (some v) M) : AW G (own, b, mL, some rt, tab, nm, k0, n0, wFin G Q QX k0 n0) d k n pc lv [v] M := by
  intro p e R s m args below meth c H locs cells slots ls cx hl hm hS hk hn
  refine vx_ret (W.widen (k := k0) (n := n0) (Nat.le_trans (Nat.le_add_right _ k) hk) (Nat.le_trans (Nat.le_add_right _ n) hn) ?_)
  exact W.aret cx.1 cx.2.1 cx.2.2.2.2.2.1 hrt hv (wEnd (p := p) (R := R) (m := m) (meth := meth) (c := c) hm hS hQ) hS.2.2 dg cx.2.2.2.2.1
theorem r_dret {own : String} {b : ByteArray} {mL k0 n0 : Nat} {tab : List ExceptionTableEntry} {nm : String} {Q : Option Value → Me → Prop} {QX : String → Me → Prop} {v : UInt64} (dg : decode b pc = .ok (.dreturn, 1)) (hQ : Q (some (.double v)) M) : AW G (own, b, mL, some .double, tab, nm, k0, n0, wFin G Q QX k0 n0) d k n pc lv [.double v] M := by
  intro p e R s m args below meth c H locs cells slots ls cx hl hm hS hk hn
  refine vx_ret (W.widen (k := k0) (n := n0) (Nat.le_trans (Nat.le_add_right _ k) hk) (Nat.le_trans (Nat.le_add_right _ n) hn) ?_)
  exact W.dret cx.1 cx.2.1 cx.2.2.2.2.2.1 (wEnd (p := p) (R := R) (m := m) (meth := meth) (c := c) hm hS hQ) hS.2.2 dg cx.2.2.2.2.1
theorem r_fret {own : String} {b : ByteArray} {mL k0 n0 : Nat} {tab : List ExceptionTableEntry} {nm : String} {Q : Option Value → Me → Prop} {QX : String → Me → Prop} {v : UInt32} (dg : decode b pc = .ok (.freturn, 1)) (hQ : Q (some (.float v)) M) : AW G (own, b, mL, some .float, tab, nm, k0, n0, wFin G Q QX k0 n0) d k n pc lv [.float v] M := by
  intro p e R s m args below meth c H locs cells slots ls cx hl hm hS hk hn
  refine vx_ret (W.widen (k := k0) (n := n0) (Nat.le_trans (Nat.le_add_right _ k) hk) (Nat.le_trans (Nat.le_add_right _ n) hn) ?_)
  exact W.fret cx.1 cx.2.1 cx.2.2.2.2.2.1 (wEnd (p := p) (R := R) (m := m) (meth := meth) (c := c) hm hS hQ) hS.2.2 dg cx.2.2.2.2.1
/-! calls -/
def wCons : Option Value → List Value → List Value
  | some v, l => v :: l
  | none, l => l
theorem aw_run {p : Program} {e : Env} {R : Room} {s : State} {m : MethodId} {args a9 : Array Value} {below : List Frame} {meth : Method} {c : Code} {H : Heap} {locs : List Loc} {cells slots k' n' : Nat} {ls : Array Slot} {st0 rest : List Value} {Z : State → Prop} {Q1 : Option Value → Me → Prop} {Q2 : String → Me → Prop}
    (run : vx_Run p G.1 e R s m args below meth c H locs cells slots k' n' (F0 m pc ls st0) rest (wQc G Q1 a9) (wXC G Q2) (wA G)) (hS : va_S (wA G) s.heap H locs)
    (kr : ∀ (v : Option Value) (M' : Me) (H' : Heap) (locs' : List Loc), Q1 v M' → wMem G M' s H' → va_S (wA G) s.heap H' locs' → W p G.1 e R s m args below meth c H' locs' (cells + k') (slots + n') Z (F0 m (pc + 3) ls (wCons v rest)))
    (kx : ∀ (E : String) (M' : Me) (q : Addr) (ce : Cell) (H' : Heap) (locs' : List Loc), Q2 E M' → wMem G M' s H' → va_S (wA G) s.heap H' locs' → H'[q]? = some ce → ce.vm = .none → s.vm.findClass E = some ce.cls → vx_W p G.1 e R s m args below meth c H' locs' (cells + k') (slots + n') Z (F0 m pc ls rest) q) :
    W p G.1 e R s m args below meth c H locs cells slots Z (F0 m pc ls st0) := by
  intro T hT Xs
  rcases run T hT Xs with ⟨v, st₀, t, T', L, h0, X', hL, e1, e2, ⟨⟨v', M', hv, hq, hmem⟩, hF⟩, go⟩ | ⟨q9, st₀, t, T', L, E, ce, h0, X', hL, e1, e2, ⟨⟨M', hq, hmem⟩, hF⟩, hce, hcv, hcl, stp⟩
  · cases hv
    obtain ⟨-, -, hS'⟩ := vx_keep h0 e1 hS (fun _ _ h => h) (fun _ h => h) hL hF
    have hal : t.vm.Alike s.vm := by rw [← e2]; exact X'.warmed.alike.symm
    have hm' : wMem G M' s T'.heap := by rw [e1]; exact hmem.moved hal
    obtain ⟨t2, a1, b1⟩ := kr v M' T'.heap _ hq hm' hS' T' rfl X'
    refine ⟨t2, go t2 ?_, b1⟩
    cases v <;> exact a1
  · obtain ⟨-, -, hS'⟩ := vx_keep h0 e1 hS (fun _ _ h => h) (fun _ h => h) hL hF
    have hal : t.vm.Alike s.vm := by rw [← e2]; exact X'.warmed.alike.symm
    have hm' : wMem G M' s T'.heap := by rw [e1]; exact hmem.moved hal
    obtain ⟨t2, a1, b1⟩ := kx E M' q9 ce T'.heap _ hq hm' hS' (by rw [e1]; exact hce) hcv hcl T' rfl X'
    exact ⟨t2, stp.trans a1, b1⟩
theorem wPre {p : Program} {R : Room} {s : State} {m : MethodId} {args : Array Value} {meth : Method} {c : Code} {H : Heap} {locs : List Loc} (cx : wCx G X d p R s m args meth c) (hm : wMem G M s H) (hS : va_S (wA G) s.heap H locs) {av : List Value} : ∀ U : State, U.heap = H → s.WarmedH U.vm → wPc G av M av.toArray U := by
  intro U hU hW
  have hE := cx.2.2.2.2.2.2.2.2.2.1
  refine ⟨rfl, by rw [hU]; exact hm.moved hW.alike, by rw [hU]; exact (hE.kept hS.2.1).moved hW, by rw [hU]; exact Nat.le_trans cx.2.2.2.2.2.2.2.2.2.2.1 hS.1⟩
theorem wG_good : ∀ w ∈ wG, goodWord w = true := fun _ h => by
  rcases List.mem_append.mp h with h | h
  · exact (List.mem_filter.mp h).2
  · simp only [wSx, List.mem_cons, List.not_mem_nil, or_false] at h
    rcases h with rfl | rfl <;> rfl
/-- what a call site needs of the tables: the link, and the callee's own -/
def wCall (own : String) (ix : Nat) (y : MethodName) (b : ByteArray) (mL : Nat) (rt : Option FieldType) (np : Nat) : Prop :=
  Cond.methodLink own ix y ∈ wG ∧ Cond.code y b mL rt ∈ wG ∧ Cond.initialized y.cls ∈ wG ∧ (y.cls ≠ "java/lang/invoke/MethodHandle" ∧ y.cls ≠ "java/lang/invoke/VarHandle") ∧ (parseMethodDescriptor y.desc).map (fun d => d.parameters.length) = some np ∧ mL ≤ 81
theorem wCallB {p : Program} {R : Room} {s : State} {m : MethodId} {args : Array Value} {meth : Method} {c : Code} {ix : Nat} {y : MethodName} {b : ByteArray} {mL np k' n' : Nat} {rt : Option FieldType} (cx : wCx G X (d + 1) p R s m args meth c) (h : wCall X.1 ix y b mL rt np) : CallB R s args X.1 ix y b mL rt (.code y b mL rt :: wG) (wRm d k' n') k' n' np := by
  obtain ⟨h1, h2, h3, h4, h5, h6⟩ := h
  have ht := cx.2.2.2.2.2.2.2.2.1
  have hF := cx.2.2.2.2.2.2.2.2.2.2.2.1
  have hL := cx.2.2.2.2.2.2.2.2.2.2.2.2.1
  refine ⟨rfl, rfl, hF, by show 8 + (mL + 11) + 100 * d ≤ R.locals; omega, ?_, List.mem_cons_self, ht _ h2, ht _ h3, h4, fun sig hs => ?_, ht _ h1⟩
  · intro w hw a' U hW
    rcases List.mem_cons.mp hw with rfl | hw
    · exact word_at hW (good_of_word (wG_good _ h2)) (ht _ h2)
    · exact word_at hW (good_of_word (wG_good _ hw)) (ht _ hw)
  · rw [hs] at h5
    exact (Option.some.inj h5).symm
theorem wOut {p : Program} {e : Env} {R : Room} {s : State} {m : MethodId} {args : Array Value} {below : List Frame} {meth : Method} {c : Code} {H : Heap} {locs : List Loc} {cells slots k0 n0 : Nat} {ls : Array Slot} {rest : List Value} {Q : Option Value → Me → Prop} {QX : String → Me → Prop} {E : String} {q9 : Addr} {ce : Cell}
    (htab : c.exceptionTable.toList = []) (hlocks : meth.locks = false) (hm : wMem G M s H) (hS : va_S (wA G) s.heap H locs) (hQ : QX E M) (hce : H[q9]? = some ce) (hcv : ce.vm = .none) (hcl : s.vm.findClass E = some ce.cls) (hc : cells ≤ k0) (hs : slots ≤ n0) : vx_W p G.1 e R s m args below meth c H locs cells slots (wFin G Q QX k0 n0 below args s) (F0 m pc ls rest) q9 := by
  refine vx_out (fun x hx => by rw [htab] at hx; cases hx) hlocks hce hcv hcl (fun t ht hal => ?_) hS.2.2 hc hs
  exact ⟨⟨M, hQ, by rw [ht]; exact hm.moved hal⟩, hS.F ht⟩
theorem r_invV {ix i1 i2 : Nat} {y : MethodName} {b : ByteArray} {mL np k' n' k2 n2 ci N a : Nat} {rt : Option FieldType} {o : Ob} {fs : List Value} {C : String} {T : u_T} {As : List Value} (hw : wCall X.1 ix y b mL rt np) (hyC : y.cls = C) (h1 : lw_tbl[i1]? = some (.instanceMethod y)) (h2 : lw_tbl[i2]? = some (.selects C y y)) (hM : M o = some (a, .inr (ci, fs))) (hc : wCl[ci]? = some (C, T, N)) (hn0 : As.length = np) (hst : (st.map fun v => v.category).sum ≤ 8) (hk2 : k' + k2 ≤ k) (hn2 : n' + n2 ≤ n) (dg : decode X.2.1 pc = .ok (.invokevirtual ix, 3)) (hq : pc + 3 = q) {stk : List Value} (hstk : stk = As.reverse ++ .ref a :: st)
    (ms : MS G y b mL rt d k' n' (.ref a :: As) M (fun v M' => AW G X (d + 1) k2 n2 q lv (wCons v st) M') (fun _ _ => False)) : AW G X (d + 1) k n pc lv stk M := by
  intro p e R s m args below meth c H locs cells slots ls cx hl hm hS hk hn
  subst hq; subst hstk
  have hRc := cx.2.2.2.2.2.2.2.2.2.2.2.2.2.1
  have hRs := cx.2.2.2.2.2.2.2.2.2.2.2.2.2.2
  refine aw_run (vx_runV (Ts := wG) (own := X.1) (C := C) (b := a) (As := As) (rest := st) ⟨cx.1, cx.2.1, cx.2.2.1, cx.own, cx.2.2.2.2.2.2.2.2.1⟩ ms ⟨wCallB cx hw, cx.ts h1 rfl, cx.ts h2 rfl⟩ ⟨wPc_blind, va_recv hm.1 (hm.at1 hM) hc (q0 := 0) rfl, wPre cx hm hS⟩ rfl hn0 hl.1 rfl (lv_room hst) dg ⟨by omega, by omega⟩) hS (fun v M' H' locs' hq hm' hS' => ?_) (fun E M' q9 ce H' locs' hq => hq.elim)
  exact hq p e R s m args below meth c H' locs' _ _ ls cx hl hm' hS' (by omega) (by omega)
theorem r_invS {ix i1 : Nat} {y : MethodName} {b : ByteArray} {mL np k' n' k2 n2 : Nat} {rt : Option FieldType} {As : List Value} (hw : wCall X.1 ix y b mL rt np) (h1 : lw_tbl[i1]? = some (.static y)) (hn0 : As.length = np) (hst : (st.map fun v => v.category).sum ≤ 8) (hk2 : k' + k2 ≤ k) (hn2 : n' + n2 ≤ n) (dg : decode X.2.1 pc = .ok (.invokestatic ix, 3)) (hq : pc + 3 = q) {stk : List Value} (hstk : stk = As.reverse ++ st)
    (ms : MS G y b mL rt d k' n' As M (fun v M' => AW G X (d + 1) k2 n2 q lv (wCons v st) M') (fun _ _ => False)) : AW G X (d + 1) k n pc lv stk M := by
  intro p e R s m args below meth c H locs cells slots ls cx hl hm hS hk hn
  subst hq; subst hstk
  have hRc := cx.2.2.2.2.2.2.2.2.2.2.2.2.2.1
  have hRs := cx.2.2.2.2.2.2.2.2.2.2.2.2.2.2
  refine aw_run (vx_runS (Ts := wG) (own := X.1) (As := As) (rest := st) ⟨cx.1, cx.2.1, cx.2.2.1, cx.own, cx.2.2.2.2.2.2.2.2.1⟩ ms ⟨wCallB cx hw, cx.ts h1 rfl⟩ ⟨wPc_blind, wPre cx hm hS⟩ rfl hn0 hl.1 rfl (lv_room hst) dg ⟨by omega, by omega⟩) hS (fun v M' H' locs' hq hm' hS' => ?_) (fun E M' q9 ce H' locs' hq => hq.elim)
  exact hq p e R s m args below meth c H' locs' _ _ ls cx hl hm' hS' (by omega) (by omega)
/-- a call that may throw: what it throws goes on to the caller -/
theorem r_invVX {own : String} {cc : ByteArray} {nL : Nat} {ret : Option FieldType} {nm : String} {k0 n0 : Nat} {Q0 : Option Value → Me → Prop} {QX0 : String → Me → Prop} {ix i1 i2 : Nat} {y : MethodName} {b : ByteArray} {mL np k' n' k2 n2 ci N a : Nat} {rt : Option FieldType} {o : Ob} {fs : List Value} {C : String} {T : u_T} {As : List Value} (hw : wCall own ix y b mL rt np) (hyC : y.cls = C) (h1 : lw_tbl[i1]? = some (.instanceMethod y)) (h2 : lw_tbl[i2]? = some (.selects C y y)) (hM : M o = some (a, .inr (ci, fs))) (hc : wCl[ci]? = some (C, T, N)) (hn0 : As.length = np) (hst : (st.map fun v => v.category).sum ≤ 8) (hk2 : k' + k2 ≤ k) (hn2 : n' + n2 ≤ n) (dg : decode cc pc = .ok (.invokevirtual ix, 3)) (hq : pc + 3 = q) {stk : List Value} (hstk : stk = As.reverse ++ .ref a :: st)
    (ms : MS G y b mL rt d k' n' (.ref a :: As) M (fun v M' => AW G (own, cc, nL, ret, [], nm, k0, n0, wFin G Q0 QX0 k0 n0) (d + 1) k2 n2 q lv (wCons v st) M') QX0) : AW G (own, cc, nL, ret, [], nm, k0, n0, wFin G Q0 QX0 k0 n0) (d + 1) k n pc lv stk M := by
  intro p e R s m args below meth c H locs cells slots ls cx hl hm hS hk hn
  subst hq; subst hstk
  have hRc := cx.2.2.2.2.2.2.2.2.2.2.2.2.2.1
  have hRs := cx.2.2.2.2.2.2.2.2.2.2.2.2.2.2
  dsimp only at hRc hRs hk hn
  refine aw_run (vx_runV (Ts := wG) (own := own) (C := C) (b := a) (As := As) (rest := st) ⟨cx.1, cx.2.1, cx.2.2.1, cx.own, cx.2.2.2.2.2.2.2.2.1⟩ ms ⟨wCallB cx hw, cx.ts h1 rfl, cx.ts h2 rfl⟩ ⟨wPc_blind, va_recv hm.1 (hm.at1 hM) hc (q0 := 0) rfl, wPre cx hm hS⟩ rfl hn0 hl.1 rfl (lv_room hst) dg ⟨by omega, by omega⟩) hS (fun v M' H' locs' hq hm' hS' => ?_) (fun E M' q9 ce H' locs' hq hm' hS' h4 h5 h6 => ?_)
  · exact hq p e R s m args below meth c H' locs' _ _ ls cx hl hm' hS' (by dsimp only; omega) (by dsimp only; omega)
  · exact wOut cx.2.2.2.2.2.2.1 cx.2.2.2.2.1 hm' hS' hq h4 h5 h6 (by omega) (by omega)
/-- new E("text"); throw -/
theorem r_throw {own : String} {cc : ByteArray} {nL : Nat} {ret : Option FieldType} {nm : String} {k0 n0 : Nat} {Q0 : Option Value → Me → Prop} {QX0 : String → Me → Prop} {ik is ic i1 i2 j : Nat} {cls text : String} {names : List String} (hcls : Bundle.fit cls = true) (hnames : ∀ x ∈ names, Bundle.fit x = true) (h1 : lw_tbl[i1]? = some (.classLink own ik cls)) (h2 : lw_tbl[i2]? = some (.initialized cls)) (h3 : wTx[j]? = some (own, is, text)) (hat : (vx_atS own ic cls names).all (fun w => decide (w ∈ lw_tbl) && (goodWord w || wNw w)) = true) (hgood : (Cond.classLink own ik cls :: Cond.initialized cls :: vx_atS own ic cls names).all vx_ot = true) (hnl : names.length ≤ 4) (hd : 8 ≤ d) (hst : (st.map fun v => v.category).sum ≤ 8) (h4 : 1 ≤ k) (h5 : 6 ≤ n)
    (d0 : decode cc pc = .ok (.new ik, 3)) (d3 : decode cc (pc + 3) = .ok (.dup, 1)) (d4 : decode cc (pc + 4) = .ok (.ldc is, 2)) (d6 : decode cc (pc + 6) = .ok (.invokespecial ic, 3)) (d9 : decode cc (pc + 9) = .ok (.athrow, 1)) (hQ : QX0 cls M) : AW G (own, cc, nL, ret, [], nm, k0, n0, wFin G Q0 QX0 k0 n0) d k n pc lv st M := by
  intro p e R s m args below meth c H locs cells slots ls cx hl hm hS hk hn
  have hRc := cx.2.2.2.2.2.2.2.2.2.2.2.2.2.1
  have hRs := cx.2.2.2.2.2.2.2.2.2.2.2.2.2.2
  have hF := cx.2.2.2.2.2.2.2.2.2.2.2.1
  have hL := cx.2.2.2.2.2.2.2.2.2.2.2.2.1
  have hE := cx.2.2.2.2.2.2.2.2.2.1
  dsimp only at hRc hRs hk hn
  refine vx_throwS (names := names) (A := wA G) cx.1 cx.2.1 hE.2.2.2.2.2.2.2.2.2.2.2 cx.own hcls hnames (cx.ts h1 rfl) (cx.ts h2 rfl) (hE.2.2.2.2.2.2.2.2.2.1 j _ h3) (fun w hw => ?_) (fun w hw => List.all_eq_true.mp hgood w hw) hE.2.2.1 hE.2.2.2.1 hS (hl.1.trans cx.2.2.1.symm) d0 d3 d4 d6 d9 (fun x hx => by rw [cx.2.2.2.2.2.2.1] at hx; cases hx) (by omega) (by omega) (by omega) (by omega) cx.2.2.2.2.1 (fun t hal hz hp => ?_) hS.2.2 (by omega) (by omega)
  · have h9 := List.all_eq_true.mp hat w hw
    simp only [Bool.and_eq_true, decide_eq_true_eq, Bool.or_eq_true] at h9
    rcases h9.2 with hg | hg
    · exact cx.2.2.2.2.2.2.2.2.1 w (wG_mem h9.1 hg)
    · have h8 := hE.1 w h9.1 hg
      cases w <;> first | (simp [wNw] at hg; done) | exact va_Nw.use rfl h8
  · refine ⟨⟨M, hQ, ?_⟩, ?_, ?_⟩
    · refine wMem.moved (u := s) hal ⟨hm.1, fun o a9 e9 ho => ⟨(hm.2.1 o a9 e9 ho).1.kept (hp a9 (hm.2.1 o a9 e9 ho).1.lt), (hm.2.1 o a9 e9 ho).2⟩, hm.2.2⟩
    · exact Nat.le_trans hS.1 hz
    · exact fun x h8 h9 => (hp x (Nat.lt_of_lt_of_le h8 hS.1)).trans (hS.2.1 x h8 h9)
end WMT
