/-! RULES: calls of what is above, of constructors; copies of bytes -/
section W39
variable {G : En} {X : Fx} {d k n pc q : Nat} {lv : List (Option Value)} {st : List Value} {M : Me}
theorem wCx.ws {p : Program} {R : Room} {s : State} {m : MethodId} {args : Array Value} {meth : Method} {c : Code} (cx : wCx G X d p R s m args meth c) : ∀ w ∈ wG, w.before args s = true := cx.2.2.2.2.2.2.2.2.1
def wSel (C : String) (y : MethodName) : Prop := ∀ (s : State) (args : Array Value), (∀ w ∈ wG, w.before args s = true) → (Cond.selects C y y).before args s = true
theorem wSel.tbl {C : String} {y : MethodName} {i : Nat} (h : lw_tbl[i]? = some (.selects C y y)) : wSel C y := fun _ _ hw => hw _ (wG_in h rfl)
theorem r_cU {own : String} {cc : ByteArray} {nL : Nat} {ret : Option FieldType} {tab : List ExceptionTableEntry} {nm : String} {k0 n0 : Nat} {Z : List Frame → Array Value → State → State → Prop} {ix i1 : Nat} {y : MethodName} {b : ByteArray} {mL np k' n' k2 n2 : Nat} {rt : Option FieldType} {a : Nat} {As : List Value} {ci N : Nat} {o : Ob} {fs : List Value} {C : String} {T : u_T} (hw : wCall own ix y b mL rt np) (h1 : lw_tbl[i1]? = some (.instanceMethod y)) (h2 : wSel C y) (hM : M o = some (a, .inr (ci, fs))) (hc : wCl[ci]? = some (C, T, N)) (hn0 : As.length = np) (hst : (st.map fun v => v.category).sum ≤ 8) (hk2 : k' + k2 ≤ k) (hn2 : n' + n2 ≤ n) (dg : decode cc pc = .ok (.invokevirtual ix, 3)) (hq : pc + 3 = q) {stk : List Value} (hstk : stk = As.reverse ++ .ref a :: st)
    (ms : MS G y b mL rt d k' n' (.ref a :: As) M (fun v M' => AW G (own, cc, nL, ret, tab, nm, k0, n0, Z) (d + 1) k2 n2 q lv (wCons v st) M') (fun _ _ => False)) : AW G (own, cc, nL, ret, tab, nm, k0, n0, Z) (d + 1) k n pc lv stk M := by
  intro p e R s m args below meth c H locs cells slots ls cx hl hm hS hk hn
  subst hq; subst hstk
  have hRc := cx.2.2.2.2.2.2.2.2.2.2.2.2.2.1
  have hRs := cx.2.2.2.2.2.2.2.2.2.2.2.2.2.2
  dsimp only at hRc hRs hk hn
  refine aw_run (vx_runV (Ts := wG) (own := own) (C := C) (b := a) (As := As) (rest := st) ⟨cx.1, cx.2.1, cx.2.2.1, cx.own, cx.2.2.2.2.2.2.2.2.1⟩ ms ⟨wCallB cx hw, cx.ts h1 rfl, h2 s args cx.ws⟩ ⟨wPc_blind, va_recv hm.1 (hm.at1 hM) hc (q0 := 0) rfl, wPre cx hm hS⟩ rfl hn0 hl.1 rfl (lv_room hst) dg ⟨by omega, by omega⟩) hS (fun v M' H' locs' hq hm' hS' => ?_) (fun E M' q9 ce H' locs' hq => hq.elim)
  exact hq p e R s m args below meth c H' locs' _ _ ls cx hl hm' hS' (by dsimp only; omega) (by dsimp only; omega)
theorem r_cSU {own : String} {cc : ByteArray} {nL : Nat} {ret : Option FieldType} {tab : List ExceptionTableEntry} {nm : String} {k0 n0 : Nat} {Z : List Frame → Array Value → State → State → Prop} {ix i1 : Nat} {y : MethodName} {b : ByteArray} {mL np k' n' k2 n2 : Nat} {rt : Option FieldType} {a : Nat} {As : List Value} {iS iP ci N : Nat} {o : Ob} {fs : List Value} {C : String} {T : u_T} (hw : wCall own ix y b mL rt np) (h1 : lw_tbl[i1]? = some (.instanceMethod y)) (hsame : lw_tbl[iS]? = some (.sameMethod y.cls y.cls y.name y.desc)) (hsup : lw_tbl[iP]? = some (.superclass own y.cls)) (hno : y.name ≠ "<init>") (hM : M o = some (a, .inr (ci, fs))) (hc : wCl[ci]? = some (C, T, N)) (hn0 : As.length = np) (hst : (st.map fun v => v.category).sum ≤ 8) (hk2 : k' + k2 ≤ k) (hn2 : n' + n2 ≤ n) (dg : decode cc pc = .ok (.invokespecial ix, 3)) (hq : pc + 3 = q) {stk : List Value} (hstk : stk = As.reverse ++ .ref a :: st)
    (ms : MS G y b mL rt d k' n' (.ref a :: As) M (fun v M' => AW G (own, cc, nL, ret, tab, nm, k0, n0, Z) (d + 1) k2 n2 q lv (wCons v st) M') (fun _ _ => False)) : AW G (own, cc, nL, ret, tab, nm, k0, n0, Z) (d + 1) k n pc lv stk M := by
  intro p e R s m args below meth c H locs cells slots ls cx hl hm hS hk hn
  subst hq; subst hstk
  have hRc := cx.2.2.2.2.2.2.2.2.2.2.2.2.2.1
  have hRs := cx.2.2.2.2.2.2.2.2.2.2.2.2.2.2
  dsimp only at hRc hRs hk hn
  have B := wCallB (k' := k') (n' := n') cx hw
  refine aw_run (vx_runSU (Ts := wG) (own := own) (C := C) (b := a) (As := As) (rest := st) (hm.1.1 ci _ hc).2 ⟨cx.1, cx.2.1, cx.2.2.1, cx.own, cx.2.2.2.2.2.2.2.2.1⟩ ms ⟨⟨B.1, B.2.1, B.2.2.1, B.2.2.2.1, B.2.2.2.2.1, B.2.2.2.2.2.1⟩, B.2.2.2.2.2.2.2.2.2.2, cx.ts hsame rfl, cx.ts hsup rfl, cx.ts h1 rfl, B.2.2.2.2.2.2.2.1, B.2.2.2.2.2.2.1, hno, B.2.2.2.2.2.2.2.2.2.1⟩ ⟨wPc_blind, va_recv hm.1 (hm.at1 hM) hc (q0 := 0) rfl, wPre cx hm hS⟩ rfl hn0 hl.1 rfl (lv_room hst) dg ⟨by omega, by omega⟩) hS (fun v M' H' locs' hq hm' hS' => ?_) (fun E M' q9 ce H' locs' hq => hq.elim)
  exact hq p e R s m args below meth c H' locs' _ _ ls cx hl hm' hS' (by dsimp only; omega) (by dsimp only; omega)
theorem r_cI {own : String} {cc : ByteArray} {nL : Nat} {ret : Option FieldType} {tab : List ExceptionTableEntry} {nm : String} {k0 n0 : Nat} {Z : List Frame → Array Value → State → State → Prop} {ix i1 : Nat} {y : MethodName} {b : ByteArray} {mL np k' n' k2 n2 : Nat} {a : Nat} {As : List Value} (hw : wCall own ix y b mL none np) (h1 : lw_tbl[i1]? = some (.instanceMethod y)) (hy : y.name = "<init>") (hn0 : As.length = np) (hst : (st.map fun v => v.category).sum ≤ 8) (hk2 : k' + k2 ≤ k) (hn2 : n' + n2 ≤ n) (dg : decode cc pc = .ok (.invokespecial ix, 3)) (hq : pc + 3 = q) {stk : List Value} (hstk : stk = As.reverse ++ .ref a :: st)
    (ms : MS G y b mL none d k' n' (.ref a :: As) M (fun v M' => AW G (own, cc, nL, ret, tab, nm, k0, n0, Z) (d + 1) k2 n2 q lv (wCons v st) M') (fun _ _ => False)) : AW G (own, cc, nL, ret, tab, nm, k0, n0, Z) (d + 1) k n pc lv stk M := by
  intro p e R s m args below meth c H locs cells slots ls cx hl hm hS hk hn
  subst hq; subst hstk
  have hRc := cx.2.2.2.2.2.2.2.2.2.2.2.2.2.1
  have hRs := cx.2.2.2.2.2.2.2.2.2.2.2.2.2.2
  dsimp only at hRc hRs hk hn
  refine aw_run (vx_runI (Ts := wG) (own := own) (b := a) (As := As) (rest := st) ⟨cx.1, cx.2.1, cx.2.2.1, cx.own, cx.2.2.2.2.2.2.2.2.1⟩ ms ⟨wCallB cx hw, hy, cx.ts h1 rfl⟩ ⟨wPc_blind, wPre cx hm hS⟩ rfl hn0 hl.1 rfl (lv_room hst) dg ⟨by omega, by omega⟩) hS (fun v M' H' locs' hq hm' hS' => ?_) (fun E M' q9 ce H' locs' hq => hq.elim)
  exact hq p e R s m args below meth c H' locs' _ _ ls cx hl hm' hS' (by dsimp only; omega) (by dsimp only; omega)
theorem r_cIN {own : String} {cc : ByteArray} {nL : Nat} {ret : Option FieldType} {tab : List ExceptionTableEntry} {nm : String} {k0 n0 : Nat} {Z : List Frame → Array Value → State → State → Prop} {ix i1 : Nat} {y : MethodName} {b : ByteArray} {mL np k' n' k2 n2 : Nat} {a : Nat} {As : List Value} {iN : Nat} {host : String} (hnest : lw_tbl[iN]? = some (.methodLinkNest own ix y host)) (hcd : Cond.code y b mL none ∈ wG) (hin : Cond.initialized y.cls ∈ wG) (hcls : y.cls ≠ "java/lang/invoke/MethodHandle" ∧ y.cls ≠ "java/lang/invoke/VarHandle") (hds : (parseMethodDescriptor y.desc).map (fun d => d.parameters.length) = some np) (hmL : mL ≤ 81) (h1 : lw_tbl[i1]? = some (.instanceMethod y)) (hy : y.name = "<init>") (hn0 : As.length = np) (hst : (st.map fun v => v.category).sum ≤ 8) (hk2 : k' + k2 ≤ k) (hn2 : n' + n2 ≤ n) (dg : decode cc pc = .ok (.invokespecial ix, 3)) (hq : pc + 3 = q) {stk : List Value} (hstk : stk = As.reverse ++ .ref a :: st)
    (ms : MS G y b mL none d k' n' (.ref a :: As) M (fun v M' => AW G (own, cc, nL, ret, tab, nm, k0, n0, Z) (d + 1) k2 n2 q lv (wCons v st) M') (fun _ _ => False)) : AW G (own, cc, nL, ret, tab, nm, k0, n0, Z) (d + 1) k n pc lv stk M := by
  intro p e R s m args below meth c H locs cells slots ls cx hl hm hS hk hn
  subst hq; subst hstk
  have hRc := cx.2.2.2.2.2.2.2.2.2.2.2.2.2.1
  have hRs := cx.2.2.2.2.2.2.2.2.2.2.2.2.2.2
  dsimp only at hRc hRs hk hn
  have ht := cx.ws
  have hF := cx.2.2.2.2.2.2.2.2.2.2.2.1
  have hL := cx.2.2.2.2.2.2.2.2.2.2.2.2.1
  have hE := cx.2.2.2.2.2.2.2.2.2.1
  have hwd : ∀ w ∈ (Cond.code y b mL none :: wG), ∀ (a' : Array Value) (U : State), s.WarmedH U.vm → w.before a' U = true := by
    intro w hw a' U hW
    rcases List.mem_cons.mp hw with rfl | hw
    · exact word_at hW (good_of_word (wG_good _ hcd)) (ht _ hcd)
    · exact word_at hW (good_of_word (wG_good _ hw)) (ht _ hw)
  have hnp : ∀ sig, parseMethodDescriptor y.desc = some sig → np = sig.parameters.length := by
    intro sig hs
    rw [hs] at hds
    exact (Option.some.inj hds).symm
  refine aw_run (vx_runIN (Ts := wG) (own := own) (host := host) (b := a) (As := As) (rest := st) (ws := .code y b mL none :: wG) (rm := wRm d k' n') ⟨cx.1, cx.2.1, cx.2.2.1, cx.own, cx.2.2.2.2.2.2.2.2.1⟩ ms ⟨⟨⟨rfl, rfl, hF, (by show 8 + (mL + 11) + 100 * d ≤ R.locals; omega), hwd, List.mem_cons_self⟩, ht _ hcd, ht _ hin, hcls, hnp, hE.1 _ (List.mem_of_getElem? hnest) rfl⟩, hy, cx.ts h1 rfl⟩ ⟨wPc_blind, wPre cx hm hS⟩ rfl hn0 hl.1 rfl (lv_room hst) dg ⟨by omega, by omega⟩) hS (fun v M' H' locs' hq hm' hS' => ?_) (fun E M' q9 ce H' locs' hq => hq.elim)
  exact hq p e R s m args below meth c H' locs' _ _ ls cx hl hm' hS' (by dsimp only; omega) (by dsimp only; omega)
theorem oi_im : lw_tbl[130]? = some (.instanceMethod Lib.objectInit) := by decide +kernel
theorem oi_cd : lw_tbl[131]? = some (.code Lib.objectInit ⟨#[0xb1]⟩ 1 none) := by decide +kernel
theorem r_objInit {ix i1 a : Nat} (h1 : lw_tbl[i1]? = some (.methodLink X.1 ix Lib.objectInit)) (dg : decode X.2.1 pc = .ok (.invokespecial ix, 3)) (hq : pc + 3 = q) (hst : (st.map fun v => v.category).sum ≤ 8) (k1 : AW G X (d + 1) k n q lv st M) : AW G X (d + 1) k n pc lv (.ref a :: st) M := by
  intro p e R s m args below meth c H locs cells slots ls cx hl hm hS hk hn
  subst hq
  have hF := cx.2.2.2.2.2.2.2.2.2.2.2.1
  have hL := cx.2.2.2.2.2.2.2.2.2.2.2.2.1
  exact W.objInit cx.1 cx.2.1 cx.own (cx.ts h1 rfl) (cx.ts oi_im rfl) (cx.ts oi_cd rfl) rfl (hl.1.trans cx.2.2.1.symm) rfl dg (by omega) (by show 2 * 0 + _ + 12 ≤ _; omega) (k1 p e R s m args below meth c H locs cells slots ls cx hl hm hS hk hn)
/-- a name moves to another cell -/
theorem wMem.ren {o1 o2 : Ob} {s : State} {H : Heap} (h : wMem G M s H) (hne : o1 ≠ o2) : wMem G (fun x => if x = o1 then M o2 else if x = o2 then none else M x) s H := by
  obtain ⟨hK, hP, hI⟩ := h
  refine ⟨hK, fun o a e ho => ?_, fun o o' a e e' ho ho' => ?_⟩
  · by_cases h1 : o = o1
    · simp only [h1, if_true] at ho; exact hP _ _ _ ho
    · by_cases h2 : o = o2
      · simp only [if_neg h1, h2, if_true] at ho
        rw [if_neg (Ne.symm hne)] at ho; cases ho
      · simp only [if_neg h1, if_neg h2] at ho; exact hP _ _ _ ho
  · have g : ∀ z e9, (if z = o1 then M o2 else if z = o2 then none else M z) = some (a, e9) → (z = o1 ∧ M o2 = some (a, e9)) ∨ (z ≠ o1 ∧ z ≠ o2 ∧ M z = some (a, e9)) := by
      intro z e9 hz
      by_cases h1 : z = o1
      · rw [if_pos h1] at hz; exact Or.inl ⟨h1, hz⟩
      · by_cases h2 : z = o2
        · rw [if_neg h1, if_pos h2] at hz; cases hz
        · rw [if_neg h1, if_neg h2] at hz; exact Or.inr ⟨h1, h2, hz⟩
    rcases g o e ho with ⟨a1, a2⟩ | ⟨a1, a2, a3⟩ <;> rcases g o' e' ho' with ⟨b1, b2⟩ | ⟨b1, b2, b3⟩
    · rw [a1, b1]
    · exact absurd (hI _ _ _ _ _ b3 a2) b2
    · exact absurd (hI _ _ _ _ _ a3 b2) a2
    · exact hI _ _ _ _ _ a3 b3
theorem r_ren (o1 o2 : Ob) (hne : o1 ≠ o2) (k1 : AW G X d k n pc lv st (fun x => if x = o1 then M o2 else if x = o2 then none else M x)) : AW G X d k n pc lv st M := fun p e R s m args below meth c H locs cells slots ls cx hl hm hS hk hn =>
  k1 p e R s m args below meth c H locs cells slots ls cx hl (hm.ren hne) hS hk hn
theorem ac_nat : lw_tbl[735]? = some (.native arraycopyName) := by decide +kernel
theorem ac_sta : lw_tbl[734]? = some (.static arraycopyName) := by decide +kernel
theorem ac_ini : lw_tbl[119]? = some (.initialized "java/lang/System") := by decide +kernel
theorem byte_fits {v : Int32} (h : ∃ n : Nat, n < 128 ∧ v = nI n) : fits .byte (.int v) = true := by
  obtain ⟨n, hn, rfl⟩ := h
  have : ∀ n : Nat, n < 128 → fits .byte (.int (nI n)) = true := by decide +kernel
  exact this n hn
/-- bytes of one row go to the beginning of another -/
theorem r_copyb {ix i1 : Nat} {o0 o1 : Ob} {a0 a1 n0 n1 cnt : Nat} {f g : Nat → Int32} (h0 : M o0 = some (a0, .inl (G.2.2.1 3, n0, .inl f))) (h1 : M o1 = some (a1, .inl (G.2.2.1 3, n1, .inl g))) (hl0 : lw_tbl[i1]? = some (.methodLink X.1 ix arraycopyName)) (hc0 : cnt ≤ n0) (hc1 : cnt ≤ n1) (hcnt : cnt < 2 ^ 31) (hfit : ∀ j, ∃ n : Nat, n < 128 ∧ f j = nI n) (hst : (st.map fun v => v.category).sum ≤ 8) (dg : decode X.2.1 pc = .ok (.invokestatic ix, 3)) (hq : pc + 3 = q)
    (k1 : AW G X (d + 1) k n q lv st (fun x => if x = o1 then some (a1, .inl (G.2.2.1 3, n1, .inl (va_cpy f g 0 0 cnt))) else M x)) : AW G X (d + 1) k n pc lv (.int (nI cnt) :: .int (nI 0) :: .ref a1 :: .int (nI 0) :: .ref a0 :: st) M := by
  intro p e R s m args below meth c H locs cells slots ls cx hl hm hS hk hn
  subst hq
  have hF := cx.2.2.2.2.2.2.2.2.2.2.2.1
  have hL := cx.2.2.2.2.2.2.2.2.2.2.2.2.1
  have g0 : H[a0]? = some (vp_cell (G.2.2.1 3) (n0, .inl f)) := hm.at1 h0 0 _ rfl
  have g1 : H[a1]? = some (vp_cell (G.2.2.1 3) (n1, .inl g)) := hm.at1 h1 0 _ rfl
  obtain ⟨-, kA, hkA, cmA, hkkA⟩ := (hm.1.2 3 _ rfl).1 n0 (fun j => .int (f j))
  obtain ⟨-, kB, hkB, cmB, hkkB⟩ := (hm.1.2 3 _ rfl).1 n1 (fun j => .int (g j))
  have hnw : nativeFrameWords "java/lang/System" "arraycopy" 5 ≤ 7 := by decide
  have z0 : (nI 0).toInt = ((0 : Nat) : Int) := nI_toInt (by decide)
  have zc : (nI cnt).toInt = (cnt : Int) := nI_toInt hcnt
  have y0 : (nI 0).toNatClampNeg = 0 := nI_clamp (by decide)
  have yc : (nI cnt).toNatClampNeg = cnt := nI_clamp hcnt
  intro T hT X1
  obtain ⟨vm', X2, step⟩ := X1.arraycopy cx.1 cx.own (cx.ts hl0 rfl) (cx.ts ac_nat rfl) (cx.ts ac_sta rfl) (cx.ts ac_ini rfl) (src := a0) (dst := a1) (cs := vp_cell (G.2.2.1 3) (n0, .inl f)) (cd := vp_cell (G.2.2.1 3) (n1, .inl g)) (srcPos := nI 0) (destPos := nI 0) (n := nI cnt) (by rw [hT]; exact g0) (by rw [hT]; exact g1)
    (fun _ h => by cases h) (fun _ h => by cases h) (fun h => by cases h) (fun h => by cases h) hkA hkB hkkA hkkB rfl (nI_pos (by decide)) (nI_pos (by decide)) (nI_pos hcnt)
    (by rw [z0, zc]; show ¬ _ > ((arrV _ n0 (fun j => .int (f j))).slots.size : Int); rw [arrV_size]; omega)
    (by rw [z0, zc]; show ¬ _ > ((arrV _ n1 (fun j => .int (g j))).slots.size : Int); rw [arrV_size]; omega)
    (fun vm₁ _ i hi => by
      rw [yc] at hi
      have e9 : (vp_cell (G.2.2.1 3) (n0, .inl f)).slots.getD ((nI 0).toNatClampNeg + i) .null = .int (f ((nI 0).toNatClampNeg + i)) := by
        show (arrV _ n0 (fun j => .int (f j))).slots.getD _ _ = _
        rw [Array.getD_eq_getD_getElem?, arrV_read _ _ (by rw [y0]; omega)]
        rfl
      refine ⟨?_, ?_⟩
      · rw [e9]; exact byte_fits (hfit _)
      · rw [e9]; exact trivial)
    (g := F0 m pc ls (.int (nI cnt) :: .int (nI 0) :: .ref a1 :: .int (nI 0) :: .ref a0 :: st)) rfl (hl.1.trans cx.2.2.1.symm) (rest := st) rfl (by rw [cx.2.1]; exact dg) (by omega) (by show 2 * 0 + _ + (nativeFrameWords _ _ 5 + 11) ≤ _; omega)
  have e1 : copied (vp_cell (G.2.2.1 3) (n0, .inl f)) (vp_cell (G.2.2.1 3) (n1, .inl g)) (nI 0) (nI 0) (nI cnt) = vp_cell (G.2.2.1 3) (n1, .inl (va_cpy f g 0 0 cnt)) := by
    have e2 := va_copied (fun z : Int32 => Value.int z) (G.2.2.1 3) (G.2.2.1 3) (n0 := n0) (n1 := n1) (sp := (nI 0).toNatClampNeg) (dp := (nI 0).toNatClampNeg) (n := (nI cnt).toNatClampNeg) f g (by rw [y0, yc]; omega)
    rw [y0, yc] at e2
    have e3 : copied (vp_cell (G.2.2.1 3) (n0, .inl f)) (vp_cell (G.2.2.1 3) (n1, .inl g)) (nI 0) (nI 0) (nI cnt) = (arrV (G.2.2.1 3) n1 (fun j => Value.int (g j))).storeRun (nI 0).toNatClampNeg ((arrV (G.2.2.1 3) n0 (fun j => Value.int (f j))).stretch (nI 0).toNatClampNeg (nI cnt).toNatClampNeg) := rfl
    rw [e3, y0, yc]
    exact e2
  rw [e1] at X2 step
  have hla : a1 < H.size := (Array.getElem?_eq_some_iff.mp g1).1
  have oq : ∀ x : Nat, x ≠ a1 → (H.setIfInBounds a1 (vp_cell (G.2.2.1 3) (n1, .inl (va_cpy f g 0 0 cnt))))[x]? = H[x]? := fun x hx => by simp [Array.getElem?_setIfInBounds, Ne.symm hx]
  have hA1 : wA G a1 := (hm.2.1 _ _ _ h1).2
  have hheap : ((T.setVm vm').setCell a1 (vp_cell (G.2.2.1 3) (n1, .inl (va_cpy f g 0 0 cnt)))).heap = H.setIfInBounds a1 (vp_cell (G.2.2.1 3) (n1, .inl (va_cpy f g 0 0 cnt))) := by rw [← hT]; rfl
  have hm2 : wMem G (fun x => if x = o1 then some (a1, .inl (G.2.2.1 3, n1, .inl (va_cpy f g 0 0 cnt))) else M x) s (H.setIfInBounds a1 (vp_cell (G.2.2.1 3) (n1, .inl (va_cpy f g 0 0 cnt)))) :=
    hm.put h1 (show (H.setIfInBounds a1 _)[a1]? = some (vp_cell _ _) by simp [Array.getElem?_setIfInBounds, hla]) oq
  obtain ⟨t, u1, u2⟩ := k1 p e R s m args below meth c _ _ cells slots ls cx hl hm2 ⟨by simp; exact hS.1, fun x w1 w2 => by
      rw [oq x (fun e9 => w2 (by rw [e9]; exact hA1))]
      exact hS.2.1 x w1 w2, fun x hx => by
      rcases List.mem_append.mp hx with h | h
      · exact hS.2.2 x h
      · obtain ⟨z, -, hz⟩ := List.mem_map.mp h
        rw [← hz]
        exact hA1⟩ hk hn _ hheap X2
  exact ⟨t, step t u1, u2⟩
end W39
