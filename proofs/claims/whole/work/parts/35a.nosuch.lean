/-! A THROW of an exception whose constructor has another entry; follows vx_ctorMadeS, vx_makeS of part 02, by program -/
section W35A
def exN (own : String) (ic : Nat) (X Y : String) (ei : Nat) (bytes : ByteArray) (r : List String) : List Cond :=
  (Bundle.throwableAtoms ++ Bundle.throwableSAtoms) ++ (Bundle.passSAtoms X Y ei bytes ++ Bundle.chainSAtoms Y r) ++ (Bundle.ownAtoms own ic X []).drop (Bundle.throwableAtoms ++ Bundle.throwableSAtoms ++ Bundle.chainSAtoms X []).length
theorem exN_rest {own : String} {ic : Nat} {X Y : String} {ei : Nat} {bytes : ByteArray} {r : List String} {w : Cond} (h : w ∈ Bundle.ownAtoms own ic X []) (h1 : ¬ w ∈ Bundle.throwableAtoms ++ Bundle.throwableSAtoms ++ Bundle.chainSAtoms X []) : w ∈ exN own ic X Y ei bytes r := by
  have e : Bundle.ownAtoms own ic X [] = (Bundle.throwableAtoms ++ Bundle.throwableSAtoms ++ Bundle.chainSAtoms X []) ++ (Bundle.ownAtoms own ic X []).drop (Bundle.throwableAtoms ++ Bundle.throwableSAtoms ++ Bundle.chainSAtoms X []).length := by
    unfold Bundle.ownAtoms
    rw [List.drop_left]
  rw [e] at h
  exact List.mem_append_right _ ((List.mem_append.mp h).resolve_left h1)
theorem exN_any {own : String} {ic : Nat} {X Y : String} {ei : Nat} {bytes : ByteArray} {r : List String} {w : Cond} (h : w ∈ Bundle.ownAtoms own ic X []) (h1 : ¬ w ∈ Bundle.chainSAtoms X []) : w ∈ exN own ic X Y ei bytes r := by
  by_cases h2 : w ∈ Bundle.throwableAtoms ++ Bundle.throwableSAtoms
  · exact List.mem_append_left _ (List.mem_append_left _ h2)
  · exact exN_rest h (fun h3 => (List.mem_append.mp h3).elim h2 h1)
theorem exN_ml {own : String} {ic : Nat} {X Y : String} {ei : Nat} {bytes : ByteArray} {r : List String} : Cond.methodLink own ic (Bundle.initS X) ∈ exN own ic X Y ei bytes r := List.mem_append_right _ (by unfold Bundle.ownAtoms; rw [List.drop_left]; simp)
theorem chainN {args : Array Value} {s : State} {pl : Platform} (hpl : pl.magicAccessors = ({} : Platform).magicAccessors) {top : MethodId} (htop : s.methodNamed? (Bundle.initS Bundle.tN) = some top) {X Y : String} {r : List String} {ei : Nat} {bytes : ByteArray} (hX : Bundle.fit X = true) (hn : ∀ n ∈ Y :: r, Bundle.fit n = true)
    (b0 : decode bytes 0 = .ok (.aload_n 0, 1)) (b1 : decode bytes 1 = .ok (.aload_n 1, 1)) (b2 : decode bytes 2 = .ok (.invokespecial ei, 3)) (b5 : decode bytes 5 = .ok (.return_, 1)) (h : ∀ c ∈ Bundle.passSAtoms X Y ei bytes ++ Bundle.chainSAtoms Y r, c.before args s = true) :
    ∃ (P1 : PassC) (Ps : List PassC), Ps.length = (Y :: r).length ∧ P1.LinksS pl s ∧ (∀ P, P ∈ Ps → P.LinksS pl s) ∧ s.methodNamed? (Bundle.initS X) = some P1.m ∧
      P1.sup = firstOf top (Ps.map (·.toPassT)) ∧ PassesOn top (Ps.map (·.toPassT)) := by
  obtain ⟨P, L, hm, hs⟩ := PassC.ofS_atoms (args := args) (s := s) hpl (X := X) (Y := Y) (Bundle.fit_spec hX).1 (Bundle.fit_spec (hn Y List.mem_cons_self)).2 b0 b1 b2 b5 (fun c hc => h c (List.mem_append_left _ hc))
  obtain ⟨P', Ps, hlen, L', hL, hm', hsup, hpass⟩ := Bundle.chainS (args := args) hpl htop r Y (hn Y List.mem_cons_self) (fun n h9 => hn n (List.mem_cons_of_mem _ h9)) (fun c hc => h c (List.mem_append_right _ hc))
  refine ⟨P, P' :: Ps, by simp [hlen], L, ?_, hm, Option.some.inj (hs.symm.trans hm'), hsup, hpass⟩
  intro Q hQ
  rcases List.mem_cons.mp hQ with rfl | hQ
  · exact L'
  · exact hL Q hQ
variable {p : Program} {l : Launch} {e : Env} {R : Room} {s : State} {m₀ : MethodId} {args : Array Value} {below : List Frame} {meth : Method} {c : Code} {W : State} {locs : List Loc} {cells slots : Nat}
set_option maxHeartbeats 1000000 in
theorem vx_ctorMadeN (X : Stand p l e R s m₀ args below meth c W locs cells slots) (hexec : p.tables.exec = Jvm.exec) (htr : e.platform.stackTraces = false) {own cls : String} {Y0 : String} {names r0 : List String} {ic ei : Nat} {by0 : ByteArray} (hN0 : names = Y0 :: r0) (hb0 : decode by0 0 = .ok (.aload_n 0, 1)) (hb1 : decode by0 1 = .ok (.aload_n 1, 1)) (hb2 : decode by0 2 = .ok (.invokespecial ei, 3)) (hb5 : decode by0 5 = .ok (.return_, 1))
    (hown : s.vm.findClass own = some m₀.cls) (hcls : Bundle.fit cls = true) (hnames : ∀ n ∈ names, Bundle.fit n = true)
    (h : ∀ a ∈ exN own ic cls Y0 ei by0 r0, a.before args s = true)
    (hlocs : ∀ x ∈ locs, ∀ cell, s.heap[x.base]? = some cell → cell.vm.isStatics = false)
    {a : Addr} {cX : ClassId} {kX : Class} (hfoundX : s.vm.findClass cls = some cX) (hkX : s.vm.classes[cX]? = some kX) (hcell : W.heap[a]? = some (freshCell cX kX)) (hnew : s.heap.size ≤ a)
    {msg : Value} (hmsg : msg.isRef = true)
    {g : JFrame} (hg : g.method = m₀) (hsize : g.locals.size = c.maxLocals) {rest : List Value} (hstack : g.stack = msg :: .ref a :: .ref a :: rest)
    (hd6 : decode c.code g.pc = .ok (.invokespecial ic, 3))
    (hRframes : names.length + 3 < R.frames) (hRlocals : 2 * g.monitorRoom + ((Value.ref a :: rest).map fun v => v.category).sum + (13 * (names.length + 1) + 42) ≤ R.locals) :
    ∃ (V : State) (ce : Cell) (L : List Loc), Stand p l e R s m₀ args below meth c (V.setCell a ce) (locs ++ L) cells slots ∧ (∀ y ∈ L, y.base = a) ∧ a < V.heap.size ∧ ce.cls = cX ∧ ce.vm = .none ∧
      ∀ target, Steps p.tables e below ((V.setCell a ce).setTop { g with stack := .ref a :: rest, pc := g.pc + 3 }) target → Steps p.tables e below (W.setTop g) target := by
  subst hN0
  have hthr : ∀ x ∈ Bundle.throwableAtoms ++ Bundle.throwableSAtoms, x ∈ exN own ic cls Y0 ei by0 r0 := fun x hx => List.mem_append_left _ (List.mem_append_left _ hx)
  have howns : e.platform.frameOwnsMonitors = true := by rw [X.admits.platform]
  have hfin : e.platform.finalization = false := by rw [X.admits.platform]
  have hpl : e.platform.magicAccessors = ({} : Platform).magicAccessors := by rw [X.admits.platform]
  have a' : ∀ x, x ∈ exN own ic cls Y0 ei by0 r0 → x.holds args s none s [] = true := fun x hx => h x hx
  obtain ⟨T, Z0, L, -, Y⟩ := ThrowableC.of_atoms (args := args) howns hfin hpl (fun x hx => h x (hthr x (by simp [hx])))
  obtain ⟨Z, M, LZ, LM, hnZ⟩ := Init0T.ofS_atoms (args := args) hpl L Y (fun x hx => h x (hthr x (by simp [hx])))
  obtain ⟨P1, Ps, hlen, L1, hL, hP1m, hlink1, hlink⟩ := chainN (args := args) hpl hnZ hcls hnames hb0 hb1 hb2 hb5 (fun x hx => h x (List.mem_append_left _ (List.mem_append_right _ hx)))
  have hfound : s.vm.findClass cls = some P1.m.cls := findClass_of_methodNamed hP1m
  cases Option.some.inj (hfoundX.symm.trans hfound)
  obtain ⟨c1, kX', hc1, hk, hord, -, -, hn6⟩ := Cond.instantiable_spec (a' (.instantiable cls 6) (exN_any (by simp [Bundle.ownAtoms]) (by simp [Bundle.chainSAtoms, Bundle.passSAtoms])))
  cases Option.some.inj (hc1.symm.trans hfound)
  cases Option.some.inj (hkX.symm.trans hk)
  have hsel0 : selectMethod e.platform s.vm P1.m.cls T.fill0 = .method T.fill0 := by
    obtain ⟨c2, r2, m2, q1, q2, q3, q4, -⟩ := Cond.selects_spec (a' (.selects cls Bundle.tFill0 Bundle.tFill0) (exN_any (by simp [Bundle.ownAtoms]) (by simp [Bundle.chainSAtoms, Bundle.passSAtoms])))
    cases Option.some.inj (q1.symm.trans hfound)
    cases Option.some.inj (q2.symm.trans (State.methodFound?_of_named Y.fill0 (by decide)))
    cases Option.some.inj (q3.symm.trans Y.fill0)
    rw [Launch.admits_selectMethod X.admits]; exact q4
  have hselF : selectMethod e.platform s.vm P1.m.cls T.fill = .method T.fill := by
    obtain ⟨c2, r2, m2, q1, q2, q3, q4, -⟩ := Cond.selects_spec (a' (.selects cls Bundle.tFill Bundle.tFill) (exN_any (by simp [Bundle.ownAtoms]) (by simp [Bundle.chainSAtoms, Bundle.passSAtoms])))
    cases Option.some.inj (q1.symm.trans hfound)
    cases Option.some.inj (q2.symm.trans (State.methodFound?_of_named Y.fill (by decide)))
    cases Option.some.inj (q3.symm.trans Y.fill)
    rw [Launch.admits_selectMethod X.admits]; exact q4
  obtain ⟨cellS0, hcS0, hiss⟩ := Y.statics
  obtain ⟨u0, hu0⟩ := Cond.staticRefV Y.unassigned L.unassignedStatic L.statics hcS0 hiss (a' (.isRef (.static Bundle.tN "UNASSIGNED_STACK" Bundle.steD)) (exN_any (by simp [Bundle.ownAtoms]) (by simp [Bundle.chainSAtoms, Bundle.passSAtoms])))
  obtain ⟨sen, hsen⟩ := Cond.staticRefV Y.sentinel L.sentinelStatic L.statics hcS0 hiss (a' (.isRef (.static Bundle.tN "SUPPRESSED_SENTINEL" Bundle.listD)) (exN_any (by simp [Bundle.ownAtoms]) (by simp [Bundle.chainSAtoms, Bundle.passSAtoms])))
  obtain ⟨ci198, i198, fB, hk198, hg198, ha198, hsB, -, hnB, htB, hffB⟩ := Cond.ownField (t := .object "java/lang/Object") Y.found L.cls (by decide +kernel) (a' (.fieldLink Bundle.tN 198 Bundle.tN "backtrace" "Ljava/lang/Object;") (exN_any (by simp [Bundle.ownAtoms]) (by simp [Bundle.chainSAtoms, Bundle.passSAtoms]))) (a' (.lays Bundle.tN Bundle.tN "backtrace" "Ljava/lang/Object;") (exN_any (by simp [Bundle.ownAtoms]) (by simp [Bundle.chainSAtoms, Bundle.passSAtoms]))) e.platform hpl
  obtain ⟨cellS, hcS', heS, -, hkeep⟩ := X.same.2.2.2.2.2 T.aS cellS0 hcS0
  have hcellS : W.heap[T.aS]? = some cellS := hcS'
  have hout' : ∀ i, (⟨T.aS, i⟩ : Loc) ∉ locs := fun i hmem => by
    have := hlocs _ hmem cellS0 hcS0
    rw [hiss] at this; cases this
  have hknownS : cellS.vm ≠ .unknown := by
    rw [heS]; intro hu
    rw [show cellS0.vm = .unknown from hu] at hiss
    cases hiss
  have hneS : T.aS ≠ a := Nat.ne_of_lt (Nat.lt_of_lt_of_le (Array.getElem?_eq_some_iff.mp hcS0).1 hnew)
  obtain ⟨iM, hffM⟩ := Y.msg
  obtain ⟨tyC, dC, hdC, hdnC⟩ := Cond.laysAt hfound hk Y.cause (a' (.lays cls Bundle.tN "cause" "Ljava/lang/Throwable;") (exN_any (by simp [Bundle.ownAtoms]) (by simp [Bundle.chainSAtoms, Bundle.passSAtoms])))
  obtain ⟨tyS, dS, hdS, hdnS⟩ := Cond.laysAt hfound hk Y.stack (a' (.lays cls Bundle.tN "stackTrace" Bundle.steD) (exN_any (by simp [Bundle.ownAtoms]) (by simp [Bundle.chainSAtoms, Bundle.passSAtoms])))
  obtain ⟨tyP, dP, hdP, hdnP⟩ := Cond.laysAt hfound hk Y.supp (a' (.lays cls Bundle.tN "suppressedExceptions" Bundle.listD) (exN_any (by simp [Bundle.ownAtoms]) (by simp [Bundle.chainSAtoms, Bundle.passSAtoms])))
  obtain ⟨tyM, dM, hdM, hdnM⟩ := Cond.laysAt hfound hk hffM (a' (.lays cls Bundle.tN "detailMessage" "Ljava/lang/String;") (exN_any (by simp [Bundle.ownAtoms]) (by simp [Bundle.chainSAtoms, Bundle.passSAtoms])))
  obtain ⟨tyB, dB, hdB, hdnB⟩ := Cond.laysAt hfound hk hffB (a' (.lays cls Bundle.tN "backtrace" "Ljava/lang/Object;") (exN_any (by simp [Bundle.ownAtoms]) (by simp [Bundle.chainSAtoms, Bundle.passSAtoms])))
  have bC := Cond.laysApart hdB hdC hdnB hdnC (by rw [hnB, Y.causeName]; decide)
  have bS := Cond.laysApart hdB hdS hdnB hdnS (by rw [hnB, Y.stackName]; decide)
  have bP := Cond.laysApart hdB hdP hdnB hdnP (by rw [hnB, Y.suppName]; decide)
  have hskip : SkipFacts T e.platform s (fun u => u) u0 ((preparedCellV T.toThrowableT (freshCell P1.m.cls kX) a u0 sen).withEntry W.cur) :=
    ⟨{ ci198 := ci198, i198 := i198, fBack := fB }, ⟨hk198, hg198, ha198, hsB⟩, by
      have := fresh_default (c := P1.m.cls) tyB
      rw [htB] at this
      simpa [preparedCellV, Cell.setSlot, Cell.withEntry, Array.getElem?_setIfInBounds, bC, bS, bP, bC.symm, bS.symm, bP.symm, defaultValue] using this, fun _ _ => rfl⟩
  obtain ⟨tm, methC, cdC, kC, vm₁, hnC, -, -, -, -, -, -, -, hW₁, st1⟩ := Steps.initColdS (tb := p.tables) (e := e) (below := below) (s := s) (U := W) X.here hexec X.warmed hpl hown (t := Bundle.initS cls) rfl rfl (Bundle.fit_spec hcls).2
    (a' (.methodLink own ic (Bundle.initS cls)) exN_ml) (h (.instanceMethod (Bundle.initS cls)) (List.mem_append_left _ (List.mem_append_right _ (List.mem_append_left _ (by simp [Bundle.passSAtoms]))))) (bytes := by0) (maxL := 2) (h (.code (Bundle.initS cls) by0 2 none) (List.mem_append_left _ (List.mem_append_right _ (List.mem_append_left _ (by simp [Bundle.passSAtoms])))))
    (f := g) hg (a := a) (msg := msg) (rest := .ref a :: rest) hstack hd6
  cases Option.some.inj (hnC.symm.trans hP1m)
  have X₁ := X.noted hW₁
  obtain ⟨vm₂, X₂, st2⟩ := X₁.ctorMessageOffV hexec (g := { g with stack := .ref a :: rest }) hg hsize T L Z LZ M LM (P1 :: Ps)
    (fun P hP => by rcases List.mem_cons.mp hP with rfl | hP; exact L1; exact hL P hP) ⟨hlink1, hlink⟩ (u0 := u0) (sen := sen) (self := a) hmsg (cell := freshCell P1.m.cls kX) (cellS := cellS)
    hcell (fun _ => by simp) (by simp) rfl rfl hsel0 hselF hcellS hneS hknownS (by rw [hkeep _ (hout' _)]; exact hu0) (by rw [hkeep _ (hout' _)]; exact hsen)
    (Takes.of_laid hk hord tyC (by rw [Y.causeType]; rfl)) (Takes.of_laid hk hord tyS (by rw [Y.stackType]; exact fits_refV_array _ u0)) (Takes.of_laid hk hord tyP (by rw [Y.suppType]; exact fits_refV_object _ sen))
    (Takes.of_laid hk hord tyM (by rw [Y.msgType]; exact fits_refV_object _ ⟨msg, hmsg⟩)) Y.objLocals hskip htr [] hd6
    (by simp only [List.length_cons, hlen]; omega) (by simp only [List.length_cons, hlen]; exact hRlocals)
  have hlt : a < ((W.setVm vm₁).setVm vm₂).heap.size := (Array.getElem?_eq_some_iff.mp hcell).1
  refine ⟨(W.setVm vm₁).setVm vm₂, _, _, X₂, fun y hy => ?_, hlt, rfl, rfl, fun target hwalk => st1 _ (fun acts => ?_)⟩
  · simp only [List.mem_cons, List.not_mem_nil, or_false] at hy
    rcases hy with rfl | rfl | rfl | rfl | rfl <;> rfl
  · rw [doInvoke_state]
    exact st2 _ hwalk
end W35A
section W35A2
variable {p : Program} {l : Launch} {e : Env} {R : Room} {s : State} {m : MethodId} {args : Array Value} {below : List Frame} {meth : Method} {c : Code} {H : Heap} {locs : List Loc} {cells slots : Nat} {ls : Array Slot} {rest : List Value} {Q : State → Prop}
theorem vx_makeN {cc : ByteArray} {pc : Nat} (hexec : p.tables.exec = Jvm.exec) (hb : c.code = cc) (hl : l.stackTraces = false) {own cls text : String} {Y0 : String} {names r0 : List String} {ik is ic sa ei : Nat} {by0 : ByteArray} {A : Nat → Prop} (hN0 : names = Y0 :: r0) (hb0 : decode by0 0 = .ok (.aload_n 0, 1)) (hb1 : decode by0 1 = .ok (.aload_n 1, 1)) (hb2 : decode by0 2 = .ok (.invokespecial ei, 3)) (hb5 : decode by0 5 = .ok (.return_, 1))
    (hown : s.vm.findClass own = some m.cls) (hcls : Bundle.fit cls = true) (hnames : ∀ n ∈ names, Bundle.fit n = true)
    (hk : (Cond.classLink own ik cls).before args s = true) (hini : (Cond.initialized cls).before args s = true) (hstr : vk_R own is text sa s) (hat : ∀ w ∈ (exN own ic cls Y0 ei by0 r0).filter vx_no, w.before args s = true)
    (hgood : ∀ w ∈ Cond.classLink own ik cls :: Cond.initialized cls :: (exN own ic cls Y0 ei by0 r0).filter vx_no, vx_ot w = true)
    (hU : vx_Zq Bundle.tN "UNASSIGNED_STACK" Bundle.steD A s s.heap) (hN : vx_Zq Bundle.tN "SUPPRESSED_SENTINEL" Bundle.listD A s s.heap) (hS : va_S A s.heap H locs) (hsize : ls.size = c.maxLocals)
    (d0 : decode cc pc = .ok (.new ik, 3)) (d3 : decode cc (pc + 3) = .ok (.dup, 1)) (d4 : decode cc (pc + 4) = .ok (.ldc is, 2)) (d6 : decode cc (pc + 6) = .ok (.invokespecial ic, 3))
    (hRframes : names.length + 3 < R.frames) (hRlocals : (rest.map fun v => v.category).sum + (13 * (names.length + 1) + 43) ≤ R.locals) (hRcells : cells + 1 ≤ R.cells) (hRslots : slots + 6 ≤ R.slots)
    (kk : ∀ (q : Nat) (H1 : Heap) (ce : Cell), H.size ≤ H1.size → (∀ x : Nat, x < H.size → H1[x]? = H[x]?) → H1[q]? = some ce → ce.vm = .none → s.vm.findClass cls = some ce.cls → W p l e R s m args below meth c H1 locs (cells + 1) (slots + 6) Q (F0 m (pc + 9) ls (.ref q :: rest))) :
    W p l e R s m args below meth c H locs cells slots Q (F0 m pc ls rest) := by
  intro T hT X
  subst hT
  have htr : e.platform.stackTraces = false := (show e.platform.stackTraces = l.stackTraces by rw [X.admits.platform]).trans hl
  have Y := vx_rebase X (R' := { frames := R.frames, locals := R.locals, cells := 1, slots := 6 }) (Nat.le_refl _) (Nat.le_refl _) hRcells hRslots
  obtain ⟨s', hA'⟩ : ∃ z, z = (T.setVm s.vm).setFrames (.invoking m args :: below) := ⟨_, rfl⟩
  rw [← hA'] at Y
  have hvm : s'.vm = s.vm := by rw [hA']; rfl
  have hhp : s'.heap = T.heap := by rw [hA']; rfl
  have hW0 : s.WarmedH s'.vm := by rw [hvm]; exact State.WarmedH.refl s
  have hat' : ∀ w ∈ (exN own ic cls Y0 ei by0 r0).filter vx_no, w.before args s' = true := fun w hw => vx_ot_at hW0 hvm.symm (hgood w (List.mem_cons_of_mem _ (List.mem_cons_of_mem _ hw))) (hat w hw)
  have hk' : (Cond.classLink own ik cls).before args s' = true := vx_ot_at hW0 hvm.symm (hgood _ List.mem_cons_self) hk
  have hini' : (Cond.initialized cls).before args s' = true := vx_ot_at hW0 hvm.symm (hgood _ (List.mem_cons_of_mem _ List.mem_cons_self)) hini
  have hU' : vx_Zq Bundle.tN "UNASSIGNED_STACK" Bundle.steD A s' s'.heap := by rw [hhp]; exact vx_Zq.moved hW0.alike (hU.kept hS.2.1)
  have hN' : vx_Zq Bundle.tN "SUPPRESSED_SENTINEL" Bundle.listD A s' s'.heap := by rw [hhp]; exact vx_Zq.moved hW0.alike (hN.kept hS.2.1)
  have h : ∀ w ∈ exN own ic cls Y0 ei by0 r0, w.before args s' = true := vx_own hat' (vx_isRefq hU'.1) (vx_isRefq hN'.1) hU'.2.word hN'.2.word
  have hown' : s'.vm.findClass own = some m.cls := by rw [hvm]; exact hown
  have hins : (Cond.instantiable cls 6).before args s' = true := h _ (exN_any (by simp [Bundle.ownAtoms]) (by simp [Bundle.chainSAtoms, Bundle.passSAtoms]))
  obtain ⟨vm₁, cX, kX, hfX, hkX, -, -, X₁, st1⟩ := Y.newCold hexec (own := own) (C := cls) (index := ik) (n := 6) hown' hk' hins hini'
    (g := F0 m pc ls rest) rfl (by rw [hb]; exact d0) (Nat.le_refl _) (Nat.le_refl _)
  generalize hT1 : (T.setVm vm₁).pushCell { cls := cX, slots := kX.instanceTypes.map defaultValue, vm := .none } = T1 at X₁ st1
  have hcat : (Value.ref T.heap.size).category = 1 := rfl
  have hcellA : T1.heap[T.heap.size]? = some (freshCell cX kX) := by rw [← hT1]; exact State.heap_pushCell_size _ _
  have d3' : decode c.code (pc + 3) = .ok (.dup, 1) := by rw [hb]; exact d3
  have d4' : decode c.code (pc + 4) = .ok (.ldc is, 2) := by rw [hb]; exact d4
  have hstr' : vk_R own is text sa s' := vk_R.warm hW0 hstr
  obtain ⟨V, ce, L, Z, hL, hlt, hcl9, hvm9, st⟩ := vx_ctorMadeN X₁ hexec htr (own := own) (cls := cls) (names := names) (ic := ic) hN0 hb0 hb1 hb2 hb5 hown' hcls hnames h (fun x hx => nomatch hx) hfX hkX hcellA (by rw [hhp]; exact Nat.le_refl _) (msg := .ref sa) rfl
    (g := { method := m, pc := pc + 6, locals := ls, stack := .ref sa :: .ref T.heap.size :: .ref T.heap.size :: rest, locked := none }) rfl hsize (rest := rest) rfl
    (by rw [hb]; exact d6) hRframes (by simp only [List.map_cons, List.sum_cons, hcat]; omega)
  have Z0 := Stand.forget (locs := []) Z (fun y hy => by rw [hL y hy, hhp]; exact Nat.le_refl _)
  obtain ⟨f1, f2⟩ := vx_frame Z0.same
  rw [hhp] at f1 f2
  have hh : (V.setCell T.heap.size ce).heap[T.heap.size]? = some ce := heapAt_setCell_self (s := V) ce hlt
  subst hA'
  have X5 := vx_back9 X Y Z0
  have X6 : Stand p l e R s m args below meth c (V.setCell T.heap.size ce) locs (cells + 1) (slots + 6) := { X5 with same := X5.same.mono (by omega) (by omega) }
  obtain ⟨t, a1, b1⟩ := kk T.heap.size (V.setCell T.heap.size ce).heap ce f1 (fun x hx => f2 x hx (fun z hz => nomatch hz)) hh hvm9 (by rw [hcl9]; rw [hvm] at hfX; exact hfX) _ rfl X6
  refine ⟨t, st1 _ ?_, b1⟩
  show Steps p.tables e below (T1.setTop { method := m, pc := pc + 3, locals := ls, stack := .ref T.heap.size :: rest, locked := none }) _
  jvm_step X₁.here [X₁.here.top, hexec, d3', Value.category]
  exact X₁.ldcString hexec (own := own) (text := text) (index := is) (a := sa) hown' hstr'.1 hstr'.2
    (g := { method := m, pc := pc + 4, locals := ls, stack := .ref T.heap.size :: .ref T.heap.size :: rest, locked := none }) rfl d4' _ (st _ a1)
theorem vx_makeNW {cc : ByteArray} {pc : Nat} (hexec : p.tables.exec = Jvm.exec) (hb : c.code = cc) (hl : l.stackTraces = false) {own cls text : String} {Y0 : String} {names r0 : List String} {ik is ic sa ei : Nat} {by0 : ByteArray} {A : Nat → Prop} (hN0 : names = Y0 :: r0) (hb0 : decode by0 0 = .ok (.aload_n 0, 1)) (hb1 : decode by0 1 = .ok (.aload_n 1, 1)) (hb2 : decode by0 2 = .ok (.invokespecial ei, 3)) (hb5 : decode by0 5 = .ok (.return_, 1))
    (hown : s.vm.findClass own = some m.cls) (hcls : Bundle.fit cls = true) (hnames : ∀ n ∈ names, Bundle.fit n = true)
    (hk : (Cond.classLink own ik cls).before args s = true) (hini : (Cond.initialized cls).before args s = true) (hstr : vk_R own is text sa s) (hat : ∀ w ∈ (exN own ic cls Y0 ei by0 r0).filter vx_no, w.before args s = true)
    (hgood : ∀ w ∈ Cond.classLink own ik cls :: Cond.initialized cls :: (exN own ic cls Y0 ei by0 r0).filter vx_no, vx_ot w = true)
    (hU : vx_Zq Bundle.tN "UNASSIGNED_STACK" Bundle.steD A s s.heap) (hN : vx_Zq Bundle.tN "SUPPRESSED_SENTINEL" Bundle.listD A s s.heap) (hS : va_S A s.heap H locs) (hsize : ls.size = c.maxLocals)
    (d0 : decode cc pc = .ok (.new ik, 3)) (d3 : decode cc (pc + 3) = .ok (.dup, 1)) (d4 : decode cc (pc + 4) = .ok (.ldc_w is, 3)) (d6 : decode cc (pc + 7) = .ok (.invokespecial ic, 3))
    (hRframes : names.length + 3 < R.frames) (hRlocals : (rest.map fun v => v.category).sum + (13 * (names.length + 1) + 43) ≤ R.locals) (hRcells : cells + 1 ≤ R.cells) (hRslots : slots + 6 ≤ R.slots)
    (kk : ∀ (q : Nat) (H1 : Heap) (ce : Cell), H.size ≤ H1.size → (∀ x : Nat, x < H.size → H1[x]? = H[x]?) → H1[q]? = some ce → ce.vm = .none → s.vm.findClass cls = some ce.cls → W p l e R s m args below meth c H1 locs (cells + 1) (slots + 6) Q (F0 m (pc + 10) ls (.ref q :: rest))) :
    W p l e R s m args below meth c H locs cells slots Q (F0 m pc ls rest) := by
  intro T hT X
  subst hT
  have htr : e.platform.stackTraces = false := (show e.platform.stackTraces = l.stackTraces by rw [X.admits.platform]).trans hl
  have Y := vx_rebase X (R' := { frames := R.frames, locals := R.locals, cells := 1, slots := 6 }) (Nat.le_refl _) (Nat.le_refl _) hRcells hRslots
  obtain ⟨s', hA'⟩ : ∃ z, z = (T.setVm s.vm).setFrames (.invoking m args :: below) := ⟨_, rfl⟩
  rw [← hA'] at Y
  have hvm : s'.vm = s.vm := by rw [hA']; rfl
  have hhp : s'.heap = T.heap := by rw [hA']; rfl
  have hW0 : s.WarmedH s'.vm := by rw [hvm]; exact State.WarmedH.refl s
  have hat' : ∀ w ∈ (exN own ic cls Y0 ei by0 r0).filter vx_no, w.before args s' = true := fun w hw => vx_ot_at hW0 hvm.symm (hgood w (List.mem_cons_of_mem _ (List.mem_cons_of_mem _ hw))) (hat w hw)
  have hk' : (Cond.classLink own ik cls).before args s' = true := vx_ot_at hW0 hvm.symm (hgood _ List.mem_cons_self) hk
  have hini' : (Cond.initialized cls).before args s' = true := vx_ot_at hW0 hvm.symm (hgood _ (List.mem_cons_of_mem _ List.mem_cons_self)) hini
  have hU' : vx_Zq Bundle.tN "UNASSIGNED_STACK" Bundle.steD A s' s'.heap := by rw [hhp]; exact vx_Zq.moved hW0.alike (hU.kept hS.2.1)
  have hN' : vx_Zq Bundle.tN "SUPPRESSED_SENTINEL" Bundle.listD A s' s'.heap := by rw [hhp]; exact vx_Zq.moved hW0.alike (hN.kept hS.2.1)
  have h : ∀ w ∈ exN own ic cls Y0 ei by0 r0, w.before args s' = true := vx_own hat' (vx_isRefq hU'.1) (vx_isRefq hN'.1) hU'.2.word hN'.2.word
  have hown' : s'.vm.findClass own = some m.cls := by rw [hvm]; exact hown
  have hins : (Cond.instantiable cls 6).before args s' = true := h _ (exN_any (by simp [Bundle.ownAtoms]) (by simp [Bundle.chainSAtoms, Bundle.passSAtoms]))
  obtain ⟨vm₁, cX, kX, hfX, hkX, -, -, X₁, st1⟩ := Y.newCold hexec (own := own) (C := cls) (index := ik) (n := 6) hown' hk' hins hini'
    (g := F0 m pc ls rest) rfl (by rw [hb]; exact d0) (Nat.le_refl _) (Nat.le_refl _)
  generalize hT1 : (T.setVm vm₁).pushCell { cls := cX, slots := kX.instanceTypes.map defaultValue, vm := .none } = T1 at X₁ st1
  have hcat : (Value.ref T.heap.size).category = 1 := rfl
  have hcellA : T1.heap[T.heap.size]? = some (freshCell cX kX) := by rw [← hT1]; exact State.heap_pushCell_size _ _
  have d3' : decode c.code (pc + 3) = .ok (.dup, 1) := by rw [hb]; exact d3
  have d4' : decode c.code (pc + 4) = .ok (.ldc_w is, 3) := by rw [hb]; exact d4
  have hstr' : vk_R own is text sa s' := vk_R.warm hW0 hstr
  obtain ⟨V, ce, L, Z, hL, hlt, hcl9, hvm9, st⟩ := vx_ctorMadeN X₁ hexec htr (own := own) (cls := cls) (names := names) (ic := ic) hN0 hb0 hb1 hb2 hb5 hown' hcls hnames h (fun x hx => nomatch hx) hfX hkX hcellA (by rw [hhp]; exact Nat.le_refl _) (msg := .ref sa) rfl
    (g := { method := m, pc := pc + 7, locals := ls, stack := .ref sa :: .ref T.heap.size :: .ref T.heap.size :: rest, locked := none }) rfl hsize (rest := rest) rfl
    (by rw [hb]; exact d6) hRframes (by simp only [List.map_cons, List.sum_cons, hcat]; omega)
  have Z0 := Stand.forget (locs := []) Z (fun y hy => by rw [hL y hy, hhp]; exact Nat.le_refl _)
  obtain ⟨f1, f2⟩ := vx_frame Z0.same
  rw [hhp] at f1 f2
  have hh : (V.setCell T.heap.size ce).heap[T.heap.size]? = some ce := heapAt_setCell_self (s := V) ce hlt
  subst hA'
  have X5 := vx_back9 X Y Z0
  have X6 : Stand p l e R s m args below meth c (V.setCell T.heap.size ce) locs (cells + 1) (slots + 6) := { X5 with same := X5.same.mono (by omega) (by omega) }
  obtain ⟨t, a1, b1⟩ := kk T.heap.size (V.setCell T.heap.size ce).heap ce f1 (fun x hx => f2 x hx (fun z hz => nomatch hz)) hh hvm9 (by rw [hcl9]; rw [hvm] at hfX; exact hfX) _ rfl X6
  refine ⟨t, st1 _ ?_, b1⟩
  show Steps p.tables e below (T1.setTop { method := m, pc := pc + 3, locals := ls, stack := .ref T.heap.size :: rest, locked := none }) _
  jvm_step X₁.here [X₁.here.top, hexec, d3', Value.category]
  exact X₁.ldcStringW hexec (own := own) (text := text) (index := is) (a := sa) hown' hstr'.1 hstr'.2
    (g := { method := m, pc := pc + 4, locals := ls, stack := .ref T.heap.size :: .ref T.heap.size :: rest, locked := none }) rfl d4' _ (st _ a1)
end W35A2
section W35B
variable {G : En} {X : Fx} {d k n pc q : Nat} {lv : List (Option Value)} {st : List Value} {M : Me}
theorem r_throwN {own : String} {cc : ByteArray} {nL : Nat} {ret : Option FieldType} {nm : String} {k0 n0 : Nat} {Q0 : Option Value → Me → Prop} {QX0 : String → Me → Prop} {ik is ic i1 i2 j : Nat} {cls text : String} {Y0 : String} {names r0 : List String} {ei : Nat} {by0 : ByteArray} (hN0 : names = Y0 :: r0) (hb0 : decode by0 0 = .ok (.aload_n 0, 1)) (hb1 : decode by0 1 = .ok (.aload_n 1, 1)) (hb2 : decode by0 2 = .ok (.invokespecial ei, 3)) (hb5 : decode by0 5 = .ok (.return_, 1)) (hcls : Bundle.fit cls = true) (hnames : ∀ x ∈ names, Bundle.fit x = true) (h1 : lw_tbl[i1]? = some (.classLink own ik cls)) (h2 : lw_tbl[i2]? = some (.initialized cls)) (h3 : wTx[j]? = some (own, is, text)) (hat : ((exN own ic cls Y0 ei by0 r0).filter vx_no).all (fun w => decide (w ∈ lw_tbl) && (goodWord w || wNw w)) = true) (hgood : (Cond.classLink own ik cls :: Cond.initialized cls :: (exN own ic cls Y0 ei by0 r0).filter vx_no).all vx_ot = true) (hnl : names.length ≤ 4) (hd : 8 ≤ d) (hst : (st.map fun v => v.category).sum ≤ 8) (h4 : 1 ≤ k) (h5 : 6 ≤ n)
    (d0 : decode cc pc = .ok (.new ik, 3)) (d3 : decode cc (pc + 3) = .ok (.dup, 1)) (d4 : decode cc (pc + 4) = .ok (.ldc is, 2)) (d6 : decode cc (pc + 6) = .ok (.invokespecial ic, 3)) (d9 : decode cc (pc + 9) = .ok (.athrow, 1)) (hQ : QX0 cls M) : AW G (own, cc, nL, ret, [], nm, k0, n0, wFin G Q0 QX0 k0 n0) d k n pc lv st M := by
  intro p e R s m args below meth c H locs cells slots ls cx hl hm hS hk hn
  have hRc := cx.2.2.2.2.2.2.2.2.2.2.2.2.2.1
  have hRs := cx.2.2.2.2.2.2.2.2.2.2.2.2.2.2
  have hF := cx.2.2.2.2.2.2.2.2.2.2.2.1
  have hL := cx.2.2.2.2.2.2.2.2.2.2.2.2.1
  have hE := cx.2.2.2.2.2.2.2.2.2.1
  dsimp only at hRc hRs hk hn
  have hat' : ∀ w ∈ (exN own ic cls Y0 ei by0 r0).filter vx_no, w.before args s = true := by
    intro w hw
    have h9 := List.all_eq_true.mp hat w hw
    simp only [Bool.and_eq_true, decide_eq_true_eq, Bool.or_eq_true] at h9
    rcases h9.2 with hg | hg
    · exact cx.2.2.2.2.2.2.2.2.1 w (wG_mem h9.1 hg)
    · have h8 := hE.1 w h9.1 hg
      cases w <;> first | (simp [wNw] at hg; done) | exact va_Nw.use rfl h8
  refine vx_makeN (names := names) (A := wA G) cx.1 cx.2.1 hE.2.2.2.2.2.2.2.2.2.2.2 hN0 hb0 hb1 hb2 hb5 cx.own hcls hnames (cx.ts h1 rfl) (cx.ts h2 rfl) (hE.2.2.2.2.2.2.2.2.2.1 j _ h3) hat' (fun w hw => List.all_eq_true.mp hgood w hw) hE.2.2.1 hE.2.2.2.1 hS (hl.1.trans cx.2.2.1.symm) d0 d3 d4 d6 (by omega) (by omega) (by omega) (by omega) fun q9 H1 ce z1 o1 hq9 hv9 hc9 => ?_
  have hm1 : wMem G M s H1 := ⟨hm.1, fun o a9 e9 ho => ⟨(hm.2.1 o a9 e9 ho).1.kept (o1 a9 (hm.2.1 o a9 e9 ho).1.lt), (hm.2.1 o a9 e9 ho).2⟩, hm.2.2⟩
  refine vx_athrow cx.1 cx.2.1 d9 ?_
  exact wOut cx.2.2.2.2.2.2.1 cx.2.2.2.2.1 hm1 (wS_push hS z1 o1) hQ hq9 hv9 hc9 (by omega) (by omega)
theorem r_throwNW {own : String} {cc : ByteArray} {nL : Nat} {ret : Option FieldType} {nm : String} {k0 n0 : Nat} {Q0 : Option Value → Me → Prop} {QX0 : String → Me → Prop} {ik is ic i1 i2 j : Nat} {cls text : String} {Y0 : String} {names r0 : List String} {ei : Nat} {by0 : ByteArray} (hN0 : names = Y0 :: r0) (hb0 : decode by0 0 = .ok (.aload_n 0, 1)) (hb1 : decode by0 1 = .ok (.aload_n 1, 1)) (hb2 : decode by0 2 = .ok (.invokespecial ei, 3)) (hb5 : decode by0 5 = .ok (.return_, 1)) (hcls : Bundle.fit cls = true) (hnames : ∀ x ∈ names, Bundle.fit x = true) (h1 : lw_tbl[i1]? = some (.classLink own ik cls)) (h2 : lw_tbl[i2]? = some (.initialized cls)) (h3 : wTx[j]? = some (own, is, text)) (hat : ((exN own ic cls Y0 ei by0 r0).filter vx_no).all (fun w => decide (w ∈ lw_tbl) && (goodWord w || wNw w)) = true) (hgood : (Cond.classLink own ik cls :: Cond.initialized cls :: (exN own ic cls Y0 ei by0 r0).filter vx_no).all vx_ot = true) (hnl : names.length ≤ 4) (hd : 8 ≤ d) (hst : (st.map fun v => v.category).sum ≤ 8) (h4 : 1 ≤ k) (h5 : 6 ≤ n)
    (d0 : decode cc pc = .ok (.new ik, 3)) (d3 : decode cc (pc + 3) = .ok (.dup, 1)) (d4 : decode cc (pc + 4) = .ok (.ldc_w is, 3)) (d6 : decode cc (pc + 7) = .ok (.invokespecial ic, 3)) (d9 : decode cc (pc + 10) = .ok (.athrow, 1)) (hQ : QX0 cls M) : AW G (own, cc, nL, ret, [], nm, k0, n0, wFin G Q0 QX0 k0 n0) d k n pc lv st M := by
  intro p e R s m args below meth c H locs cells slots ls cx hl hm hS hk hn
  have hRc := cx.2.2.2.2.2.2.2.2.2.2.2.2.2.1
  have hRs := cx.2.2.2.2.2.2.2.2.2.2.2.2.2.2
  have hF := cx.2.2.2.2.2.2.2.2.2.2.2.1
  have hL := cx.2.2.2.2.2.2.2.2.2.2.2.2.1
  have hE := cx.2.2.2.2.2.2.2.2.2.1
  dsimp only at hRc hRs hk hn
  have hat' : ∀ w ∈ (exN own ic cls Y0 ei by0 r0).filter vx_no, w.before args s = true := by
    intro w hw
    have h9 := List.all_eq_true.mp hat w hw
    simp only [Bool.and_eq_true, decide_eq_true_eq, Bool.or_eq_true] at h9
    rcases h9.2 with hg | hg
    · exact cx.2.2.2.2.2.2.2.2.1 w (wG_mem h9.1 hg)
    · have h8 := hE.1 w h9.1 hg
      cases w <;> first | (simp [wNw] at hg; done) | exact va_Nw.use rfl h8
  refine vx_makeNW (names := names) (A := wA G) cx.1 cx.2.1 hE.2.2.2.2.2.2.2.2.2.2.2 hN0 hb0 hb1 hb2 hb5 cx.own hcls hnames (cx.ts h1 rfl) (cx.ts h2 rfl) (hE.2.2.2.2.2.2.2.2.2.1 j _ h3) hat' (fun w hw => List.all_eq_true.mp hgood w hw) hE.2.2.1 hE.2.2.2.1 hS (hl.1.trans cx.2.2.1.symm) d0 d3 d4 d6 (by omega) (by omega) (by omega) (by omega) fun q9 H1 ce z1 o1 hq9 hv9 hc9 => ?_
  have hm1 : wMem G M s H1 := ⟨hm.1, fun o a9 e9 ho => ⟨(hm.2.1 o a9 e9 ho).1.kept (o1 a9 (hm.2.1 o a9 e9 ho).1.lt), (hm.2.1 o a9 e9 ho).2⟩, hm.2.2⟩
  refine vx_athrow cx.1 cx.2.1 d9 ?_
  exact wOut cx.2.2.2.2.2.2.1 cx.2.2.2.2.1 hm1 (wS_push hS z1 o1) hQ hq9 hv9 hc9 (by omega) (by omega)
abbrev neB : ByteArray := prog_39_method_4_code
theorem neB_0 : decode neB 0 = .ok (.aload_n 0, 1) := by decide +kernel
theorem neB_1 : decode neB 1 = .ok (.aload_n 1, 1) := by decide +kernel
theorem neB_2 : decode neB 2 = .ok (.invokespecial 13, 3) := by decide +kernel
theorem neB_5 : decode neB 5 = .ok (.return_, 1) := by decide +kernel
def nm_NoSuchElementException : List String := ["java/lang/RuntimeException", "java/lang/Exception"]
theorem ini_NoSuchElementException : lw_tbl[115]? = some (.initialized "java/util/NoSuchElementException") := by decide +kernel
theorem ck_X8_205 : lw_tbl[1259]? = some (.classLink RX8 205 "java/util/NoSuchElementException") := by decide +kernel
theorem at_X8_209 : ((exN RX8 209 "java/util/NoSuchElementException" "java/lang/RuntimeException" 13 neB ["java/lang/Exception"]).filter vx_no).all (fun w => decide (w ∈ lw_tbl) && (goodWord w || wNw w)) = true := by decide +kernel
theorem og_X8_209 : (Cond.classLink RX8 205 "java/util/NoSuchElementException" :: Cond.initialized "java/util/NoSuchElementException" :: (exN RX8 209 "java/util/NoSuchElementException" "java/lang/RuntimeException" 13 neB ["java/lang/Exception"]).filter vx_no).all vx_ot = true := by decide +kernel
end W35B
