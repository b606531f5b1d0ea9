/-! A WALK OVER AN ABSTRACT MEMORY: one world for all methods; a memory names cells, a rule an instruction -/
section WAW
abbrev Ob : Type := Nat × Nat × Nat
abbrev Me : Type := Ob → Option (Nat × va_E)
abbrev En : Type := Launch × va_G × (Nat → ClassId) × Nat × (Nat → Nat) × (Nat → Nat) × Nat × Nat × Nat × Nat × (Nat → Int32)
def wTys (G : En) : List (ClassId × FieldType) := [(G.2.2.1 0, .int), (G.2.2.1 1, .long), (G.2.2.1 2, .double), (G.2.2.1 3, .byte), (G.2.2.1 4, .object RX5)]
def wA (G : En) : Nat → Prop := fun q => G.2.2.2.1 ≤ q
def wCl : List vw_C := [(RX8, TX8, 12), (RX0, TX0, 3), (RX1, TX1, 7), (RX2, TX2, 2), (RX5, TX5, 17), (RX6, TX6, 2), (RX9, TX9, 27), (RJ4, TJ4, 4)]
def wNw : Cond → Bool
  | .castable .. => true
  | .declares _ => true
  | .methodLinkNest .. => true
  | _ => false
/-- of private methods of a class above the receiver's: they select themselves -/
def wSx : List Cond := [.selects RJ4 yJ5_ensureCapacityInternal_d00df yJ5_ensureCapacityInternal_d00df, .selects RJ4 yJ5_newCapacity_0f7a4 yJ5_newCapacity_0f7a4]
def wG : List Cond := lw_tbl.filter goodWord ++ wSx
theorem wG_mem {w : Cond} (h : w ∈ lw_tbl) (hg : goodWord w = true) : w ∈ wG := List.mem_append_left _ (List.mem_filter.mpr ⟨h, hg⟩)
theorem wG_in {w : Cond} {i : Nat} (h : lw_tbl[i]? = some w) (hg : goodWord w = true) : w ∈ wG := wG_mem (List.mem_of_getElem? h) hg
def wTx : List (String × Nat × String) := [("WhistleJunction$Input", 82, "sL:W"), ("WhistleJunction$Input", 84, "uL"), ("WhistleJunction$Input", 86, "pL=D"), ("WhistleJunction$Input", 88, "wL"), ("WhistleJunction$Input", 90, "lL>D"), ("WhistleJunction$Input", 92, "xL"), ("WhistleJunction$Input", 94, "mL:D"), ("WhistleJunction$Input", 96, "fL"), ("WhistleJunction$Input", 98, "h"), ("WhistleJunction$Input", 100, ""), ("WhistleJunction", 372, "there is no such line or platform"), ("WhistleJunction", 374, "a number is not allowed"), ("WhistleJunction", 376, "the change is refused"), ("WhistleJunction", 125, "there is no such line"), ("WhistleJunction", 132, "there is no such number of a line"), ("WhistleJunction", 141, "there is no such platform"), ("WhistleJunction", 143, "there is no such number of a platform"), ("WhistleJunction", 159, "there are no words of this length"), ("WhistleJunction", 207, "nothing is heard at this place"), ("WhistleJunction", 210, "there is no such number of what is heard"), ("WhistleJunction", 237, "no line is read at this place"), ("WhistleJunction", 239, "the line has no sign"), ("WhistleJunction", 244, "there is no such measure"), ("WhistleJunction", 246, "there is no such place"), ("WhistleJunction", 285, "there is no such index"), ("WhistleJunction", 293, "nothing was refused"), ("WhistleJunction", 296, "there is no such account"), ("WhistleJunction", 305, "there are no signs"), ("WhistleJunction", 314, "there were no whistles"), ("WhistleJunction", 322, "there is no such character"), ("WhistleJunction", 324, "there are too many characters"), ("WhistleJunction", 338, "the input is malformed"), ("WhistleJunction", 352, "an order is refused"), ("WhistleJunction", 361, "no input was malformed"), ("WhistleJunction", 363, "no input was refused"), ("WhistleJunction", 365, "no change can be undone"), ("WhistleJunction", 370, "there is no snapshot")]
def wSl : List Nat := [4, 2, 4, 2, 4, 2, 4, 2, 1, 0]
def wSb : List (List Int32) := [[115, 76, 58, 87], [117, 76], [112, 76, 61, 68], [119, 76], [108, 76, 62, 68], [120, 76], [109, 76, 58, 68], [102, 76], [104], []]
/-- throws that a handler must let pass -/
def wNc : List (String × String) := [("java/lang/IllegalArgumentException", "java/lang/IndexOutOfBoundsException"), ("java/lang/UnsupportedOperationException", "java/lang/IndexOutOfBoundsException"), ("java/lang/UnsupportedOperationException", "java/lang/IllegalArgumentException"), ("java/lang/IllegalArgumentException", "java/util/NoSuchElementException"), ("java/util/NoSuchElementException", "java/lang/IndexOutOfBoundsException"), ("java/util/NoSuchElementException", "java/lang/IllegalArgumentException"), ("java/lang/IllegalStateException", "java/lang/IllegalArgumentException")]
def wStr (G : En) (U : State) (H : Heap) : Prop := (∀ i : Nat, i < 10 → va_O "java/lang/String" (G.2.2.2.2.1 i) (wA G) U H ∧ va_OF "java/lang/String" "coder" "B" (.int 0) (G.2.2.2.2.1 i) (wA G) U H ∧ va_OF "java/lang/String" "value" "[B" (.ref (G.2.2.2.2.2.1 i)) (G.2.2.2.2.1 i) (wA G) U H ∧ va_T .byte (G.2.2.2.2.2.1 i) (wSl.getD i 0) (fun j => .int ((wSb.getD i []).getD j 0)) (wA G) U H) ∧
  vx_Zq "jdk/internal/util/Preconditions" "SIOOBE_FORMATTER" "Ljava/util/function/BiFunction;" (wA G) U H ∧ (∀ q ∈ wNc, va_Nc q.1 q.2 U) ∧ va_T .int G.2.2.2.2.2.2.2.2.1 G.2.2.2.2.2.2.2.2.2.1 (fun j => .int (G.2.2.2.2.2.2.2.2.2.2 j)) (wA G) U H
theorem wStr.moved {G : En} {u U : State} {H : Heap} (hvm : u.vm.Alike U.vm) (h : wStr G u H) : wStr G U H := ⟨fun i hi => ⟨va_O.moved hvm (h.1 i hi).1, va_OF.moved hvm (h.1 i hi).2.1, va_OF.moved hvm (h.1 i hi).2.2.1, va_T.moved hvm (h.1 i hi).2.2.2⟩, vx_Zq.moved hvm h.2.1, fun q hq => va_Nc.moved hvm (h.2.2.1 q hq), va_T.moved hvm h.2.2.2⟩
theorem wStr.kept {G : En} {U : State} {H H1 : Heap} (h : wStr G U H) (hq : ∀ a : Nat, a < H.size → ¬ wA G a → H1[a]? = H[a]?) : wStr G U H1 := ⟨fun i hi => ⟨(h.1 i hi).1.kept hq, (h.1 i hi).2.1.kept hq, (h.1 i hi).2.2.1.kept hq, (h.1 i hi).2.2.2.kept hq⟩, h.2.1.kept hq, h.2.2.1, h.2.2.2.kept hq⟩
/-- what stays as it is: words of the tables that aren't kept by themselves, statics, texts -/
def wEnv (G : En) (U : State) (H : Heap) : Prop :=
  (∀ w ∈ lw_tbl, wNw w = true → va_Nw w U) ∧ va_AO RX5 U ∧
  vx_Zq Bundle.tN "UNASSIGNED_STACK" Bundle.steD (wA G) U H ∧ vx_Zq Bundle.tN "SUPPRESSED_SENTINEL" Bundle.listD (wA G) U H ∧
  va_Z "java/lang/String" "COMPACT_STRINGS" "Z" (.int 1) (wA G) U H ∧
  va_Z "java/lang/Integer" "DigitTens" "[B" (.ref G.2.2.2.2.2.2.1) (wA G) U H ∧ va_Z "java/lang/Integer" "DigitOnes" "[B" (.ref G.2.2.2.2.2.2.2.1) (wA G) U H ∧
  va_T .byte G.2.2.2.2.2.2.1 100 (fun k => .int (nI (48 + k / 10))) (wA G) U H ∧ va_T .byte G.2.2.2.2.2.2.2.1 100 (fun k => .int (nI (48 + k % 10))) (wA G) U H ∧
  (∀ j x, wTx[j]? = some x → vk_R x.1 x.2.1 x.2.2 (G.2.2.2.2.1 j) U) ∧
  wStr G U H ∧ G.1.stackTraces = false
theorem wNw_moved {w : Cond} (hw : wNw w = true) {s U : State} (hW : s.WarmedH U.vm) (h : va_Nw w s) : va_Nw w U := by
  cases w <;> first | (simp [wNw] at hw; done) | exact va_Nw.warmC hW h | exact va_Nw.warmD hW h | exact va_Nw.warmM hW h
theorem wNw_same {w : Cond} (hw : wNw w = true) {s U : State} (e : s.vm = U.vm) (h : va_Nw w s) : va_Nw w U := by
  cases w <;> first | (simp [wNw] at hw; done) | exact va_Nw.same rfl e h
theorem wEnv.moved {G : En} {s U : State} {H : Heap} (hW : s.WarmedH U.vm) (h : wEnv G s H) : wEnv G U H := by
  obtain ⟨h1, h2, h3, h4, h5, h6, h7, h8, h9, h10, h11, h12⟩ := h
  have hv := hW.alike
  exact ⟨fun w hw hn => wNw_moved hn hW (h1 w hw hn), va_AO.moved hv h2, vx_Zq.moved hv h3, vx_Zq.moved hv h4, va_Z.moved hv h5, va_Z.moved hv h6, va_Z.moved hv h7, va_T.moved hv h8, va_T.moved hv h9, fun j x hx => vk_R.warm hW (h10 j x hx), wStr.moved hv h11, h12⟩
theorem wEnv.same {G : En} {s U : State} {H : Heap} (e : U.vm = s.vm) (h : wEnv G s H) : wEnv G U H := by
  obtain ⟨h1, h2, h3, h4, h5, h6, h7, h8, h9, h10, h11, h12⟩ := h
  have hv : s.vm.Alike U.vm := by rw [e]; exact Vm.Alike.refl s.vm
  exact ⟨fun w hw hn => wNw_same hn e.symm (h1 w hw hn), va_AO.moved hv h2, vx_Zq.moved hv h3, vx_Zq.moved hv h4, va_Z.moved hv h5, va_Z.moved hv h6, va_Z.moved hv h7, va_T.moved hv h8, va_T.moved hv h9, fun j x hx => vk_R.same e (h10 j x hx), wStr.moved hv h11, h12⟩
theorem wEnv.kept {G : En} {s : State} {H H1 : Heap} (h : wEnv G s H) (hq : ∀ a : Nat, a < H.size → ¬ wA G a → H1[a]? = H[a]?) : wEnv G s H1 := by
  obtain ⟨h1, h2, h3, h4, h5, h6, h7, h8, h9, h10, h11, h12⟩ := h
  exact ⟨h1, h2, h3.kept hq, h4.kept hq, h5.kept hq, h6.kept hq, h7.kept hq, h8.kept hq, h9.kept hq, h10, h11.kept hq, h12⟩
/-- the memory M is what the heap holds -/
def wMem (G : En) (M : Me) (U : State) (H : Heap) : Prop :=
  va_K G.2.1 wCl (wTys G) U ∧ (∀ o a e, M o = some (a, e) → va_at G.2.1 wCl (a, e) H ∧ wA G a) ∧ (∀ o o' a e e', M o = some (a, e) → M o' = some (a, e') → o = o')
def wPic (G : En) (M : Me) (U : State) : Prop := wMem G M U U.heap ∧ wEnv G U U.heap ∧ G.2.2.2.1 ≤ U.heap.size
theorem wMem.moved {G : En} {M : Me} {u U : State} {H : Heap} (hvm : u.vm.Alike U.vm) (h : wMem G M u H) : wMem G M U H := ⟨va_K.moved hvm h.1, h.2⟩
/-- locals by their places -/
def wL (ls : Array Slot) (nL : Nat) (lv : List (Option Value)) : Prop := ls.size = nL ∧ lv_wf ls ∧ ∀ (i : Nat) (v : Value), lv[i]? = some (some v) → ls[i]? = some (.val v)
/-- a frame's own: its class, code, size of locals, type returned, table, name, cells and slots of its room, its end -/
abbrev Fx : Type := String × ByteArray × Nat × Option FieldType × List ExceptionTableEntry × String × Nat × Nat × (List Frame → Array Value → State → State → Prop)
def wCx (G : En) (X : Fx) (d : Nat) (p : Program) (R : Room) (s : State) (m : MethodId) (args : Array Value) (meth : Method) (c : Code) : Prop :=
  p.tables.exec = Jvm.exec ∧ c.code = X.2.1 ∧ c.maxLocals = X.2.2.1 ∧ s.vm.findClass X.1 = some m.cls ∧ meth.locks = false ∧ meth.sig.returnType = X.2.2.2.1 ∧ c.exceptionTable.toList = X.2.2.2.2.1 ∧ meth.name = X.2.2.2.2.2.1 ∧
  (∀ w ∈ wG, w.before args s = true) ∧ wEnv G s s.heap ∧ G.2.2.2.1 ≤ s.heap.size ∧ d ≤ R.frames ∧ 100 * d ≤ R.locals ∧ R.cells = X.2.2.2.2.2.2.1 ∧ R.slots = X.2.2.2.2.2.2.2.1
/-- the walk goes on from here, with k cells and n slots to spend -/
def AW (G : En) (X : Fx) (d k n : Nat) (pc : Nat) (lv : List (Option Value)) (st : List Value) (M : Me) : Prop :=
  ∀ (p : Program) (e : Env) (R : Room) (s : State) (m : MethodId) (args : Array Value) (below : List Frame) (meth : Method) (c : Code) (H : Heap) (locs : List Loc) (cells slots : Nat) (ls : Array Slot),
    wCx G X d p R s m args meth c → wL ls X.2.2.1 lv → wMem G M s H → va_S (wA G) s.heap H locs → cells + k ≤ X.2.2.2.2.2.2.1 → slots + n ≤ X.2.2.2.2.2.2.2.1 →
    W p G.1 e R s m args below meth c H locs cells slots (X.2.2.2.2.2.2.2.2 below args s) (F0 m pc ls st)
variable {G : En} {X : Fx} {d k n pc q : Nat} {lv : List (Option Value)} {st : List Value} {M : Me}
theorem wMem.put {o : Ob} {a : Nat} {e e' : va_E} {s : State} {H H' : Heap} (h : wMem G M s H) (ho : M o = some (a, e)) (he : va_at G.2.1 wCl (a, e') H') (oq : ∀ x, x ≠ a → H'[x]? = H[x]?) : wMem G (fun x => if x = o then some (a, e') else M x) s H' := by
  obtain ⟨hK, hP, hI⟩ := h
  refine ⟨hK, fun o1 a1 e1 h1 => ?_, fun o1 o2 a1 e1 e2 h1 h2 => ?_⟩
  · by_cases ho1 : o1 = o
    · simp only [ho1, if_true] at h1
      cases h1
      exact ⟨he, (hP o a e ho).2⟩
    · simp only [if_neg ho1] at h1
      exact ⟨(hP o1 a1 e1 h1).1.kept (oq a1 (fun z => ho1 (hI o1 o a1 e1 e h1 (by rw [z]; exact ho)))), (hP o1 a1 e1 h1).2⟩
  · have g : ∀ o3 e3, (if o3 = o then some (a, e') else M o3) = some (a1, e3) → ∃ e4, M o3 = some (a1, e4) := by
      intro o3 e3 h3
      by_cases ho3 : o3 = o
      · simp only [ho3, if_true] at h3
        cases h3
        exact ⟨e, by rw [ho3]; exact ho⟩
      · simp only [if_neg ho3] at h3
        exact ⟨e3, h3⟩
    obtain ⟨e3, h3⟩ := g o1 e1 h1
    obtain ⟨e4, h4⟩ := g o2 e2 h2
    exact hI o1 o2 a1 e3 e4 h3 h4
theorem wMem.new {o : Ob} {a : Nat} {e : va_E} {s : State} {H H' : Heap} (h : wMem G M s H) (ho : M o = none) (ha : a = H.size) (hA : wA G a) (he : va_at G.2.1 wCl (a, e) H') (oq : ∀ x, x < H.size → H'[x]? = H[x]?) : wMem G (fun x => if x = o then some (a, e) else M x) s H' := by
  obtain ⟨hK, hP, hI⟩ := h
  have lt : ∀ o1 a1 e1, M o1 = some (a1, e1) → a1 < H.size := fun o1 a1 e1 h1 => (hP o1 a1 e1 h1).1.lt
  refine ⟨hK, fun o1 a1 e1 h1 => ?_, fun o1 o2 a1 e1 e2 h1 h2 => ?_⟩
  · by_cases ho1 : o1 = o
    · simp only [ho1, if_true] at h1
      cases h1
      exact ⟨he, hA⟩
    · simp only [if_neg ho1] at h1
      exact ⟨(hP o1 a1 e1 h1).1.kept (oq a1 (lt _ _ _ h1)), (hP o1 a1 e1 h1).2⟩
  · by_cases g1 : o1 = o <;> by_cases g2 : o2 = o
    · rw [g1, g2]
    · simp only [g1, if_true] at h1
      simp only [if_neg g2] at h2
      cases h1
      have := lt _ _ _ h2
      omega
    · simp only [if_neg g1] at h1
      simp only [g2, if_true] at h2
      cases h2
      have := lt _ _ _ h1
      omega
    · simp only [if_neg g1] at h1
      simp only [if_neg g2] at h2
      exact hI o1 o2 a1 e1 e2 h1 h2
theorem wMem.at1 {o : Ob} {a : Nat} {e : va_E} {s : State} {H : Heap} (h : wMem G M s H) (ho : M o = some (a, e)) : va_P G.2.1 wCl [(a, e)] H := by
  intro j x hx
  have hz : j < 1 := (List.getElem?_eq_some_iff.mp hx).1
  obtain rfl : j = 0 := by omega
  cases hx
  exact (h.2.1 o a e ho).1
theorem wMem.d1 {o : Ob} {a : Nat} {e : va_E} {s : State} {H : Heap} (h : wMem G M s H) (ho : M o = some (a, e)) : va_D (wA G) [(a, e)] := by
  refine ⟨fun i j x y hi hj _ => ?_, fun j x hx => ?_⟩
  · have h1 : i < 1 := (List.getElem?_eq_some_iff.mp hi).1
    have h2 : j < 1 := (List.getElem?_eq_some_iff.mp hj).1
    omega
  · have hz : j < 1 := (List.getElem?_eq_some_iff.mp hx).1
    obtain rfl : j = 0 := by omega
    cases hx
    exact (h.2.1 o a e ho).2
end WAW
