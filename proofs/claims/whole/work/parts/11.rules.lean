/-! RULES: an instruction, a row -/
section WRU
variable {G : En} {X : Fx} {d k n pc q : Nat} {lv : List (Option Value)} {st : List Value} {M : Me}
def wZ (lv : List (Option Value)) : List (Nat × Value) := lv.zipIdx.filterMap fun q => q.1.map fun w => (q.2, w)
theorem wL_to {ls : Array Slot} {nL : Nat} (h : wL ls nL lv) : lv_has ls nL (wZ lv) := ⟨h.1, h.2.1, fun q hq => by
  obtain ⟨x, hx, he⟩ := List.mem_filterMap.mp hq
  obtain ⟨x1, x2⟩ := x
  cases x1 with
  | none => simp at he
  | some w =>
    simp only [Option.map_some, Option.some.injEq] at he
    subst he
    exact h.2.2 _ _ (List.mem_zipIdx_iff_getElem?.mp hx)⟩
theorem wL_from {ls : Array Slot} {nL i : Nat} {v : Value} (h : lv_has ls nL ((i, v) :: (wZ lv).filter (fun q => !(q.1 == i) && !(q.1 + 1 == i && q.2.category == 2)))) (hw : ∀ j w, i = j + 1 → lv[j]? = some (some w) → w.category ≠ 2) : wL ls nL (lv.set i (some v)) := by
  obtain ⟨h2, h3, h4⟩ := h
  refine ⟨h2, h3, fun j w hj => ?_⟩
  by_cases hji : j = i
  · subst hji
    rw [List.getElem?_set] at hj
    simp only [if_true] at hj
    split at hj
    · cases hj
      exact h4 (j, v) List.mem_cons_self
    · cases hj
  · rw [List.getElem?_set_ne (Ne.symm hji)] at hj
    refine h4 (j, w) (List.mem_cons_of_mem _ (List.mem_filter.mpr ⟨List.mem_filterMap.mpr ⟨(some w, j), List.mem_zipIdx_iff_getElem?.mpr hj, rfl⟩, ?_⟩))
    simp only [beq_iff_eq, Bool.and_eq_true, Bool.not_eq_true', beq_eq_false_iff_ne, ne_eq, Bool.and_eq_false_iff]
    refine ⟨hji, ?_⟩
    by_cases hjj : j + 1 = i
    · exact Or.inr (hw j w hjj.symm hj)
    · exact Or.inl hjj
theorem wL_from2 {ls : Array Slot} {nL i : Nat} {v : Value} (h : lv_has ls nL ((i, v) :: (wZ lv).filter (fun q => !(q.1 == i) && (!(q.1 == i + 1) && !(q.1 + 1 == i && q.2.category == 2))))) (hw : ∀ j w, i = j + 1 → lv[j]? = some (some w) → w.category ≠ 2) : wL ls nL ((lv.set i (some v)).set (i + 1) none) := by
  obtain ⟨h2, h3, h4⟩ := h
  refine ⟨h2, h3, fun j w hj => ?_⟩
  by_cases hj1 : j = i + 1
  · subst hj1
    rw [List.getElem?_set] at hj
    simp only [if_true] at hj
    split at hj <;> cases hj
  rw [List.getElem?_set_ne (Ne.symm hj1)] at hj
  by_cases hji : j = i
  · subst hji
    rw [List.getElem?_set] at hj
    simp only [if_true] at hj
    split at hj
    · cases hj
      exact h4 (j, v) List.mem_cons_self
    · cases hj
  · rw [List.getElem?_set_ne (Ne.symm hji)] at hj
    refine h4 (j, w) (List.mem_cons_of_mem _ (List.mem_filter.mpr ⟨List.mem_filterMap.mpr ⟨(some w, j), List.mem_zipIdx_iff_getElem?.mpr hj, rfl⟩, ?_⟩))
    simp only [beq_iff_eq, Bool.and_eq_true, Bool.not_eq_true', beq_eq_false_iff_ne, ne_eq, Bool.and_eq_false_iff]
    refine ⟨hji, hj1, ?_⟩
    by_cases hjj : j + 1 = i
    · exact Or.inr (hw j w hjj.symm hj)
    · exact Or.inl hjj
def wOk (lv : List (Option Value)) : Nat → Bool
  | 0 => true
  | j + 1 => match lv[j]? with
    | some (some w) => w.category != 2
    | _ => true
theorem wOk_spec {i : Nat} (h : wOk lv i = true) : ∀ j w, i = j + 1 → lv[j]? = some (some w) → w.category ≠ 2 := by
  intro j w hj hw
  subst hj
  simp only [wOk, hw, bne_iff_ne] at h
  exact h
theorem r_iconst {z : Int} {v : Int32} (dg : decode X.2.1 pc = .ok (.iconst z, 1)) (hv : Int32.ofInt z = v) (hq : pc + 1 = q) (kk : AW G X d k n q lv (.int v :: st) M) : AW G X d k n pc lv st M := by
  intro p e R s m args below meth c H locs cells slots ls cx hl hm hS hk hn
  subst hq
  exact lv_iconst cx.1 cx.2.1 dg hv (kk p e R s m args below meth c H locs cells slots ls cx hl hm hS hk hn)
theorem r_bipush {z : Int} {v : Int32} (dg : decode X.2.1 pc = .ok (.bipush z, 2)) (hv : (Int8.ofInt z).toInt32 = v) (hq : pc + 2 = q) (kk : AW G X d k n q lv (.int v :: st) M) : AW G X d k n pc lv st M := by
  intro p e R s m args below meth c H locs cells slots ls cx hl hm hS hk hn
  subst hq
  exact lv_bipush cx.1 cx.2.1 dg hv (kk p e R s m args below meth c H locs cells slots ls cx hl hm hS hk hn)
theorem r_sipush {z : Int} {v : Int32} (dg : decode X.2.1 pc = .ok (.sipush z, 3)) (hv : (Int16.ofInt z).toInt32 = v) (hq : pc + 3 = q) (kk : AW G X d k n q lv (.int v :: st) M) : AW G X d k n pc lv st M := by
  intro p e R s m args below meth c H locs cells slots ls cx hl hm hS hk hn
  subst hq
  exact lv_sipush cx.1 cx.2.1 dg hv (kk p e R s m args below meth c H locs cells slots ls cx hl hm hS hk hn)
theorem r_null (dg : decode X.2.1 pc = .ok (.aconst_null, 1)) (hq : pc + 1 = q) (kk : AW G X d k n q lv (.null :: st) M) : AW G X d k n pc lv st M := by
  intro p e R s m args below meth c H locs cells slots ls cx hl hm hS hk hn
  subst hq
  exact lv_null cx.1 cx.2.1 dg (kk p e R s m args below meth c H locs cells slots ls cx hl hm hS hk hn)
theorem r_dconst0 (dg : decode X.2.1 pc = .ok (.dconst 0, 1)) (hq : pc + 1 = q) (kk : AW G X d k n q lv (.double FP.dconst0 :: st) M) : AW G X d k n pc lv st M := by
  intro p e R s m args below meth c H locs cells slots ls cx hl hm hS hk hn
  subst hq
  exact lv_dconst0 cx.1 cx.2.1 dg (kk p e R s m args below meth c H locs cells slots ls cx hl hm hS hk hn)
theorem r_fconst0 (dg : decode X.2.1 pc = .ok (.fconst 0, 1)) (hq : pc + 1 = q) (kk : AW G X d k n q lv (.float FP.fconst0 :: st) M) : AW G X d k n pc lv st M := by
  intro p e R s m args below meth c H locs cells slots ls cx hl hm hS hk hn
  subst hq
  exact lv_fconst0 cx.1 cx.2.1 dg (kk p e R s m args below meth c H locs cells slots ls cx hl hm hS hk hn)
theorem r_iload_n {i : Fin 4} {x : Int32} (dg : decode X.2.1 pc = .ok (.iload_n i, 1)) (hx : lv[(i : Nat)]? = some (some (.int x))) (hq : pc + 1 = q) (kk : AW G X d k n q lv (.int x :: st) M) : AW G X d k n pc lv st M := by
  intro p e R s m args below meth c H locs cells slots ls cx hl hm hS hk hn
  subst hq
  exact lv_iload_n cx.1 cx.2.1 dg rfl (hl.2.2 _ _ hx) (kk p e R s m args below meth c H locs cells slots ls cx hl hm hS hk hn)
theorem r_iload {i : Nat} {x : Int32} (dg : decode X.2.1 pc = .ok (.iload i, 2)) (hx : lv[i]? = some (some (.int x))) (hq : pc + 2 = q) (kk : AW G X d k n q lv (.int x :: st) M) : AW G X d k n pc lv st M := by
  intro p e R s m args below meth c H locs cells slots ls cx hl hm hS hk hn
  subst hq
  exact lv_iload cx.1 cx.2.1 dg (hl.2.2 _ _ hx) (kk p e R s m args below meth c H locs cells slots ls cx hl hm hS hk hn)
theorem r_aload_n {i : Fin 4} {x : Nat} (dg : decode X.2.1 pc = .ok (.aload_n i, 1)) (hx : lv[(i : Nat)]? = some (some (.ref x))) (hq : pc + 1 = q) (kk : AW G X d k n q lv (.ref x :: st) M) : AW G X d k n pc lv st M := by
  intro p e R s m args below meth c H locs cells slots ls cx hl hm hS hk hn
  subst hq
  exact lv_aload_n cx.1 cx.2.1 dg rfl (hl.2.2 _ _ hx) (kk p e R s m args below meth c H locs cells slots ls cx hl hm hS hk hn)
theorem r_aload {i : Nat} {x : Nat} (dg : decode X.2.1 pc = .ok (.aload i, 2)) (hx : lv[i]? = some (some (.ref x))) (hq : pc + 2 = q) (kk : AW G X d k n q lv (.ref x :: st) M) : AW G X d k n pc lv st M := by
  intro p e R s m args below meth c H locs cells slots ls cx hl hm hS hk hn
  subst hq
  exact lv_aload cx.1 cx.2.1 dg (hl.2.2 _ _ hx) (kk p e R s m args below meth c H locs cells slots ls cx hl hm hS hk hn)
theorem r_aload_nN {i : Fin 4} (dg : decode X.2.1 pc = .ok (.aload_n i, 1)) (hx : lv[(i : Nat)]? = some (some .null)) (hq : pc + 1 = q) (kk : AW G X d k n q lv (.null :: st) M) : AW G X d k n pc lv st M := by
  intro p e R s m args below meth c H locs cells slots ls cx hl hm hS hk hn
  subst hq
  exact lv_aload_nN cx.1 cx.2.1 dg rfl (hl.2.2 _ _ hx) (kk p e R s m args below meth c H locs cells slots ls cx hl hm hS hk hn)
theorem r_fload {i : Nat} {x : UInt32} (dg : decode X.2.1 pc = .ok (.fload i, 2)) (hx : lv[i]? = some (some (.float x))) (hq : pc + 2 = q) (kk : AW G X d k n q lv (.float x :: st) M) : AW G X d k n pc lv st M := by
  intro p e R s m args below meth c H locs cells slots ls cx hl hm hS hk hn
  subst hq
  exact lv_fload cx.1 cx.2.1 dg (hl.2.2 _ _ hx) (kk p e R s m args below meth c H locs cells slots ls cx hl hm hS hk hn)
theorem r_dload {i : Nat} {x : UInt64} (dg : decode X.2.1 pc = .ok (.dload i, 2)) (hx : lv[i]? = some (some (.double x))) (hq : pc + 2 = q) (kk : AW G X d k n q lv (.double x :: st) M) : AW G X d k n pc lv st M := by
  intro p e R s m args below meth c H locs cells slots ls cx hl hm hS hk hn
  subst hq
  exact lv_dload cx.1 cx.2.1 dg (hl.2.2 _ _ hx) (kk p e R s m args below meth c H locs cells slots ls cx hl hm hS hk hn)
theorem r_iadd {x y : Int32} (dg : decode X.2.1 pc = .ok (.iadd, 1)) (hq : pc + 1 = q) (kk : AW G X d k n q lv (.int (x + y) :: st) M) : AW G X d k n pc lv (.int y :: .int x :: st) M := by
  intro p e R s m args below meth c H locs cells slots ls cx hl hm hS hk hn
  subst hq
  exact lv_iadd cx.1 cx.2.1 dg (kk p e R s m args below meth c H locs cells slots ls cx hl hm hS hk hn)
theorem r_isub {x y : Int32} (dg : decode X.2.1 pc = .ok (.isub, 1)) (hq : pc + 1 = q) (kk : AW G X d k n q lv (.int (x - y) :: st) M) : AW G X d k n pc lv (.int y :: .int x :: st) M := by
  intro p e R s m args below meth c H locs cells slots ls cx hl hm hS hk hn
  subst hq
  exact lv_isub cx.1 cx.2.1 dg (kk p e R s m args below meth c H locs cells slots ls cx hl hm hS hk hn)
theorem r_imul {x y : Int32} (dg : decode X.2.1 pc = .ok (.imul, 1)) (hq : pc + 1 = q) (kk : AW G X d k n q lv (.int (x * y) :: st) M) : AW G X d k n pc lv (.int y :: .int x :: st) M := by
  intro p e R s m args below meth c H locs cells slots ls cx hl hm hS hk hn
  subst hq
  exact lv_imul cx.1 cx.2.1 dg (kk p e R s m args below meth c H locs cells slots ls cx hl hm hS hk hn)
theorem r_iand {x y : Int32} (dg : decode X.2.1 pc = .ok (.iand, 1)) (hq : pc + 1 = q) (kk : AW G X d k n q lv (.int (x &&& y) :: st) M) : AW G X d k n pc lv (.int y :: .int x :: st) M := by
  intro p e R s m args below meth c H locs cells slots ls cx hl hm hS hk hn
  subst hq
  exact lv_iand cx.1 cx.2.1 dg (kk p e R s m args below meth c H locs cells slots ls cx hl hm hS hk hn)
theorem r_ior {x y : Int32} (dg : decode X.2.1 pc = .ok (.ior, 1)) (hq : pc + 1 = q) (kk : AW G X d k n q lv (.int (x ||| y) :: st) M) : AW G X d k n pc lv (.int y :: .int x :: st) M := by
  intro p e R s m args below meth c H locs cells slots ls cx hl hm hS hk hn
  subst hq
  exact lv_ior cx.1 cx.2.1 dg (kk p e R s m args below meth c H locs cells slots ls cx hl hm hS hk hn)
theorem r_ishl {x y : Int32} (dg : decode X.2.1 pc = .ok (.ishl, 1)) (hq : pc + 1 = q) (kk : AW G X d k n q lv (.int (x <<< (y &&& 31)) :: st) M) : AW G X d k n pc lv (.int y :: .int x :: st) M := by
  intro p e R s m args below meth c H locs cells slots ls cx hl hm hS hk hn
  subst hq
  exact lv_ishl cx.1 cx.2.1 dg (kk p e R s m args below meth c H locs cells slots ls cx hl hm hS hk hn)
theorem r_ishr {x y : Int32} (dg : decode X.2.1 pc = .ok (.ishr, 1)) (hq : pc + 1 = q) (kk : AW G X d k n q lv (.int (x >>> (y &&& 31)) :: st) M) : AW G X d k n pc lv (.int y :: .int x :: st) M := by
  intro p e R s m args below meth c H locs cells slots ls cx hl hm hS hk hn
  subst hq
  exact lv_ishr cx.1 cx.2.1 dg (kk p e R s m args below meth c H locs cells slots ls cx hl hm hS hk hn)
theorem r_idiv {x y : Int32} (dg : decode X.2.1 pc = .ok (.idiv, 1)) (h0 : ¬ y = 0) (hq : pc + 1 = q) (kk : AW G X d k n q lv (.int (x / y) :: st) M) : AW G X d k n pc lv (.int y :: .int x :: st) M := by
  intro p e R s m args below meth c H locs cells slots ls cx hl hm hS hk hn
  subst hq
  exact lv_idiv cx.1 cx.2.1 dg h0 (kk p e R s m args below meth c H locs cells slots ls cx hl hm hS hk hn)
theorem r_irem {x y : Int32} (dg : decode X.2.1 pc = .ok (.irem, 1)) (h0 : ¬ y = 0) (hq : pc + 1 = q) (kk : AW G X d k n q lv (.int (x - x / y * y) :: st) M) : AW G X d k n pc lv (.int y :: .int x :: st) M := by
  intro p e R s m args below meth c H locs cells slots ls cx hl hm hS hk hn
  subst hq
  exact lv_irem cx.1 cx.2.1 dg h0 (kk p e R s m args below meth c H locs cells slots ls cx hl hm hS hk hn)
theorem r_ineg {x : Int32} (dg : decode X.2.1 pc = .ok (.ineg, 1)) (hq : pc + 1 = q) (kk : AW G X d k n q lv (.int (-x) :: st) M) : AW G X d k n pc lv (.int x :: st) M := by
  intro p e R s m args below meth c H locs cells slots ls cx hl hm hS hk hn
  subst hq
  exact lv_ineg cx.1 cx.2.1 dg (kk p e R s m args below meth c H locs cells slots ls cx hl hm hS hk hn)
theorem r_iushr {x y : Int32} (dg : decode X.2.1 pc = .ok (.iushr, 1)) (hq : pc + 1 = q) (kk : AW G X d k n q lv (.int (x.toUInt32 >>> (y.toUInt32 &&& Int32.toUInt32 31)).toInt32 :: st) M) : AW G X d k n pc lv (.int y :: .int x :: st) M := by
  intro p e R s m args below meth c H locs cells slots ls cx hl hm hS hk hn
  subst hq
  exact lv_iushr cx.1 cx.2.1 dg rfl (kk p e R s m args below meth c H locs cells slots ls cx hl hm hS hk hn)
theorem r_i2c {x : Int32} (dg : decode X.2.1 pc = .ok (.i2c, 1)) (hq : pc + 1 = q) (kk : AW G X d k n q lv (.int (x.toUInt32 % 65536).toInt32 :: st) M) : AW G X d k n pc lv (.int x :: st) M := by
  intro p e R s m args below meth c H locs cells slots ls cx hl hm hS hk hn
  subst hq
  exact lv_i2c cx.1 cx.2.1 dg rfl (kk p e R s m args below meth c H locs cells slots ls cx hl hm hS hk hn)
theorem r_i2b {x : Int32} (dg : decode X.2.1 pc = .ok (.i2b, 1)) (hq : pc + 1 = q) (kk : AW G X d k n q lv (.int x.toInt8.toInt32 :: st) M) : AW G X d k n pc lv (.int x :: st) M := by
  intro p e R s m args below meth c H locs cells slots ls cx hl hm hS hk hn
  subst hq
  exact lv_i2b cx.1 cx.2.1 dg rfl (kk p e R s m args below meth c H locs cells slots ls cx hl hm hS hk hn)
theorem r_i2l {x : Int32} (dg : decode X.2.1 pc = .ok (.i2l, 1)) (hq : pc + 1 = q) (kk : AW G X d k n q lv (.long x.toInt64 :: st) M) : AW G X d k n pc lv (.int x :: st) M := by
  intro p e R s m args below meth c H locs cells slots ls cx hl hm hS hk hn
  subst hq
  exact lv_i2l cx.1 cx.2.1 dg rfl (kk p e R s m args below meth c H locs cells slots ls cx hl hm hS hk hn)
theorem r_i2f {x : Int32} (dg : decode X.2.1 pc = .ok (.i2f, 1)) (hq : pc + 1 = q) (kk : AW G X d k n q lv (.float (FP.i2f x) :: st) M) : AW G X d k n pc lv (.int x :: st) M := by
  intro p e R s m args below meth c H locs cells slots ls cx hl hm hS hk hn
  subst hq
  exact lv_i2f cx.1 cx.2.1 dg (kk p e R s m args below meth c H locs cells slots ls cx hl hm hS hk hn)
theorem r_i2d {x : Int32} (dg : decode X.2.1 pc = .ok (.i2d, 1)) (hq : pc + 1 = q) (kk : AW G X d k n q lv (.double (FP.i2d x) :: st) M) : AW G X d k n pc lv (.int x :: st) M := by
  intro p e R s m args below meth c H locs cells slots ls cx hl hm hS hk hn
  subst hq
  exact lv_i2d cx.1 cx.2.1 dg (kk p e R s m args below meth c H locs cells slots ls cx hl hm hS hk hn)
theorem r_fdiv {x y : UInt32} (dg : decode X.2.1 pc = .ok (.fdiv, 1)) (h0 : vf_n32 (FP.fdiv x y)) (hq : pc + 1 = q) (kk : AW G X d k n q lv (.float (FP.fdiv x y) :: st) M) : AW G X d k n pc lv (.float y :: .float x :: st) M := by
  intro p e R s m args below meth c H locs cells slots ls cx hl hm hS hk hn
  subst hq
  exact lv_fdiv cx.1 cx.2.1 dg h0 (kk p e R s m args below meth c H locs cells slots ls cx hl hm hS hk hn)
theorem r_ddiv {x y : UInt64} (dg : decode X.2.1 pc = .ok (.ddiv, 1)) (h0 : vf_n64 (FP.ddiv x y)) (hq : pc + 1 = q) (kk : AW G X d k n q lv (.double (FP.ddiv x y) :: st) M) : AW G X d k n pc lv (.double y :: .double x :: st) M := by
  intro p e R s m args below meth c H locs cells slots ls cx hl hm hS hk hn
  subst hq
  exact lv_ddiv cx.1 cx.2.1 dg h0 (kk p e R s m args below meth c H locs cells slots ls cx hl hm hS hk hn)
theorem r_dcmp {x y : UInt64} {op : CmpOp} (dg : decode X.2.1 pc = .ok (.dcmp op, 1)) (hq : pc + 1 = q) (kk : AW G X d k n q lv (.int (Op.cmpValue (FP.dcmp x y) op) :: st) M) : AW G X d k n pc lv (.double y :: .double x :: st) M := by
  intro p e R s m args below meth c H locs cells slots ls cx hl hm hS hk hn
  subst hq
  exact lv_dcmp cx.1 cx.2.1 dg (kk p e R s m args below meth c H locs cells slots ls cx hl hm hS hk hn)
theorem r_fcmp {x y : UInt32} {op : CmpOp} (dg : decode X.2.1 pc = .ok (.fcmp op, 1)) (hq : pc + 1 = q) (kk : AW G X d k n q lv (.int (Op.cmpValue (FP.fcmp x y) op) :: st) M) : AW G X d k n pc lv (.float y :: .float x :: st) M := by
  intro p e R s m args below meth c H locs cells slots ls cx hl hm hS hk hn
  subst hq
  exact lv_fcmp cx.1 cx.2.1 dg (kk p e R s m args below meth c H locs cells slots ls cx hl hm hS hk hn)
theorem r_lcmp {x y : Int64} (dg : decode X.2.1 pc = .ok (.lcmp, 1)) (hq : pc + 1 = q) (kk : AW G X d k n q lv (.int (lg_cmp x y) :: st) M) : AW G X d k n pc lv (.long y :: .long x :: st) M := by
  intro p e R s m args below meth c H locs cells slots ls cx hl hm hS hk hn
  subst hq
  exact W.lcmp cx.1 cx.2.1 dg (kk p e R s m args below meth c H locs cells slots ls cx hl hm hS hk hn)
theorem r_dup {v : Value} (dg : decode X.2.1 pc = .ok (.dup, 1)) (hv : v.category = 1) (hq : pc + 1 = q) (kk : AW G X d k n q lv (v :: v :: st) M) : AW G X d k n pc lv (v :: st) M := by
  intro p e R s m args below meth c H locs cells slots ls cx hl hm hS hk hn
  subst hq
  exact lv_dup cx.1 cx.2.1 dg hv (kk p e R s m args below meth c H locs cells slots ls cx hl hm hS hk hn)
theorem r_dup2 {v w : Value} (dg : decode X.2.1 pc = .ok (.dup2, 1)) (hv : v.category = 1) (hw : w.category = 1) (hq : pc + 1 = q) (kk : AW G X d k n q lv (v :: w :: v :: w :: st) M) : AW G X d k n pc lv (v :: w :: st) M := by
  intro p e R s m args below meth c H locs cells slots ls cx hl hm hS hk hn
  subst hq
  exact lv_dup2_11 cx.1 cx.2.1 dg hv hw (kk p e R s m args below meth c H locs cells slots ls cx hl hm hS hk hn)
theorem r_dup_x1 {v w : Value} (dg : decode X.2.1 pc = .ok (.dup_x1, 1)) (hv : v.category = 1) (hw : w.category = 1) (hq : pc + 1 = q) (kk : AW G X d k n q lv (v :: w :: v :: st) M) : AW G X d k n pc lv (v :: w :: st) M := by
  intro p e R s m args below meth c H locs cells slots ls cx hl hm hS hk hn
  subst hq
  exact lv_dup_x1 cx.1 cx.2.1 dg hv hw (kk p e R s m args below meth c H locs cells slots ls cx hl hm hS hk hn)
theorem r_pop {v : Value} (dg : decode X.2.1 pc = .ok (.pop, 1)) (hv : v.category = 1) (hq : pc + 1 = q) (kk : AW G X d k n q lv st M) : AW G X d k n pc lv (v :: st) M := by
  intro p e R s m args below meth c H locs cells slots ls cx hl hm hS hk hn
  subst hq
  exact lv_pop cx.1 cx.2.1 dg hv (kk p e R s m args below meth c H locs cells slots ls cx hl hm hS hk hn)
theorem r_istore_n {i : Fin 4} {x : Int32} (dg : decode X.2.1 pc = .ok (.istore_n i, 1)) (hb : (i : Nat) < X.2.2.1) (hw : wOk lv (i : Nat) = true) (hq : pc + 1 = q) (kk : AW G X d k n q (lv.set (i : Nat) (some (.int x))) st M) : AW G X d k n pc lv ((.int x) :: st) M := by
  intro p e R s m args below meth c H locs cells slots ls cx hl hm hS hk hn
  subst hq
  exact lv_istore_n cx.1 cx.2.1 dg rfl (wL_to hl) hb rfl fun ls9 h9 => kk p e R s m args below meth c H locs cells slots ls9 cx (wL_from h9 (wOk_spec hw)) hm hS hk hn
theorem r_istore {i : Nat} {x : Int32} (dg : decode X.2.1 pc = .ok (.istore i, 2)) (hb : i < X.2.2.1) (hw : wOk lv i = true) (hq : pc + 2 = q) (kk : AW G X d k n q (lv.set i (some (.int x))) st M) : AW G X d k n pc lv ((.int x) :: st) M := by
  intro p e R s m args below meth c H locs cells slots ls cx hl hm hS hk hn
  subst hq
  exact lv_istore cx.1 cx.2.1 dg (wL_to hl) hb rfl fun ls9 h9 => kk p e R s m args below meth c H locs cells slots ls9 cx (wL_from h9 (wOk_spec hw)) hm hS hk hn
theorem r_astore_n {i : Fin 4} {x : Nat} (dg : decode X.2.1 pc = .ok (.astore_n i, 1)) (hb : (i : Nat) < X.2.2.1) (hw : wOk lv (i : Nat) = true) (hq : pc + 1 = q) (kk : AW G X d k n q (lv.set (i : Nat) (some (.ref x))) st M) : AW G X d k n pc lv ((.ref x) :: st) M := by
  intro p e R s m args below meth c H locs cells slots ls cx hl hm hS hk hn
  subst hq
  exact lv_astore_n cx.1 cx.2.1 dg rfl (wL_to hl) hb rfl fun ls9 h9 => kk p e R s m args below meth c H locs cells slots ls9 cx (wL_from h9 (wOk_spec hw)) hm hS hk hn
theorem r_astore {i : Nat} {x : Nat} (dg : decode X.2.1 pc = .ok (.astore i, 2)) (hb : i < X.2.2.1) (hw : wOk lv i = true) (hq : pc + 2 = q) (kk : AW G X d k n q (lv.set i (some (.ref x))) st M) : AW G X d k n pc lv ((.ref x) :: st) M := by
  intro p e R s m args below meth c H locs cells slots ls cx hl hm hS hk hn
  subst hq
  exact lv_astore cx.1 cx.2.1 dg (wL_to hl) hb rfl fun ls9 h9 => kk p e R s m args below meth c H locs cells slots ls9 cx (wL_from h9 (wOk_spec hw)) hm hS hk hn
theorem r_fstore {i : Nat} {x : UInt32} (dg : decode X.2.1 pc = .ok (.fstore i, 2)) (hb : i < X.2.2.1) (hw : wOk lv i = true) (hq : pc + 2 = q) (kk : AW G X d k n q (lv.set i (some (.float x))) st M) : AW G X d k n pc lv ((.float x) :: st) M := by
  intro p e R s m args below meth c H locs cells slots ls cx hl hm hS hk hn
  subst hq
  exact lv_fstore cx.1 cx.2.1 dg (wL_to hl) hb rfl fun ls9 h9 => kk p e R s m args below meth c H locs cells slots ls9 cx (wL_from h9 (wOk_spec hw)) hm hS hk hn
theorem r_astore_nN {i : Fin 4} (dg : decode X.2.1 pc = .ok (.astore_n i, 1)) (hb : (i : Nat) < X.2.2.1) (hw : wOk lv (i : Nat) = true) (hq : pc + 1 = q) (kk : AW G X d k n q (lv.set (i : Nat) (some .null)) st M) : AW G X d k n pc lv (.null :: st) M := by
  intro p e R s m args below meth c H locs cells slots ls cx hl hm hS hk hn
  subst hq
  exact lv_astore_nN cx.1 cx.2.1 dg rfl (wL_to hl) hb rfl fun ls9 h9 => kk p e R s m args below meth c H locs cells slots ls9 cx (wL_from h9 (wOk_spec hw)) hm hS hk hn
theorem r_dstore {i : Nat} {x : UInt64} (dg : decode X.2.1 pc = .ok (.dstore i, 2)) (hb : i + 1 < X.2.2.1) (hw : wOk lv i = true) (hq : pc + 2 = q) (kk : AW G X d k n q ((lv.set i (some (.double x))).set (i + 1) none) st M) : AW G X d k n pc lv (.double x :: st) M := by
  intro p e R s m args below meth c H locs cells slots ls cx hl hm hS hk hn
  subst hq
  exact lv_dstore cx.1 cx.2.1 dg (wL_to hl) hb rfl fun ls9 h9 => kk p e R s m args below meth c H locs cells slots ls9 cx (wL_from2 h9 (wOk_spec hw)) hm hS hk hn
theorem wZ_get {i : Nat} {v : Value} (h : lv[i]? = some (some v)) : ∃ j : Nat, (wZ lv)[j]? = some (i, v) :=
  List.getElem?_of_mem (List.mem_filterMap.mpr ⟨(some v, i), List.mem_zipIdx_iff_getElem?.mpr h, rfl⟩)
theorem r_iinc {i : Nat} {z : Int} {x v : Int32} (dg : decode X.2.1 pc = .ok (.iinc i z, 3)) (hx : lv[i]? = some (some (.int x))) (hv : x + Int32.ofInt z = v) (hb : i < X.2.2.1) (hw : wOk lv i = true) (hq : pc + 3 = q) (kk : AW G X d k n q (lv.set i (some (.int v))) st M) : AW G X d k n pc lv st M := by
  intro p e R s m args below meth c H locs cells slots ls cx hl hm hS hk hn
  subst hq
  obtain ⟨j, hj⟩ := wZ_get hx
  exact lv_iinc cx.1 cx.2.1 dg (wL_to hl) hj hv hb rfl fun ls9 h9 => kk p e R s m args below meth c H locs cells slots ls9 cx (wL_from h9 (wOk_spec hw)) hm hS hk hn
theorem r_if_eq {x : Int32} {off : Int} {t : Nat} (dg : decode X.2.1 pc = .ok (.ifCond .eq off, 3)) (ht : (pc : Int) + off = (t : Int)) (hq : pc + 3 = q) (kt : x = 0 → AW G X d k n t lv st M) (kf : ¬ x = 0 → AW G X d k n q lv st M) : AW G X d k n pc lv (.int x :: st) M := by
  intro p e R s m args below meth c H locs cells slots ls cx hl hm hS hk hn
  subst hq
  exact lv_if_eq cx.1 cx.2.1 dg ht (fun h9 => kt h9 p e R s m args below meth c H locs cells slots ls cx hl hm hS hk hn) (fun h9 => kf h9 p e R s m args below meth c H locs cells slots ls cx hl hm hS hk hn)
theorem r_icmp_eq {x y : Int32} {off : Int} {t : Nat} (dg : decode X.2.1 pc = .ok (.if_icmp .eq off, 3)) (ht : (pc : Int) + off = (t : Int)) (hq : pc + 3 = q) (kt : x = y → AW G X d k n t lv st M) (kf : ¬ x = y → AW G X d k n q lv st M) : AW G X d k n pc lv (.int y :: .int x :: st) M := by
  intro p e R s m args below meth c H locs cells slots ls cx hl hm hS hk hn
  subst hq
  exact lv_icmp_eq cx.1 cx.2.1 dg ht (fun h9 => kt h9 p e R s m args below meth c H locs cells slots ls cx hl hm hS hk hn) (fun h9 => kf h9 p e R s m args below meth c H locs cells slots ls cx hl hm hS hk hn)
theorem r_if_ne {x : Int32} {off : Int} {t : Nat} (dg : decode X.2.1 pc = .ok (.ifCond .ne off, 3)) (ht : (pc : Int) + off = (t : Int)) (hq : pc + 3 = q) (kt : ¬ x = 0 → AW G X d k n t lv st M) (kf : x = 0 → AW G X d k n q lv st M) : AW G X d k n pc lv (.int x :: st) M := by
  intro p e R s m args below meth c H locs cells slots ls cx hl hm hS hk hn
  subst hq
  exact lv_if_ne cx.1 cx.2.1 dg ht (fun h9 => kt h9 p e R s m args below meth c H locs cells slots ls cx hl hm hS hk hn) (fun h9 => kf h9 p e R s m args below meth c H locs cells slots ls cx hl hm hS hk hn)
theorem r_icmp_ne {x y : Int32} {off : Int} {t : Nat} (dg : decode X.2.1 pc = .ok (.if_icmp .ne off, 3)) (ht : (pc : Int) + off = (t : Int)) (hq : pc + 3 = q) (kt : ¬ x = y → AW G X d k n t lv st M) (kf : x = y → AW G X d k n q lv st M) : AW G X d k n pc lv (.int y :: .int x :: st) M := by
  intro p e R s m args below meth c H locs cells slots ls cx hl hm hS hk hn
  subst hq
  exact lv_icmp_ne cx.1 cx.2.1 dg ht (fun h9 => kt h9 p e R s m args below meth c H locs cells slots ls cx hl hm hS hk hn) (fun h9 => kf h9 p e R s m args below meth c H locs cells slots ls cx hl hm hS hk hn)
theorem r_if_lt {x : Int32} {off : Int} {t : Nat} (dg : decode X.2.1 pc = .ok (.ifCond .lt off, 3)) (ht : (pc : Int) + off = (t : Int)) (hq : pc + 3 = q) (kt : x < 0 → AW G X d k n t lv st M) (kf : ¬ x < 0 → AW G X d k n q lv st M) : AW G X d k n pc lv (.int x :: st) M := by
  intro p e R s m args below meth c H locs cells slots ls cx hl hm hS hk hn
  subst hq
  exact lv_if_lt cx.1 cx.2.1 dg ht (fun h9 => kt h9 p e R s m args below meth c H locs cells slots ls cx hl hm hS hk hn) (fun h9 => kf h9 p e R s m args below meth c H locs cells slots ls cx hl hm hS hk hn)
theorem r_icmp_lt {x y : Int32} {off : Int} {t : Nat} (dg : decode X.2.1 pc = .ok (.if_icmp .lt off, 3)) (ht : (pc : Int) + off = (t : Int)) (hq : pc + 3 = q) (kt : x < y → AW G X d k n t lv st M) (kf : ¬ x < y → AW G X d k n q lv st M) : AW G X d k n pc lv (.int y :: .int x :: st) M := by
  intro p e R s m args below meth c H locs cells slots ls cx hl hm hS hk hn
  subst hq
  exact lv_icmp_lt cx.1 cx.2.1 dg ht (fun h9 => kt h9 p e R s m args below meth c H locs cells slots ls cx hl hm hS hk hn) (fun h9 => kf h9 p e R s m args below meth c H locs cells slots ls cx hl hm hS hk hn)
theorem r_if_ge {x : Int32} {off : Int} {t : Nat} (dg : decode X.2.1 pc = .ok (.ifCond .ge off, 3)) (ht : (pc : Int) + off = (t : Int)) (hq : pc + 3 = q) (kt : 0 ≤ x → AW G X d k n t lv st M) (kf : ¬ 0 ≤ x → AW G X d k n q lv st M) : AW G X d k n pc lv (.int x :: st) M := by
  intro p e R s m args below meth c H locs cells slots ls cx hl hm hS hk hn
  subst hq
  exact lv_if_ge cx.1 cx.2.1 dg ht (fun h9 => kt h9 p e R s m args below meth c H locs cells slots ls cx hl hm hS hk hn) (fun h9 => kf h9 p e R s m args below meth c H locs cells slots ls cx hl hm hS hk hn)
theorem r_icmp_ge {x y : Int32} {off : Int} {t : Nat} (dg : decode X.2.1 pc = .ok (.if_icmp .ge off, 3)) (ht : (pc : Int) + off = (t : Int)) (hq : pc + 3 = q) (kt : y ≤ x → AW G X d k n t lv st M) (kf : ¬ y ≤ x → AW G X d k n q lv st M) : AW G X d k n pc lv (.int y :: .int x :: st) M := by
  intro p e R s m args below meth c H locs cells slots ls cx hl hm hS hk hn
  subst hq
  exact lv_icmp_ge cx.1 cx.2.1 dg ht (fun h9 => kt h9 p e R s m args below meth c H locs cells slots ls cx hl hm hS hk hn) (fun h9 => kf h9 p e R s m args below meth c H locs cells slots ls cx hl hm hS hk hn)
theorem r_if_gt {x : Int32} {off : Int} {t : Nat} (dg : decode X.2.1 pc = .ok (.ifCond .gt off, 3)) (ht : (pc : Int) + off = (t : Int)) (hq : pc + 3 = q) (kt : 0 < x → AW G X d k n t lv st M) (kf : ¬ 0 < x → AW G X d k n q lv st M) : AW G X d k n pc lv (.int x :: st) M := by
  intro p e R s m args below meth c H locs cells slots ls cx hl hm hS hk hn
  subst hq
  exact lv_if_gt cx.1 cx.2.1 dg ht (fun h9 => kt h9 p e R s m args below meth c H locs cells slots ls cx hl hm hS hk hn) (fun h9 => kf h9 p e R s m args below meth c H locs cells slots ls cx hl hm hS hk hn)
theorem r_icmp_gt {x y : Int32} {off : Int} {t : Nat} (dg : decode X.2.1 pc = .ok (.if_icmp .gt off, 3)) (ht : (pc : Int) + off = (t : Int)) (hq : pc + 3 = q) (kt : y < x → AW G X d k n t lv st M) (kf : ¬ y < x → AW G X d k n q lv st M) : AW G X d k n pc lv (.int y :: .int x :: st) M := by
  intro p e R s m args below meth c H locs cells slots ls cx hl hm hS hk hn
  subst hq
  exact lv_icmp_gt cx.1 cx.2.1 dg ht (fun h9 => kt h9 p e R s m args below meth c H locs cells slots ls cx hl hm hS hk hn) (fun h9 => kf h9 p e R s m args below meth c H locs cells slots ls cx hl hm hS hk hn)
theorem r_if_le {x : Int32} {off : Int} {t : Nat} (dg : decode X.2.1 pc = .ok (.ifCond .le off, 3)) (ht : (pc : Int) + off = (t : Int)) (hq : pc + 3 = q) (kt : x ≤ 0 → AW G X d k n t lv st M) (kf : ¬ x ≤ 0 → AW G X d k n q lv st M) : AW G X d k n pc lv (.int x :: st) M := by
  intro p e R s m args below meth c H locs cells slots ls cx hl hm hS hk hn
  subst hq
  exact lv_if_le cx.1 cx.2.1 dg ht (fun h9 => kt h9 p e R s m args below meth c H locs cells slots ls cx hl hm hS hk hn) (fun h9 => kf h9 p e R s m args below meth c H locs cells slots ls cx hl hm hS hk hn)
theorem r_icmp_le {x y : Int32} {off : Int} {t : Nat} (dg : decode X.2.1 pc = .ok (.if_icmp .le off, 3)) (ht : (pc : Int) + off = (t : Int)) (hq : pc + 3 = q) (kt : x ≤ y → AW G X d k n t lv st M) (kf : ¬ x ≤ y → AW G X d k n q lv st M) : AW G X d k n pc lv (.int y :: .int x :: st) M := by
  intro p e R s m args below meth c H locs cells slots ls cx hl hm hS hk hn
  subst hq
  exact lv_icmp_le cx.1 cx.2.1 dg ht (fun h9 => kt h9 p e R s m args below meth c H locs cells slots ls cx hl hm hS hk hn) (fun h9 => kf h9 p e R s m args below meth c H locs cells slots ls cx hl hm hS hk hn)
theorem r_goto {off : Int} {t : Nat} (dg : decode X.2.1 pc = .ok (.goto off, 3)) (ht : (pc : Int) + off = (t : Int)) (kk : AW G X d k n t lv st M) : AW G X d k n pc lv st M := by
  intro p e R s m args below meth c H locs cells slots ls cx hl hm hS hk hn
  exact lv_goto cx.1 cx.2.1 dg ht (kk p e R s m args below meth c H locs cells slots ls cx hl hm hS hk hn)
theorem r_ifnull {x : Nat} {off : Int} (dg : decode X.2.1 pc = .ok (.ifnull off, 3)) (hq : pc + 3 = q) (kk : AW G X d k n q lv st M) : AW G X d k n pc lv (.ref x :: st) M := by
  intro p e R s m args below meth c H locs cells slots ls cx hl hm hS hk hn
  subst hq
  exact lv_ifnull cx.1 cx.2.1 dg (kk p e R s m args below meth c H locs cells slots ls cx hl hm hS hk hn)
theorem r_ifnullN {off : Int} {t : Nat} (dg : decode X.2.1 pc = .ok (.ifnull off, 3)) (ht : (pc : Int) + off = (t : Int)) (kk : AW G X d k n t lv st M) : AW G X d k n pc lv (.null :: st) M := by
  intro p e R s m args below meth c H locs cells slots ls cx hl hm hS hk hn
  exact lv_ifnullN cx.1 cx.2.1 dg ht (kk p e R s m args below meth c H locs cells slots ls cx hl hm hS hk hn)
theorem r_tableIn {dflt lo hi : Int} {offs : Array Int} {len : Nat} {x : Int32} {off : Int} {t : Nat} (dg : decode X.2.1 pc = .ok (.tableswitch dflt lo hi offs, len)) (h1 : ¬ x.toInt < lo) (h2 : ¬ hi < x.toInt) (ho : offs[(x.toInt - lo).toNat]? = some off) (ht : (pc : Int) + off = (t : Int)) (kk : AW G X d k n t lv st M) : AW G X d k n pc lv (.int x :: st) M := by
  intro p e R s m args below meth c H locs cells slots ls cx hl hm hS hk hn
  exact lv_tableIn cx.1 cx.2.1 dg h1 h2 ho ht (kk p e R s m args below meth c H locs cells slots ls cx hl hm hS hk hn)
theorem r_tableOut {dflt lo hi : Int} {offs : Array Int} {len : Nat} {x : Int32} {t : Nat} (dg : decode X.2.1 pc = .ok (.tableswitch dflt lo hi offs, len)) (h1 : x.toInt < lo ∨ hi < x.toInt) (ht : (pc : Int) + dflt = (t : Int)) (kk : AW G X d k n t lv st M) : AW G X d k n pc lv (.int x :: st) M := by
  intro p e R s m args below meth c H locs cells slots ls cx hl hm hS hk hn
  exact lv_tableOut cx.1 cx.2.1 dg h1 ht (kk p e R s m args below meth c H locs cells slots ls cx hl hm hS hk hn)
theorem r_lookup {dflt : Int} {ps : Array (Int × Int)} {len : Nat} {x : Int32} {off : Int} {t : Nat} (dg : decode X.2.1 pc = .ok (.lookupswitch dflt ps, len)) (hp : (ps.toList.zip (ps.toList.drop 1)).all (fun (a, next) => a.1 < next.1) = true) (ho : Op.lookupswitch.offset ps.toList dflt x.toInt = off) (ht : (pc : Int) + off = (t : Int)) (kk : AW G X d k n t lv st M) : AW G X d k n pc lv (.int x :: st) M := by
  intro p e R s m args below meth c H locs cells slots ls cx hl hm hS hk hn
  exact lv_lookup cx.1 cx.2.1 dg hp ho ht (kk p e R s m args below meth c H locs cells slots ls cx hl hm hS hk hn)
theorem wCx.ts {p : Program} {R : Room} {s : State} {m : MethodId} {args : Array Value} {meth : Method} {c : Code} (cx : wCx G X d p R s m args meth c) {w : Cond} {i : Nat} (h : lw_tbl[i]? = some w) (hg : goodWord w = true) : w.before args s = true := cx.2.2.2.2.2.2.2.2.1 w (wG_in h hg)
theorem wCx.own {p : Program} {R : Room} {s : State} {m : MethodId} {args : Array Value} {meth : Method} {c : Code} (cx : wCx G X d p R s m args meth c) : s.vm.findClass X.1 = some m.cls := cx.2.2.2.1
theorem r_ldc {ix i : Nat} {v : Int32} (dg : decode X.2.1 pc = .ok (.ldc ix, 2)) (hc : lw_tbl[i]? = some (.constant X.1 ix v)) (hq : pc + 2 = q) (kk : AW G X d k n q lv (.int v :: st) M) : AW G X d k n pc lv st M := by
  intro p e R s m args below meth c H locs cells slots ls cx hl hm hS hk hn
  subst hq
  exact lv_ldc cx.1 cx.2.1 cx.own (cx.ts hc rfl) dg (kk p e R s m args below meth c H locs cells slots ls cx hl hm hS hk hn)
theorem r_ldcS {ix j : Nat} {tx : String} (dg : decode X.2.1 pc = .ok (.ldc ix, 2)) (hc : wTx[j]? = some (X.1, ix, tx)) (hq : pc + 2 = q) (kk : AW G X d k n q lv (.ref (G.2.2.2.2.1 j) :: st) M) : AW G X d k n pc lv st M := by
  intro p e R s m args below meth c H locs cells slots ls cx hl hm hS hk hn
  subst hq
  have hE := cx.2.2.2.2.2.2.2.2.2.1
  exact va_ldcS cx.1 cx.2.1 cx.own (hE.2.2.2.2.2.2.2.2.2.1 j _ hc) dg (kk p e R s m args below meth c H locs cells slots ls cx hl hm hS hk hn)
end WRU
