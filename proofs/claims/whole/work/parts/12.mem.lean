/-! RULES: cells -/
section WRM
variable {G : En} {X : Fx} {d k n pc q : Nat} {lv : List (Option Value)} {st : List Value} {M : Me}
theorem uG_in {C : String} {T : u_T} {N : Nat} (h : ∀ j, j < N → ∃ i : Nat, lw_tbl[i]? = some (u_lay C T j)) : ∀ w ∈ u_ws C T N, w ∈ wG := by
  intro w hw
  obtain ⟨j, hj, rfl⟩ := List.mem_map.mp hw
  obtain ⟨i, hi⟩ := h j (List.mem_range.mp hj)
  refine wG_in hi ?_
  unfold u_lay
  split <;> rfl
theorem r_get {ix i kk ci N : Nat} {o : Ob} {a : Nat} {fs : List Value} {C ref : String} {T : u_T} {v : Value} (hM : M o = some (a, .inr (ci, fs))) (hc : wCl[ci]? = some (C, T, N)) (hin : ∀ w ∈ u_ws C T N, w ∈ wG) (hk0 : kk < N) (href : (T kk).1 = ref) (hlk : lw_tbl[i]? = some (.fieldLink X.1 ix ref (T kk).2.1 (T kk).2.2.1)) (hv : fs[kk]? = some v) (dg : decode X.2.1 pc = .ok (.getfield ix, 3)) (hq : pc + 3 = q) (k1 : AW G X d k n q lv (v :: st) M) : AW G X d k n pc lv (.ref a :: st) M := by
  intro p e R s m args below meth c H locs cells slots ls cx hl hm hS hk hn
  subst hq
  exact va_get cx.1 cx.2.1 cx.2.2.2.2.2.2.2.2.1 hin cx.own hm.1 (hm.at1 hM) 0 rfl hc kk hk0 (cx.ts hlk rfl) (fun x h => by rw [← href]; exact h) hv dg (k1 p e R s m args below meth c H locs cells slots ls cx hl hm hS hk hn)
theorem r_put {ix i kk ci N : Nat} {o : Ob} {a : Nat} {fs : List Value} {C ref : String} {T : u_T} {ty0 : Nat → FieldType} {v : Value} (hM : M o = some (a, .inr (ci, fs))) (hc : wCl[ci]? = some (C, T, N)) (hin : ∀ w ∈ u_ws C T N, w ∈ wG) (hty : ∀ k, k < N → parseFieldDescriptor (T k).2.2.1 = some (ty0 k)) (hnm : ∀ a, a < N → ∀ b, b < N → a ≠ b → (T a).2.1 ≠ (T b).2.1) (hk0 : kk < N) (hfin : (T kk).2.2.2 = false ∨ (X.2.2.2.2.2.1 = "<init>" ∧ (T kk).1 = X.1)) (href : (T kk).1 = ref) (hlk : lw_tbl[i]? = some (.fieldLink X.1 ix ref (T kk).2.1 (T kk).2.2.1)) (hn0 : narrow (ty0 kk) v = v) (hfit : fits (ty0 kk) v = true) (hlen : kk < fs.length) (dg : decode X.2.1 pc = .ok (.putfield ix, 3)) (hq : pc + 3 = q)
    (k1 : AW G X d k n q lv st (fun x => if x = o then some (a, .inr (ci, fs.set kk v)) else M x)) : AW G X d k n pc lv (v :: .ref a :: st) M := by
  intro p e R s m args below meth c H locs cells slots ls cx hl hm hS hk hn
  subst hq
  have hap := va_apart (own := X.1) cx.2.2.2.2.2.2.2.2.1 hin ty0 hty hnm hm.1 hc
  obtain ⟨r, h1, cell, q1, q2, q3, q4⟩ := hm.at1 hM 0 _ rfl
  have hr : r = (C, T, N) := Option.some.inj (h1.symm.trans hc)
  subst hr
  obtain ⟨hSS, hfc, kC, hkC, hkind⟩ := hm.1.1 ci _ hc
  obtain ⟨cf, kf, fi, f, hi, hsl⟩ := hSS kk hk0
  have hi' : s.fieldFound? ref (T kk).2.1 (T kk).2.2.1 = some (cf, kf, fi, f) := by rw [← href]; exact hi
  have hlay := cx.2.2.2.2.2.2.2.2.1 _ (hin _ (u_in_lay hk0))
  have hst := (u_facts hfc hkC (u_lays cx.2.2.2.2.2.2.2.2.1 hin hk0) hi).1
  have fin : ∀ H' : Heap, H'[a]? = some (cell.setSlot f.slot v) → H'.size = H.size → (∀ x, x ≠ a → H'[x]? = H[x]?) → W p G.1 e R s m args below meth c H' (locs ++ [⟨a, f.slot⟩]) cells slots (X.2.2.2.2.2.2.2.2 below args s) (F0 m (pc + 3) ls st) := by
    intro H' e1 e2 e3
    rw [hsl] at e1 ⊢
    have he : va_at G.2.1 wCl (a, .inr (ci, fs.set kk v)) H' := ⟨_, hc, t_OB.to (V := updV (vp_V fs) kk v) ⟨_, e1, q2, q3, t_set q4 hap hk0 v⟩ (fun j _ => vp_updV_set hlen v j)⟩
    exact k1 p e R s m args below meth c H' _ cells slots ls cx hl (hm.put hM he e3) (hS.put e2 e3 (hm.2.1 _ _ _ hM).2) hk hn
  unfold u_lay at hlay
  rcases hfin with hfin | ⟨hin2, hdecl⟩
  · rw [if_neg (by rw [hfin]; decide)] at hlay
    have h6 := u_store hfc hkC hkind hlay hi (hty kk hk0) hn0 hfit
    exact W.putK cx.1 cx.2.1 (f := f) ⟨cx.own, cx.ts hlk rfl, ⟨_, _, _, hi'⟩, hst⟩ (by rw [q2]; exact h6) q1 q3 (by rw [hsl]; exact k2_hasslot (q4 kk hk0)) rfl rfl dg fin
  · cases hf0 : (T kk).2.2.2
    · rw [if_neg (by rw [hf0]; decide)] at hlay
      have h6 := u_store hfc hkC hkind hlay hi (hty kk hk0) hn0 hfit
      exact W.putK cx.1 cx.2.1 (f := f) ⟨cx.own, cx.ts hlk rfl, ⟨_, _, _, hi'⟩, hst⟩ (by rw [q2]; exact h6) q1 q3 (by rw [hsl]; exact k2_hasslot (q4 kk hk0)) rfl rfl dg fin
    · rw [if_pos hf0] at hlay
      have hcf : m.cls = cf := by
        obtain ⟨_, _, c', _, _, _, -, -, hf', -, -, -, hown2, -⟩ := Cond.laysFinal_spec hlay
        have e1 : c' = cf := by have := hi.symm.trans hf'; simp at this; exact this.1.symm
        rw [hdecl] at hown2
        rw [← e1]; exact Option.some.inj (cx.own.symm.trans hown2)
      have h6 := u_fits hfc hkC hkind (Or.inr hlay) hi (hty kk hk0) hn0 hfit
      exact W.putFinK cx.1 cx.2.1 cx.own (cx.ts hlk rfl) hi' hst hcf (by rw [cx.2.2.2.2.2.2.2.1]; exact hin2) (by rw [q2]; exact h6) q1 q3 (by rw [hsl]; exact k2_hasslot (q4 kk hk0)) rfl rfl dg fin
theorem r_iald {o : Ob} {a len : Nat} {f : Nat → Int32} {i : Int32} (hM : M o = some (a, .inl (G.2.2.1 0, len, .inl f))) (hin : vp_in i len) (dg : decode X.2.1 pc = .ok (.iaload, 1)) (hq : pc + 1 = q) (k1 : AW G X d k n q lv (.int (f i.toNatClampNeg) :: st) M) : AW G X d k n pc lv (.int i :: .ref a :: st) M := by
  intro p e R s m args below meth c H locs cells slots ls cx hl hm hS hk hn
  subst hq
  exact va_iald cx.1 cx.2.1 hm.1 (hm.at1 hM) 0 0 rfl rfl hin dg (k1 p e R s m args below meth c H locs cells slots ls cx hl hm hS hk hn)
theorem r_bald {o : Ob} {a len : Nat} {f : Nat → Int32} {i : Int32} (hM : M o = some (a, .inl (G.2.2.1 3, len, .inl f))) (hin : vp_in i len) (dg : decode X.2.1 pc = .ok (.baload, 1)) (hq : pc + 1 = q) (k1 : AW G X d k n q lv (.int (f i.toNatClampNeg) :: st) M) : AW G X d k n pc lv (.int i :: .ref a :: st) M := by
  intro p e R s m args below meth c H locs cells slots ls cx hl hm hS hk hn
  subst hq
  exact va_bald cx.1 cx.2.1 hm.1 (hm.at1 hM) 0 3 rfl rfl hin dg (k1 p e R s m args below meth c H locs cells slots ls cx hl hm hS hk hn)
theorem r_lald {o : Ob} {a len : Nat} {f : Nat → Int64} {i : Int32} (hM : M o = some (a, .inl (G.2.2.1 1, len, .inr (.inl f)))) (hin : vp_in i len) (dg : decode X.2.1 pc = .ok (.laload, 1)) (hq : pc + 1 = q) (k1 : AW G X d k n q lv (.long (f i.toNatClampNeg) :: st) M) : AW G X d k n pc lv (.int i :: .ref a :: st) M := by
  intro p e R s m args below meth c H locs cells slots ls cx hl hm hS hk hn
  subst hq
  exact va_lald cx.1 cx.2.1 hm.1 (hm.at1 hM) 0 1 rfl rfl hin dg (k1 p e R s m args below meth c H locs cells slots ls cx hl hm hS hk hn)
theorem r_dald {o : Ob} {a len : Nat} {f : Nat → UInt64} {i : Int32} (hM : M o = some (a, .inl (G.2.2.1 2, len, .inr (.inr (.inr (.inl f)))))) (hin : vp_in i len) (dg : decode X.2.1 pc = .ok (.daload, 1)) (hq : pc + 1 = q) (k1 : AW G X d k n q lv (.double (f i.toNatClampNeg) :: st) M) : AW G X d k n pc lv (.int i :: .ref a :: st) M := by
  intro p e R s m args below meth c H locs cells slots ls cx hl hm hS hk hn
  subst hq
  exact va_dald cx.1 cx.2.1 hm.1 (hm.at1 hM) 0 2 rfl rfl hin dg (k1 p e R s m args below meth c H locs cells slots ls cx hl hm hS hk hn)
theorem r_aald {o : Ob} {a len : Nat} {f : Nat → Option Nat} {i : Int32} (hM : M o = some (a, .inl (G.2.2.1 4, len, .inr (.inr (.inr (.inr f)))))) (hin : vp_in i len) (dg : decode X.2.1 pc = .ok (.aaload, 1)) (hq : pc + 1 = q) (k1 : AW G X d k n q lv (va_rf (f i.toNatClampNeg) :: st) M) : AW G X d k n pc lv (.int i :: .ref a :: st) M := by
  intro p e R s m args below meth c H locs cells slots ls cx hl hm hS hk hn
  subst hq
  exact va_aldq cx.1 cx.2.1 hm.1 (hm.at1 hM) 0 4 rfl rfl hin dg (k1 p e R s m args below meth c H locs cells slots ls cx hl hm hS hk hn)
theorem r_iast {o : Ob} {a len : Nat} {f : Nat → Int32} {i x : Int32} (hM : M o = some (a, .inl (G.2.2.1 0, len, .inl f))) (hin : vp_in i len) (dg : decode X.2.1 pc = .ok (.iastore, 1)) (hq : pc + 1 = q)
    (k1 : AW G X d k n q lv st (fun y => if y = o then some (a, .inl (G.2.2.1 0, len, .inl (upd f i.toNatClampNeg x))) else M y)) : AW G X d k n pc lv (.int x :: .int i :: .ref a :: st) M := by
  intro p e R s m args below meth c H locs cells slots ls cx hl hm hS hk hn
  subst hq
  refine W.iast cx.1 cx.2.1 (hm.at1 hM 0 _ rfl) ((hm.1.2 0 _ rfl).1 len (fun j => .int (f j))) (fun q => by cases q) (by show ¬ (i < 0 ∨ (arrV _ _ _).slots.size ≤ _); rw [arrV_size]; exact hin) rfl rfl dg fun H1 e1 z oq => ?_
  refine k1 p e R s m args below meth c H1 _ cells slots ls cx hl (hm.put hM ?_ oq) (hS.put z oq (hm.2.1 _ _ _ hM).2) hk hn
  show H1[a]? = some (vp_cell _ _)
  rw [e1]
  rw [vp_cell_i, vp_cell_i, arrV_store]
  congr 2
  funext y
  by_cases hy : y = i.toNatClampNeg
  · subst hy
    simp [updV, upd]
  · simp [updV, upd, hy]
theorem r_bast {o : Ob} {a len : Nat} {f : Nat → Int32} {i x : Int32} (hM : M o = some (a, .inl (G.2.2.1 3, len, .inl f))) (hin : vp_in i len) (dg : decode X.2.1 pc = .ok (.bastore, 1)) (hq : pc + 1 = q)
    (k1 : AW G X d k n q lv st (fun y => if y = o then some (a, .inl (G.2.2.1 3, len, .inl (upd f i.toNatClampNeg (vp_nar .byte x)))) else M y)) : AW G X d k n pc lv (.int x :: .int i :: .ref a :: st) M := by
  intro p e R s m args below meth c H locs cells slots ls cx hl hm hS hk hn
  subst hq
  refine W.bast cx.1 cx.2.1 (hm.at1 hM 0 _ rfl) ((hm.1.2 3 _ rfl).1 len (fun j => .int (f j))) (fun q => by cases q) (by show ¬ (i < 0 ∨ (arrV _ _ _).slots.size ≤ _); rw [arrV_size]; exact hin) rfl rfl dg fun H1 e1 z oq => ?_
  refine k1 p e R s m args below meth c H1 _ cells slots ls cx hl (hm.put hM ?_ oq) (hS.put z oq (hm.2.1 _ _ _ hM).2) hk hn
  show H1[a]? = some (vp_cell _ _)
  rw [e1]
  rw [vp_cell_i, vp_cell_i, arrV_store]
  congr 2
  funext y
  by_cases hy : y = i.toNatClampNeg
  · subst hy
    simp [updV, upd, vp_nar]
    try rfl
  · simp [updV, upd, hy]
theorem r_last {o : Ob} {a len : Nat} {f : Nat → Int64} {i : Int32} {x : Int64} (hM : M o = some (a, .inl (G.2.2.1 1, len, .inr (.inl f)))) (hin : vp_in i len) (dg : decode X.2.1 pc = .ok (.lastore, 1)) (hq : pc + 1 = q)
    (k1 : AW G X d k n q lv st (fun y => if y = o then some (a, .inl (G.2.2.1 1, len, .inr (.inl (vp_updL f i.toNatClampNeg x)))) else M y)) : AW G X d k n pc lv (.long x :: .int i :: .ref a :: st) M := by
  intro p e R s m args below meth c H locs cells slots ls cx hl hm hS hk hn
  subst hq
  refine W.last cx.1 cx.2.1 (hm.at1 hM 0 _ rfl) ((hm.1.2 1 _ rfl).1 len (fun j => .long (f j))) (fun q => by cases q) (by show ¬ (i < 0 ∨ (arrV _ _ _).slots.size ≤ _); rw [arrV_size]; exact hin) rfl rfl dg fun H1 e1 z oq => ?_
  refine k1 p e R s m args below meth c H1 _ cells slots ls cx hl (hm.put hM ?_ oq) (hS.put z oq (hm.2.1 _ _ _ hM).2) hk hn
  show H1[a]? = some (vp_cell _ _)
  rw [e1]
  rw [vp_cell_l, vp_cell_l, arrV_store]
  congr 2
  funext y
  by_cases hy : y = i.toNatClampNeg
  · subst hy
    simp [updV, vp_updL]
  · simp [updV, vp_updL, hy]
theorem r_dast {o : Ob} {a len : Nat} {f : Nat → UInt64} {i : Int32} {x : UInt64} (hM : M o = some (a, .inl (G.2.2.1 2, len, .inr (.inr (.inr (.inl f)))))) (hin : vp_in i len) (dg : decode X.2.1 pc = .ok (.dastore, 1)) (hq : pc + 1 = q)
    (k1 : AW G X d k n q lv st (fun y => if y = o then some (a, .inl (G.2.2.1 2, len, .inr (.inr (.inr (.inl (vf_upd f i.toNatClampNeg x)))))) else M y)) : AW G X d k n pc lv (.double x :: .int i :: .ref a :: st) M := by
  intro p e R s m args below meth c H locs cells slots ls cx hl hm hS hk hn
  subst hq
  refine W.dast cx.1 cx.2.1 (hm.at1 hM 0 _ rfl) ((hm.1.2 2 _ rfl).1 len (fun j => .double (f j))) (fun q => by cases q) (by show ¬ (i < 0 ∨ (arrV _ _ _).slots.size ≤ _); rw [arrV_size]; exact hin) rfl rfl dg fun H1 e1 z oq => ?_
  refine k1 p e R s m args below meth c H1 _ cells slots ls cx hl (hm.put hM ?_ oq) (hS.put z oq (hm.2.1 _ _ _ hM).2) hk hn
  show H1[a]? = some (vp_cell _ _)
  rw [e1]
  rw [vp_cell_d, vp_cell_d, arrV_store]
  congr 2
  funext y
  by_cases hy : y = i.toNatClampNeg
  · subst hy
    simp [updV, vf_upd]
  · simp [updV, vf_upd, hy]
theorem r_aast {o o2 : Ob} {a b len : Nat} {vs : List Value} {f : Nat → Option Nat} {i : Int32} (hM : M o = some (a, .inl (G.2.2.1 4, len, .inr (.inr (.inr (.inr f)))))) (hv : M o2 = some (b, .inr (4, vs))) (hin : vp_in i len) (dg : decode X.2.1 pc = .ok (.aastore, 1)) (hq : pc + 1 = q)
    (k1 : AW G X d k n q lv st (fun y => if y = o then some (a, .inl (G.2.2.1 4, len, .inr (.inr (.inr (.inr (va_up f i.toNatClampNeg (some b))))))) else M y)) : AW G X d k n pc lv (.ref b :: .int i :: .ref a :: st) M := by
  intro p e R s m args below meth c H locs cells slots ls cx hl hm hS hk hn
  subst hq
  have hlt : i.toNatClampNeg < len := Nat.not_le.mp fun q => hin (Or.inr q)
  have h0 : ¬ i < 0 := fun q => hin (Or.inl q)
  obtain ⟨r', hr', cellV, g1, g2, g3, -⟩ := hm.at1 hv 0 _ rfl
  have hcls := (hm.1.1 4 (RX5, TX5, 17) rfl).2
  obtain ⟨kA, comp, k1', k2, k3, -⟩ := (hm.1.2 4 _ rfl).2
  have hcomp : comp = G.2.1.1 4 := Option.some.inj (k3.symm.trans hcls.1)
  subst hcomp
  obtain ⟨kC, hkC, -⟩ := hcls.2
  refine W.aast cx.1 cx.2.1 (hm.at1 hM 0 _ rfl) (fun q h => by cases h) (fun h => by cases h) k1' k2 rfl hkC ⟨h0, by show _ < (arrV _ _ _).slots.size; rw [arrV_size]; exact hlt⟩ g1 (fun q h => by rw [g3] at h; cases h) (by rw [g2]; exact hkC) (by rw [g2]; exact va_assign hcls) rfl rfl dg fun H1 e1 z oq => ?_
  refine k1 p e R s m args below meth c H1 _ cells slots ls cx hl (hm.put hM ?_ oq) (hS.put z oq (hm.2.1 _ _ _ hM).2) hk hn
  show H1[a]? = some (vp_cell _ _)
  rw [e1]
  rw [vp_cell_q, vp_cell_q, arrV_store]
  congr 2
  funext y
  by_cases hy : y = i.toNatClampNeg
  · subst hy
    simp [updV, va_up, va_rf]
  · simp [updV, va_up, hy]
theorem r_alen {o : Ob} {a : Nat} {t : Nat} {cA : ClassId} {ty : FieldType} {x : vp_A} {v : Int32} (hM : M o = some (a, .inl (cA, x))) (ht : (wTys G)[t]? = some (cA, ty)) (hv : Int32.ofNat x.1 = v) (dg : decode X.2.1 pc = .ok (.arraylength, 1)) (hq : pc + 1 = q) (k1 : AW G X d k n q lv (.int v :: st) M) : AW G X d k n pc lv (.ref a :: st) M := by
  intro p e R s m args below meth c H locs cells slots ls cx hl hm hS hk hn
  subst hq
  exact va_alen cx.1 cx.2.1 hm.1 (hm.at1 hM) 0 t rfl ht hv dg (k1 p e R s m args below meth c H locs cells slots ls cx hl hm hS hk hn)
theorem wS_push {A : Nat → Prop} {H0 H H1 : Heap} {locs : List Loc} (hS : va_S A H0 H locs) (z : H.size ≤ H1.size) (o1 : ∀ x, x < H.size → H1[x]? = H[x]?) : va_S A H0 H1 locs :=
  ⟨Nat.le_trans hS.1 z, fun x h1 h2 => (o1 x (Nat.lt_of_lt_of_le h1 hS.1)).trans (hS.2.1 x h1 h2), hS.2.2⟩
/-- a new object: its cell gets a name -/
theorem r_new {ix i1 i2 i3 ci N : Nat} (o : Ob) {fs : List Value} {C : String} {T : u_T} {ty0 : Nat → FieldType} (hM : M o = none) (hc : wCl[ci]? = some (C, T, N)) (hin : ∀ w ∈ u_ws C T N, w ∈ wG) (hty : ∀ k, k < N → parseFieldDescriptor (T k).2.2.1 = some (ty0 k)) (h1 : lw_tbl[i1]? = some (.classLink X.1 ix C)) (h2 : lw_tbl[i2]? = some (.instantiable C N)) (h3 : lw_tbl[i3]? = some (.initialized C)) (hfs : ∀ j, j < N → defaultValue (ty0 j) = vp_V fs j) (dg : decode X.2.1 pc = .ok (.new ix, 3)) (hq : pc + 3 = q)
    (k1 : ∀ a : Nat, AW G X d k n q lv (.ref a :: st) (fun y => if y = o then some (a, .inr (ci, fs)) else M y)) : AW G X d (k + 1) (n + N) pc lv st M := by
  intro p e R s m args below meth c H locs cells slots ls cx hl hm hS hk hn
  subst hq
  have hKn := hm.1.1 ci _ hc
  have hRc := cx.2.2.2.2.2.2.2.2.2.2.2.2.2.1
  have hRs := cx.2.2.2.2.2.2.2.2.2.2.2.2.2.2
  refine W.newcK cx.1 cx.2.1 cx.own (cx.ts h1 rfl) (cx.ts h2 rfl) (cx.ts h3 rfl) rfl dg (by omega) (by omega) hKn.2.1 rfl fun H1 kC hkC e1 z1 o1 => ?_
  refine k1 H.size p e R s m args below meth c H1 locs (cells + 1) (slots + N) ls cx hl (hm.new hM rfl ?_ ?_ o1) (wS_push hS (by omega) o1) (by omega) (by omega)
  · exact Nat.le_trans cx.2.2.2.2.2.2.2.2.2.2.1 hS.1
  · exact ⟨_, hc, (u_born ty0 cx.2.2.2.2.2.2.2.2.1 hin hKn hkC e1 hty).to hfs⟩
theorem r_newa {t i1 N : Nat} (o : Ob) {atype : ArrayType} {ty : FieldType} {cA : ClassId} {a0 : vp_A} {z : Int32} (hM : M o = none) (hty : newarray.typeOf atype = ty) (hprim : ∀ C, ty ≠ .object C) (ht : (wTys G)[t]? = some (cA, ty)) (h1 : lw_tbl[i1]? = some (.arrayClass ty)) (ha : ∀ cA : ClassId, vp_cell cA a0 = arrV cA N (fun _ => defaultValue ty)) (h0 : ¬ z < 0) (hN : z.toNatClampNeg = N) (hbytes : N * componentBytes ty ≤ 536870912) (dg : decode X.2.1 pc = .ok (.newarray atype, 2)) (hq : pc + 2 = q)
    (k1 : ∀ a : Nat, AW G X d k n q lv (.ref a :: st) (fun y => if y = o then some (a, .inl (cA, a0)) else M y)) : AW G X d (k + 1) (n + N) pc lv (.int z :: st) M := by
  intro p e R s m args below meth c H locs cells slots ls cx hl hm hS hk hn
  subst hq
  subst hty
  have hRc := cx.2.2.2.2.2.2.2.2.2.2.2.2.2.1
  have hRs := cx.2.2.2.2.2.2.2.2.2.2.2.2.2.2
  refine va_newaK cx.1 cx.2.1 (cx.ts h1 rfl) rfl dg rfl h0 hN hbytes (by omega) (by omega) rfl fun H1 cB e1 z1 o1 hAr hNm => ?_
  have hcB : cB = cA := by
    have h9 := (hm.1.2 t _ ht).2
    have h8 : s.vm.findClass ("[" ++ (newarray.typeOf atype).toString) = some cA := by
      cases atype <;> exact h9
    exact Option.some.inj (hNm.symm.trans h8)
  subst hcB
  refine k1 H.size p e R s m args below meth c H1 locs (cells + 1) (slots + N) ls cx hl (hm.new hM rfl ?_ ?_ o1) (wS_push hS (by omega) o1) (by omega) (by omega)
  · exact Nat.le_trans cx.2.2.2.2.2.2.2.2.2.2.1 hS.1
  · show H1[H.size]? = some (vp_cell _ _)
    rw [ha]
    exact e1
theorem r_newq {ix i1 N : Nat} (o : Ob) {z : Int32} (hM : M o = none) (h1 : lw_tbl[i1]? = some (.classLink X.1 ix RX5)) (h0 : ¬ z < 0) (hN : z.toNatClampNeg = N) (hbytes : N * 4 ≤ 536870912) (dg : decode X.2.1 pc = .ok (.anewarray ix, 3)) (hq : pc + 3 = q)
    (k1 : ∀ a : Nat, AW G X d k n q lv (.ref a :: st) (fun y => if y = o then some (a, .inl (G.2.2.1 4, N, .inr (.inr (.inr (.inr (fun _ => none)))))) else M y)) : AW G X d (k + 1) (n + N) pc lv (.int z :: st) M := by
  intro p e R s m args below meth c H locs cells slots ls cx hl hm hS hk hn
  subst hq
  subst hN
  have hRc := cx.2.2.2.2.2.2.2.2.2.2.2.2.2.1
  have hRs := cx.2.2.2.2.2.2.2.2.2.2.2.2.2.2
  have hE := cx.2.2.2.2.2.2.2.2.2.1
  refine W.anew cx.1 cx.2.1 cx.own (cx.ts h1 rfl) (va_AO.use hE.2.1) rfl dg rfl h0 hbytes (by omega) (by omega) fun cB kA comp f1 f2 f3 f4 => ?_
  have hcB : cB = G.2.2.1 4 := by
    obtain ⟨_, _, _, _, _, h9⟩ := (hm.1.2 4 _ rfl).2
    first | exact Option.some.inj (f1.symm.trans h9) | exact Option.some.inj (f2.symm.trans h9) | exact Option.some.inj (f3.symm.trans h9) | exact Option.some.inj (f4.symm.trans h9)
  subst hcB
  generalize hH1 : H.push ({ cls := G.2.2.1 4, slots := Array.replicate z.toNatClampNeg .null, vm := .none } : Cell) = H1
  have z1 : H1.size = H.size + 1 := by rw [← hH1, Array.size_push]
  have e1 : H1[H.size]? = some (arrV (G.2.2.1 4) z.toNatClampNeg (fun _ => .null)) := by rw [← hH1, Array.getElem?_push_size, ← arrV_new]
  have o1 : ∀ q : Nat, q < H.size → H1[q]? = H[q]? := fun q hq => by rw [← hH1, Array.getElem?_push, if_neg (Nat.ne_of_lt hq)]
  refine k1 H.size p e R s m args below meth c H1 locs (cells + 1) (slots + z.toNatClampNeg) ls cx hl (hm.new hM rfl ?_ ?_ o1) (wS_push hS (by omega) o1) (by omega) (by omega)
  · exact Nat.le_trans cx.2.2.2.2.2.2.2.2.2.2.1 hS.1
  · show H1[H.size]? = some (vp_cell _ _)
    rw [vp_cell_q]
    exact e1
theorem r_gets {ix i : Nat} {C f ds : String} {v : Value} (hZ : ∀ s : State, wEnv G s s.heap → va_Z C f ds v (wA G) s s.heap) (hlk : lw_tbl[i]? = some (.fieldLink X.1 ix C f ds)) (dg : decode X.2.1 pc = .ok (.getstatic ix, 3)) (hq : pc + 3 = q) (k1 : AW G X d k n q lv (v :: st) M) : AW G X d k n pc lv st M := by
  intro p e R s m args below meth c H locs cells slots ls cx hl hm hS hk hn
  subst hq
  exact va_gets cx.1 cx.2.1 (hZ s cx.2.2.2.2.2.2.2.2.2.1) hS cx.own (cx.ts hlk rfl) (fun _ h => h) dg (k1 p e R s m args below meth c H locs cells slots ls cx hl hm hS hk hn)
theorem AW.less {k' n' : Nat} (h1 : k' ≤ k) (h2 : n' ≤ n) (h : AW G X d k' n' pc lv st M) : AW G X d k n pc lv st M := fun p e R s m args below meth c H locs cells slots ls cx hl hm hS hk hn =>
  h p e R s m args below meth c H locs cells slots ls cx hl hm hS (by omega) (by omega)
end WRM
