/-! THE LAW: its end -/
section W99h
variable {G : En} {tb : List ExceptionTableEntry × String}
/-- the end in any room, from any arguments -/
theorem lw_retG {p : Program} {l : Launch} {e : Env} {R : Room} {s : State} {m : MethodId} {args : Array Value} {below : List Frame} {meth : Method} {c : Code} {d0 : Drawn} (hd0 : s.drawn.sameBut d0 lw_cs) (hx : p.tables.exec = Jvm.exec) (hb : c.code = code) (hr : meth.sig.returnType = ret) (hlocks : meth.locks = false) {pc : Nat} {H : Heap} {ls : Array Slot} (hdg : decode code pc = .ok (.ireturn, 1)) : W p l e R (s.setDrawn d0) m args below meth c H [] 603072 7194730 (lw_Z below args s) (F0 m pc ls [.int 1]) := by
  intro T hT X
  obtain ⟨fs, hret, hrun, hended, hW, hframe⟩ := X.leave (v := some (.int 1)) (hlocks := hlocks) (fun h => by rw [hr] at h; cases h)
  have hmeth' : T.vm.method? m = some meth := X.method'
  refine ⟨T.setFrames fs, ?_, .returned (some (.int 1)), hrun, hended, rfl, lw_closed hd0 ⟨_, rfl⟩ hW hframe⟩
  jvm_step X.here [X.here.top, hx, hb, hdg, hmeth', hr, ret, narrow_b1]
  (try refine ⟨rfl, ?_⟩); (try refine ⟨rfl, ?_⟩)
  first | (intro acts; rw [hret _ acts rfl rfl rfl]) | rw [hret _ _ rfl rfl rfl]
  exact Steps.refl _
def lw_ZG (G : En) (below : List Frame) (args : Array Value) (s t : State) : Prop := s.heap.size ≤ G.2.2.2.1 → lw_Z below args s t
theorem law_end {Λ : Ob → Nat} {ao ad i : Nat} {M : Me} : AW G (XL tb 603072 7194730 (lw_ZG G)) 15 0 0 2117 (lvl G Λ ao ad i) [] M := by
  refine r_iconst (v := 1) (q := 2118) dL_law_2117 (by decide) rfl ?_
  intro p e R s m args below meth c H locs cells slots ls cx hl hm hS hk hn
  by_cases h : s.heap.size ≤ G.2.2.2.1
  · have hx := cx.1
    have hb : c.code = code := cx.2.1
    have hr : meth.sig.returnType = ret := cx.2.2.2.2.2.1
    have hlk := cx.2.2.2.2.1
    have w0 : W p G.1 e R s m args below meth c H [] 603072 7194730 (lw_Z below args s) (F0 m 2118 ls [.int 1]) := W.base (lw_retG (d0 := s.drawn) (Drawn.sameBut.refl s.drawn lw_cs) hx hb hr hlk dL_law_2118)
    have w1 : W p G.1 e R s m args below meth c H locs cells slots (lw_Z below args s) (F0 m 2118 ls [.int 1]) := va_forget (fun q hq => Nat.le_trans h (hS.2.2 q hq)) (W.widen hk hn w0)
    intro T hT X
    obtain ⟨t, a1, a2⟩ := w1 T hT X
    exact ⟨t, a1, fun _ => a2⟩
  · intro T hT X
    exact ⟨_, Steps.refl _, fun g => absurd g h⟩
/-- from the entry to the end -/
theorem law_all (hl : scL G ≤ 2048) : AW G (XL tb 603072 7194730 (lw_ZG G)) 15 603072 7194730 0 [some (.ref (scA G)), none, none, none, none, none, none, none, none] [] (fun _ => none) :=
  law_start hl fun _ _ _ _ _ _ _ _ => law_end
end W99h
