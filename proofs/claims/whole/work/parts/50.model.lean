/-! THE MODEL: its picture, rules -/
section W50
abbrev Mg : Type := (Nat → Nat → Nat) × (Nat → Int32)
def gA (μ : Mg) (i j : Nat) : Nat := μ.1 i j
def gN (μ : Mg) (k : Nat) : Int32 := μ.2 k
def sA (μ : Mg) (i : Nat) (F : Nat → Nat) : Mg := (fun i' => if i' = i then F else μ.1 i', μ.2)
def sN (μ : Mg) (k : Nat) (v : Int32) : Mg := (μ.1, fun k' => if k' = k then v else μ.2 k')
def uN (F : Nat → Nat) (j x : Nat) : Nat → Nat := fun j' => if j' = j then x else F j'
theorem gN_sN {μ : Mg} {k k' : Nat} {v : Int32} : gN (sN μ k v) k' = if k' = k then v else gN μ k' := rfl
theorem gN_sA {μ : Mg} {i k : Nat} {F : Nat → Nat} : gN (sA μ i F) k = gN μ k := rfl
theorem gA_sN {μ : Mg} {i j k : Nat} {v : Int32} : gA (sN μ k v) i j = gA μ i j := rfl
theorem gA_s {μ : Mg} {i : Nat} {F : Nat → Nat} : gA (sA μ i F) i = F := by funext j; show (if i = i then F else μ.1 i) j = F j; rw [if_pos rfl]
theorem gA_n {μ : Mg} {i i' : Nat} {F : Nat → Nat} (h : i' ≠ i) : gA (sA μ i F) i' = gA μ i' := by funext j; show (if i' = i then F else μ.1 i') j = μ.1 i' j; rw [if_neg h]
theorem sA_sA {μ : Mg} {i : Nat} {F F' : Nat → Nat} : sA (sA μ i F) i F' = sA μ i F' := by
  refine Prod.ext (funext fun i' => ?_) rfl
  show (if i' = i then F' else if i' = i then F else μ.1 i') = if i' = i then F' else μ.1 i'
  split <;> rfl
theorem sA_self {μ : Mg} {i : Nat} : sA μ i (gA μ i) = μ := by
  refine Prod.ext (funext fun i' => ?_) rfl
  show (if i' = i then μ.1 i else μ.1 i') = μ.1 i'
  split
  · rename_i e; rw [e]
  · rfl
theorem sA_comm {μ : Mg} {i i' : Nat} {F F' : Nat → Nat} (h : i ≠ i') : sA (sA μ i F) i' F' = sA (sA μ i' F') i F := by
  refine Prod.ext (funext fun z => ?_) rfl
  show (if z = i' then F' else if z = i then F else μ.1 z) = if z = i then F else if z = i' then F' else μ.1 z
  by_cases h1 : z = i' <;> by_cases h2 : z = i
  · exact absurd (h2.symm.trans h1) h
  · rw [if_pos h1, if_neg h2, if_pos h1]
  · rw [if_neg h1, if_pos h2, if_pos h2]
  · rw [if_neg h1, if_neg h2, if_neg h2, if_neg h1]
def mLen : Nat → Nat
  | 0 => 640
  | 1 => 640
  | 2 => 640
  | 3 => 5120
  | 4 => 1100
  | 5 => 1101
  | 6 => 1100
  | 7 => 60
  | 8 => 60
  | _ => 180
theorem mLen_lt (i : Nat) : mLen i ≤ 5120 := by unfold mLen; split <;> decide
def mF (Λ : Ob → Nat) (μ : Mg) : List Value := [.ref (Λ (11, 0, 0)), .ref (Λ (11, 1, 0)), .ref (Λ (11, 2, 0)), .ref (Λ (11, 3, 0)), .int (gN μ 4), .int (gN μ 5), .int (gN μ 6), .int (gN μ 7), .int (gN μ 8), .int (gN μ 9), .int (gN μ 10), .int (gN μ 11), .int (gN μ 12), .ref (Λ (11, 4, 0)), .ref (Λ (11, 5, 0)), .int (gN μ 15), .ref (Λ (11, 6, 0)), .int (gN μ 17), .ref (Λ (11, 7, 0)), .ref (Λ (11, 8, 0)), .ref (Λ (11, 9, 0)), .int (gN μ 21), .int (gN μ 22), .int (gN μ 23), .int (gN μ 24), .int (gN μ 25), .int (gN μ 26)]
def AR (G : En) (Λ : Ob → Nat) (i : Nat) (F : Nat → Nat) (M : Me) : Prop := (∀ j, j < mLen i → F j < 2 ^ 31) ∧ ∃ f : Nat → Int32, M (11, i, 0) = some (Λ (11, i, 0), .inl (G.2.2.1 0, mLen i, .inl f)) ∧ ∀ j, j < mLen i → f j = nI (F j)
def RM (G : En) (Λ : Ob → Nat) (ρ : Me) (μ : Mg) (M : Me) : Prop := M (10, 0, 0) = some (Λ (10, 0, 0), .inr (6, mF Λ μ)) ∧ (∀ i, i < 10 → AR G Λ i (gA μ i) M) ∧ ∀ o : Ob, o.1 ≠ 10 → o.1 ≠ 11 → M o = ρ o
variable {G : En} {Λ : Ob → Nat} {ρ : Me} {μ : Mg} {M : Me} {X : Fx} {d k n pc q : Nat} {lv : List (Option Value)} {st : List Value} {Q : Option Value → Me → Prop} {QX : String → Me → Prop}
theorem RM.m (h : RM G Λ ρ μ M) : M (10, 0, 0) = some (Λ (10, 0, 0), .inr (6, mF Λ μ)) := h.1
theorem RM.lt (h : RM G Λ ρ μ M) {i j : Nat} (hi : i < 10) (hj : j < mLen i) : gA μ i j < 2 ^ 31 := (h.2.1 i hi).1 j hj
theorem AR.ext {i : Nat} {F F' : Nat → Nat} (h : AR G Λ i F M) (he : ∀ j, j < mLen i → F' j = F j) : AR G Λ i F' M := by
  obtain ⟨h1, f, h2, h3⟩ := h
  exact ⟨fun j hj => by rw [he j hj]; exact h1 j hj, f, h2, fun j hj => by rw [he j hj]; exact h3 j hj⟩
theorem RM.ext {μ' : Mg} (h : RM G Λ ρ μ M) (h1 : ∀ i, i < 10 → ∀ j, j < mLen i → gA μ' i j = gA μ i j) (h2 : ∀ k, gN μ' k = gN μ k) : RM G Λ ρ μ' M := by
  obtain ⟨g1, g2, g3⟩ := h
  refine ⟨?_, fun i hi => (g2 i hi).ext (h1 i hi), g3⟩
  rw [g1]
  simp only [mF, h2]
theorem RM.extA {i : Nat} {F F' : Nat → Nat} (h : RM G Λ ρ (sA μ i F) M) (he : ∀ j, j < mLen i → F' j = F j) : RM G Λ ρ (sA μ i F') M := by
  refine h.ext (fun i' hi j hj => ?_) (fun _ => rfl)
  by_cases e : i' = i
  · subst e; rw [gA_s, gA_s]; exact he j hj
  · rw [gA_n e, gA_n e]
theorem RM.toA (h : RM G Λ ρ μ M) (i : Nat) : RM G Λ ρ (sA μ i (gA μ i)) M := by rw [sA_self]; exact h
theorem AR.kept {i : Nat} {F : Nat → Nat} {M' : Me} (h : AR G Λ i F M) (h2 : M' (11, i, 0) = M (11, i, 0)) : AR G Λ i F M' := by
  obtain ⟨g1, f, g2, g3⟩ := h
  exact ⟨g1, f, h2.trans g2, g3⟩
theorem r_ialdM {i j : Nat} (h : RM G Λ ρ μ M) (hi : i < 10) (hj : j < mLen i) (dg : decode X.2.1 pc = .ok (.iaload, 1)) (hq : pc + 1 = q) (k1 : AW G X d k n q lv (.int (nI (gA μ i j)) :: st) M) : AW G X d k n pc lv (.int (nI j) :: .ref (Λ (11, i, 0)) :: st) M := by
  obtain ⟨g1, f, g2, g3⟩ := h.2.1 i hi
  have hl := mLen_lt i
  refine r_iald g2 (vp_in_nI hj (by omega)) dg hq ?_
  rw [nI_clamp (by omega), g3 j hj]
  exact k1
theorem RM.setA (h : RM G Λ ρ μ M) {i : Nat} {F : Nat → Nat} {M' : Me} (hi : i < 10) (hw : AR G Λ i F M') (ho : ∀ o : Ob, o ≠ (11, i, 0) → M' o = M o) : RM G Λ ρ (sA μ i F) M' := by
  obtain ⟨g1, g2, g3⟩ := h
  refine ⟨(ho _ (by simp)).trans g1, fun i' hi' => ?_, fun o h10 h11 => (ho o (fun e => h11 (by rw [e]))).trans (g3 o h10 h11)⟩
  by_cases e : i' = i
  · subst e; rw [gA_s]; exact hw
  · rw [gA_n e]
    exact (g2 i' hi').kept (ho _ (by simp [e]))
theorem r_iastM {i j x : Nat} (h : RM G Λ ρ μ M) (hi : i < 10) (hj : j < mLen i) (hx : x < 2 ^ 31) (dg : decode X.2.1 pc = .ok (.iastore, 1)) (hq : pc + 1 = q) (k1 : ∀ M', RM G Λ ρ (sA μ i (uN (gA μ i) j x)) M' → AW G X d k n q lv st M') : AW G X d k n pc lv (.int (nI x) :: .int (nI j) :: .ref (Λ (11, i, 0)) :: st) M := by
  obtain ⟨g1, f, g2, g3⟩ := h.2.1 i hi
  have hl := mLen_lt i
  refine r_iast' g2 (vp_in_nI hj (by omega)) dg hq fun M1 hM hO => k1 M1 (h.setA hi ⟨fun j' hj' => ?_, _, hM, fun j' hj' => ?_⟩ hO)
  · unfold uN
    split
    · exact hx
    · exact g1 j' hj'
  · rw [nI_clamp (by omega)]
    unfold upd uN
    split
    · rfl
    · exact g3 j' hj'
theorem RM.put (h : RM G Λ ρ μ M) {kk : Nat} {v : Int32} (hk : kk ∈ [4, 5, 6, 7, 8, 9, 10, 11, 12, 15, 17, 21, 22, 23, 24, 25, 26]) : RM G Λ ρ (sN μ kk v) (fun x => if x = (10, 0, 0) then some (Λ (10, 0, 0), .inr (6, (mF Λ μ).set kk (.int v))) else M x) := by
  obtain ⟨g1, g2, g3⟩ := h
  refine ⟨?_, fun i hi => (g2 i hi).kept (if_neg (by simp)), fun o h10 h11 => (if_neg (fun e => h10 (by rw [e]))).trans (g3 o h10 h11)⟩
  refine (if_pos rfl).trans ?_
  simp only [List.mem_cons, List.not_mem_nil, or_false] at hk
  rcases hk with rfl | rfl | rfl | rfl | rfl | rfl | rfl | rfl | rfl | rfl | rfl | rfl | rfl | rfl | rfl | rfl | rfl <;> rfl
theorem r_p9 {kk j ix i : Nat} {v : Int32} (h : RM G Λ ρ μ M) (hk : (j, kk) ∈ [(4, 4), (5, 5), (6, 6), (7, 7), (8, 8), (9, 9), (10, 10), (11, 11), (15, 15), (17, 17), (21, 21), (22, 22), (23, 23), (24, 24)]) (hq : pc + 3 = q) (hlk : lw_tbl[i]? = some (.fieldLink X.1 ix RX9 (TX9 kk).2.1 (TX9 kk).2.2.1)) (dg : decode X.2.1 pc = .ok (.putfield ix, 3)) (hz : d = d)
    (k1 : ∀ M', RM G Λ ρ (sN μ kk v) M' → AW G X d k n q lv st M') : AW G X d k n pc lv (.int v :: .ref (Λ (10, 0, 0)) :: st) M := by
  simp only [List.mem_cons, Prod.mk.injEq, List.not_mem_nil, or_false] at hk
  rcases hk with ⟨rfl, rfl⟩ | ⟨rfl, rfl⟩ | ⟨rfl, rfl⟩ | ⟨rfl, rfl⟩ | ⟨rfl, rfl⟩ | ⟨rfl, rfl⟩ | ⟨rfl, rfl⟩ | ⟨rfl, rfl⟩ | ⟨rfl, rfl⟩ | ⟨rfl, rfl⟩ | ⟨rfl, rfl⟩ | ⟨rfl, rfl⟩ | ⟨rfl, rfl⟩ | ⟨rfl, rfl⟩
  · exact r_put (kk := 4) (ty0 := tyX9) h.m rfl wi_RX9 tyX9_ok nmX9 (by decide) (Or.inl rfl) rfl hlk rfl rfl (Nat.le_of_ble_eq_true rfl) dg hq (k1 _ (h.put (by decide)))
  · exact r_put (kk := 5) (ty0 := tyX9) h.m rfl wi_RX9 tyX9_ok nmX9 (by decide) (Or.inl rfl) rfl hlk rfl rfl (Nat.le_of_ble_eq_true rfl) dg hq (k1 _ (h.put (by decide)))
  · exact r_put (kk := 6) (ty0 := tyX9) h.m rfl wi_RX9 tyX9_ok nmX9 (by decide) (Or.inl rfl) rfl hlk rfl rfl (Nat.le_of_ble_eq_true rfl) dg hq (k1 _ (h.put (by decide)))
  · exact r_put (kk := 7) (ty0 := tyX9) h.m rfl wi_RX9 tyX9_ok nmX9 (by decide) (Or.inl rfl) rfl hlk rfl rfl (Nat.le_of_ble_eq_true rfl) dg hq (k1 _ (h.put (by decide)))
  · exact r_put (kk := 8) (ty0 := tyX9) h.m rfl wi_RX9 tyX9_ok nmX9 (by decide) (Or.inl rfl) rfl hlk rfl rfl (Nat.le_of_ble_eq_true rfl) dg hq (k1 _ (h.put (by decide)))
  · exact r_put (kk := 9) (ty0 := tyX9) h.m rfl wi_RX9 tyX9_ok nmX9 (by decide) (Or.inl rfl) rfl hlk rfl rfl (Nat.le_of_ble_eq_true rfl) dg hq (k1 _ (h.put (by decide)))
  · exact r_put (kk := 10) (ty0 := tyX9) h.m rfl wi_RX9 tyX9_ok nmX9 (by decide) (Or.inl rfl) rfl hlk rfl rfl (Nat.le_of_ble_eq_true rfl) dg hq (k1 _ (h.put (by decide)))
  · exact r_put (kk := 11) (ty0 := tyX9) h.m rfl wi_RX9 tyX9_ok nmX9 (by decide) (Or.inl rfl) rfl hlk rfl rfl (Nat.le_of_ble_eq_true rfl) dg hq (k1 _ (h.put (by decide)))
  · exact r_put (kk := 15) (ty0 := tyX9) h.m rfl wi_RX9 tyX9_ok nmX9 (by decide) (Or.inl rfl) rfl hlk rfl rfl (Nat.le_of_ble_eq_true rfl) dg hq (k1 _ (h.put (by decide)))
  · exact r_put (kk := 17) (ty0 := tyX9) h.m rfl wi_RX9 tyX9_ok nmX9 (by decide) (Or.inl rfl) rfl hlk rfl rfl (Nat.le_of_ble_eq_true rfl) dg hq (k1 _ (h.put (by decide)))
  · exact r_put (kk := 21) (ty0 := tyX9) h.m rfl wi_RX9 tyX9_ok nmX9 (by decide) (Or.inl rfl) rfl hlk rfl rfl (Nat.le_of_ble_eq_true rfl) dg hq (k1 _ (h.put (by decide)))
  · exact r_put (kk := 22) (ty0 := tyX9) h.m rfl wi_RX9 tyX9_ok nmX9 (by decide) (Or.inl rfl) rfl hlk rfl rfl (Nat.le_of_ble_eq_true rfl) dg hq (k1 _ (h.put (by decide)))
  · exact r_put (kk := 23) (ty0 := tyX9) h.m rfl wi_RX9 tyX9_ok nmX9 (by decide) (Or.inl rfl) rfl hlk rfl rfl (Nat.le_of_ble_eq_true rfl) dg hq (k1 _ (h.put (by decide)))
  · exact r_put (kk := 24) (ty0 := tyX9) h.m rfl wi_RX9 tyX9_ok nmX9 (by decide) (Or.inl rfl) rfl hlk rfl rfl (Nat.le_of_ble_eq_true rfl) dg hq (k1 _ (h.put (by decide)))
theorem r_p9b {kk ix i : Nat} {b : Bool} (h : RM G Λ ρ μ M) (hk : kk = 12 ∨ kk = 25 ∨ kk = 26) (hq : pc + 3 = q) (hlk : lw_tbl[i]? = some (.fieldLink X.1 ix RX9 (TX9 kk).2.1 (TX9 kk).2.2.1)) (dg : decode X.2.1 pc = .ok (.putfield ix, 3))
    (k1 : ∀ M', RM G Λ ρ (sN μ kk (bI b)) M' → AW G X d k n q lv st M') : AW G X d k n pc lv (.int (bI b) :: .ref (Λ (10, 0, 0)) :: st) M := by
  have e1 : narrow .boolean (.int (bI b)) = .int (bI b) := narrow_bI b
  have e2 : fits .boolean (.int (bI b)) = true := by cases b <;> rfl
  rcases hk with rfl | rfl | rfl
  · exact r_put (kk := 12) (ty0 := tyX9) h.m rfl wi_RX9 tyX9_ok nmX9 (by decide) (Or.inl rfl) rfl hlk e1 e2 (Nat.le_of_ble_eq_true rfl) dg hq (k1 _ (h.put (by decide)))
  · exact r_put (kk := 25) (ty0 := tyX9) h.m rfl wi_RX9 tyX9_ok nmX9 (by decide) (Or.inl rfl) rfl hlk e1 e2 (Nat.le_of_ble_eq_true rfl) dg hq (k1 _ (h.put (by decide)))
  · exact r_put (kk := 26) (ty0 := tyX9) h.m rfl wi_RX9 tyX9_ok nmX9 (by decide) (Or.inl rfl) rfl hlk e1 e2 (Nat.le_of_ble_eq_true rfl) dg hq (k1 _ (h.put (by decide)))
end W50
