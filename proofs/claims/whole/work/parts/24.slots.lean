/-! STATES BY THEIR SLOTS; rows of the memory, changed -/
section W24
abbrev St : Type := (Nat → List Nat) × (Nat → Nat)
def gS (σ : Sg) (a : Nat) : St := (σ.1 a, σ.2.1 a)
def sS (σ : Sg) (a : Nat) (S : St) : Sg := (fun a' => if a' = a then S.1 else σ.1 a', fun a' => if a' = a then S.2 else σ.2.1 a', σ.2.2)
def uR (S : St) (b : Nat) (L : List Nat) : St := (fun b' => if b' = b then L else S.1 b', S.2)
def uI (S : St) (j : Nat) (v : Nat) : St := (S.1, fun j' => if j' = j then v else S.2 j')
theorem uR_1 {S : St} {b b' : Nat} {L : List Nat} : (uR S b L).1 b' = if b' = b then L else S.1 b' := rfl
theorem uR_2 {S : St} {b : Nat} {L : List Nat} : (uR S b L).2 = S.2 := rfl
theorem uI_1 {S : St} {j v : Nat} : (uI S j v).1 = S.1 := rfl
theorem uI_2 {S : St} {j j' v : Nat} : (uI S j v).2 j' = if j' = j then v else S.2 j' := rfl
theorem sS_gS {σ : Sg} {a : Nat} : sS σ a (gS σ a) = σ := by
  refine Prod.ext (funext fun a' => ?_) (Prod.ext (funext fun a' => ?_) rfl)
  · show (if a' = a then σ.1 a else σ.1 a') = σ.1 a'
    split
    · rename_i e; rw [e]
    · rfl
  · show (if a' = a then σ.2.1 a else σ.2.1 a') = σ.2.1 a'
    split
    · rename_i e; rw [e]
    · rfl
theorem gS_sS {σ : Sg} {a : Nat} {S : St} : gS (sS σ a S) a = S := Prod.ext (if_pos rfl) (if_pos rfl)
theorem gS_ne {σ : Sg} {a a' : Nat} {S : St} (h : a' ≠ a) : gS (sS σ a S) a' = gS σ a' := Prod.ext (if_neg h) (if_neg h)
theorem sS_sS {σ : Sg} {a : Nat} {S S' : St} : sS (sS σ a S) a S' = sS σ a S' := by
  refine Prod.ext (funext fun a' => ?_) (Prod.ext (funext fun a' => ?_) rfl)
  · show (if a' = a then _ else if a' = a then _ else _) = if a' = a then _ else _
    split <;> rfl
  · show (if a' = a then _ else if a' = a then _ else _) = if a' = a then _ else _
    split <;> rfl
theorem gR_gS {σ : Sg} {a b : Nat} : gR σ a b = (gS σ a).1 b := rfl
theorem gI_gS {σ : Sg} {a b : Nat} : gI σ a b = (gS σ a).2 b := rfl
theorem gR_s {σ : Sg} {a b : Nat} {S : St} : gR (sS σ a S) a b = S.1 b := by rw [gR_gS, gS_sS]
theorem gI_s {σ : Sg} {a j : Nat} {S : St} : gI (sS σ a S) a j = S.2 j := by rw [gI_gS, gS_sS]
theorem gR_n {σ : Sg} {a a' b : Nat} {S : St} (h : a' ≠ a) : gR (sS σ a S) a' b = gR σ a' b := by rw [gR_gS, gS_ne h]; rfl
theorem gI_n {σ : Sg} {a a' j : Nat} {S : St} (h : a' ≠ a) : gI (sS σ a S) a' j = gI σ a' j := by rw [gI_gS, gS_ne h]; rfl
theorem gM_sS {σ : Sg} {a j : Nat} {S : St} : gM (sS σ a S) j = gM σ j := rfl
theorem gT_sS {σ : Sg} {a : Nat} {S : St} : gT (sS σ a S) = gT σ := rfl
theorem gC_sS {σ : Sg} {a : Nat} {S : St} : gC (sS σ a S) = gC σ := rfl
theorem gS_sM {σ : Sg} {a j : Nat} {v : Int32} : gS (sM σ j v) a = gS σ a := rfl
theorem gS_sT {σ : Sg} {a c : Nat} {t : List Nat} : gS (sT σ t c) a = gS σ a := rfl
theorem sR_s {σ : Sg} {a b : Nat} {S : St} {L : List Nat} : sR (sS σ a S) a b L = sS σ a (uR S b L) := by
  refine Prod.ext (funext fun a' => funext fun b' => ?_) rfl
  show (if a' = a ∧ b' = b then L else (if a' = a then S.1 else σ.1 a') b') = (if a' = a then (fun b' => if b' = b then L else S.1 b') else σ.1 a') b'
  by_cases e : a' = a
  · simp [e]
  · simp [e]
theorem wRs {a b : Nat} (ha : a < 11) (hb : b < 13) : wR a b = true := by simp [wR, ha, hb]
variable {G : En} {Λ : Ob → Nat} {ρ : Me} {σ : Sg} {M : Me} {X : Fx} {d k n pc q : Nat} {lv : List (Option Value)} {st : List Value} {Q : Option Value → Me → Prop} {QX : String → Me → Prop} {a b : Nat} {S : St}
theorem RX.toS (h : RX G Λ ρ σ M) (a : Nat) : RX G Λ ρ (sS σ a (gS σ a)) M := by rw [sS_gS]; exact h
theorem RX.rwS (h : RX G Λ ρ (sS σ a S) M) (hr : wR a b = true) : RW G Λ a b (S.1 b) M := by
  have := h.rw hr
  rw [gR_s] at this
  exact this
theorem RX.p5 (h : RX G Λ ρ (sS σ a S) M) (ha : a < 11) {j w : Nat} (hj : j < 4) : RX G Λ ρ (sS σ a (uI S j w)) (fun x => if x = (1, a, 0) then some (Λ (1, a, 0), .inr (4, (sF Λ (sS σ a S) a).set (13 + j) (.int (nI w)))) else M x) := by
  refine h.setO (fun a' b' => ?_) rfl rfl (Nat.ne_of_beq_eq_false rfl) (Nat.ne_of_beq_eq_false rfl) (Nat.ne_of_beq_eq_false rfl) (Nat.ne_of_beq_eq_false rfl) (Nat.ne_of_beq_eq_false rfl) (Nat.le_of_ble_eq_true rfl) ((if_neg (by simp)).trans h.x) (fun a' ha' => ?_) ((if_neg (by simp)).trans h.hi) ((if_neg (by simp)).trans h.inp) ((if_neg (by simp)).trans h.sp)
  · by_cases e : a' = a
    · subst e; rw [gR_s, gR_s]; rfl
    · rw [gR_n e, gR_n e]
  · by_cases e : a' = a
    · subst e
      rw [if_pos rfl]
      have hx : j = 0 ∨ j = 1 ∨ j = 2 ∨ j = 3 := by omega
      rcases hx with rfl | rfl | rfl | rfl <;> simp only [sF, gI_s, uI_2] <;> rfl
    · rw [if_neg (by simp [e]), h.st ha']
      simp only [sF, gI_n e]
theorem RX.p8 (h : RX G Λ ρ σ M) {j kk : Nat} {v : Int32} (hj : (j, kk) ∈ [(0, 3), (1, 8), (2, 9), (3, 10), (4, 11)]) : RX G Λ ρ (sM σ j v) (fun x => if x = (0, 0, 0) then some (Λ (0, 0, 0), .inr (0, (xF Λ σ).set kk (.int v))) else M x) := by
  refine h.setO (fun a' b' => rfl) rfl rfl (by decide) (by decide) (by decide) (by decide) (by decide) (by decide) ?_ (fun a' ha' => ?_) ((if_neg (by simp)).trans ?_) ((if_neg (by simp)).trans ?_) ((if_neg (by simp)).trans h.sp)
  · rw [if_pos rfl]
    simp only [List.mem_cons, Prod.mk.injEq, List.not_mem_nil, or_false] at hj
    rcases hj with ⟨rfl, rfl⟩ | ⟨rfl, rfl⟩ | ⟨rfl, rfl⟩ | ⟨rfl, rfl⟩ | ⟨rfl, rfl⟩ <;> rfl
  · rw [if_neg (by simp)]; exact h.st ha'
  · rw [h.hi]
    simp only [List.mem_cons, Prod.mk.injEq, List.not_mem_nil, or_false] at hj
    rcases hj with ⟨rfl, rfl⟩ | ⟨rfl, rfl⟩ | ⟨rfl, rfl⟩ | ⟨rfl, rfl⟩ | ⟨rfl, rfl⟩ <;> rfl
  · rw [h.inp]
    simp only [List.mem_cons, Prod.mk.injEq, List.not_mem_nil, or_false] at hj
    rcases hj with ⟨rfl, rfl⟩ | ⟨rfl, rfl⟩ | ⟨rfl, rfl⟩ | ⟨rfl, rfl⟩ | ⟨rfl, rfl⟩ <;> rfl
theorem RX.p0 (h : RX G Λ ρ σ M) {j kk : Nat} {v : Int32} (hj : (j, kk) ∈ [(5, 1), (6, 2)]) : RX G Λ ρ (sM σ j v) (fun x => if x = (4, 0, 0) then some (Λ (4, 0, 0), .inr (1, ([.ref (Λ (5, 0, 0)), .int (gM σ 5), .int (gM σ 6)] : List Value).set kk (.int v))) else M x) := by
  refine h.setO (fun a' b' => rfl) rfl rfl (by decide) (by decide) (by decide) (by decide) (by decide) (by decide) ((if_neg (by simp)).trans ?_) (fun a' ha' => ?_) ?_ ((if_neg (by simp)).trans ?_) ((if_neg (by simp)).trans h.sp)
  · rw [h.x]
    simp only [List.mem_cons, Prod.mk.injEq, List.not_mem_nil, or_false] at hj
    rcases hj with ⟨rfl, rfl⟩ | ⟨rfl, rfl⟩ <;> rfl
  · rw [if_neg (by simp)]; exact h.st ha'
  · rw [if_pos rfl]
    simp only [List.mem_cons, Prod.mk.injEq, List.not_mem_nil, or_false] at hj
    rcases hj with ⟨rfl, rfl⟩ | ⟨rfl, rfl⟩ <;> rfl
  · rw [h.inp]
    simp only [List.mem_cons, Prod.mk.injEq, List.not_mem_nil, or_false] at hj
    rcases hj with ⟨rfl, rfl⟩ | ⟨rfl, rfl⟩ <;> rfl
theorem RX.p1 (h : RX G Λ ρ σ M) {j kk : Nat} {v : Int32} (hj : (j, kk) ∈ [(7, 4), (8, 5), (9, 6)]) : RX G Λ ρ (sM σ j v) (fun x => if x = (6, 0, 0) then some (Λ (6, 0, 0), .inr (2, ([.ref (Λ (2, 11, 0)), .ref (Λ (2, 11, 1)), .ref (Λ (2, 11, 2)), .ref (Λ (2, 11, 3)), .int (gM σ 7), .int (gM σ 8), .int (gM σ 9)] : List Value).set kk (.int v))) else M x) := by
  refine h.setO (fun a' b' => rfl) rfl rfl (by decide) (by decide) (by decide) (by decide) (by decide) (by decide) ((if_neg (by simp)).trans ?_) (fun a' ha' => ?_) ((if_neg (by simp)).trans ?_) ?_ ((if_neg (by simp)).trans h.sp)
  · rw [h.x]
    simp only [List.mem_cons, Prod.mk.injEq, List.not_mem_nil, or_false] at hj
    rcases hj with ⟨rfl, rfl⟩ | ⟨rfl, rfl⟩ | ⟨rfl, rfl⟩ <;> rfl
  · rw [if_neg (by simp)]; exact h.st ha'
  · rw [h.hi]
    simp only [List.mem_cons, Prod.mk.injEq, List.not_mem_nil, or_false] at hj
    rcases hj with ⟨rfl, rfl⟩ | ⟨rfl, rfl⟩ | ⟨rfl, rfl⟩ <;> rfl
  · rw [if_pos rfl]
    simp only [List.mem_cons, Prod.mk.injEq, List.not_mem_nil, or_false] at hj
    rcases hj with ⟨rfl, rfl⟩ | ⟨rfl, rfl⟩ | ⟨rfl, rfl⟩ <;> rfl
theorem r_p5 {kk j w ix i : Nat} (h : RX G Λ ρ (sS σ a S) M) (ha : a < 11) (hk : (j, kk) ∈ [(0, 13), (1, 14), (2, 15), (3, 16)]) (hq : pc + 3 = q) (hlk : lw_tbl[i]? = some (.fieldLink X.1 ix RX5 (TX5 kk).2.1 (TX5 kk).2.2.1)) (dg : decode X.2.1 pc = .ok (.putfield ix, 3)) (hz : d = d)
    (k1 : ∀ M', RX G Λ ρ (sS σ a (uI S j w)) M' → AW G X d k n q lv st M') : AW G X d k n pc lv (.int (nI w) :: .ref (Λ (1, a, 0)) :: st) M := by
  simp only [List.mem_cons, Prod.mk.injEq, List.not_mem_nil, or_false] at hk
  rcases hk with ⟨rfl, rfl⟩ | ⟨rfl, rfl⟩ | ⟨rfl, rfl⟩ | ⟨rfl, rfl⟩
  · exact r_put (kk := 13) (ty0 := tyX5) (h.st ha) rfl wi_RX5 tyX5_ok nmX5 (by decide) (Or.inl rfl) rfl hlk rfl rfl (Nat.le_of_ble_eq_true rfl) dg hq (k1 _ (h.p5 ha (by decide)))
  · exact r_put (kk := 14) (ty0 := tyX5) (h.st ha) rfl wi_RX5 tyX5_ok nmX5 (by decide) (Or.inl rfl) rfl hlk rfl rfl (Nat.le_of_ble_eq_true rfl) dg hq (k1 _ (h.p5 ha (by decide)))
  · exact r_put (kk := 15) (ty0 := tyX5) (h.st ha) rfl wi_RX5 tyX5_ok nmX5 (by decide) (Or.inl rfl) rfl hlk rfl rfl (Nat.le_of_ble_eq_true rfl) dg hq (k1 _ (h.p5 ha (by decide)))
  · exact r_put (kk := 16) (ty0 := tyX5) (h.st ha) rfl wi_RX5 tyX5_ok nmX5 (by decide) (Or.inl rfl) rfl hlk rfl rfl (Nat.le_of_ble_eq_true rfl) dg hq (k1 _ (h.p5 ha (by decide)))
theorem r_p8 {kk j ix i : Nat} {v : Int32} (h : RX G Λ ρ σ M) (hk : (j, kk) ∈ [(1, 8), (2, 9), (3, 10), (4, 11)]) (hq : pc + 3 = q) (hlk : lw_tbl[i]? = some (.fieldLink X.1 ix RX8 (TX8 kk).2.1 (TX8 kk).2.2.1)) (dg : decode X.2.1 pc = .ok (.putfield ix, 3)) (hz : d = d)
    (k1 : ∀ M', RX G Λ ρ (sM σ j v) M' → AW G X d k n q lv st M') : AW G X d k n pc lv (.int v :: .ref (Λ (0, 0, 0)) :: st) M := by
  simp only [List.mem_cons, Prod.mk.injEq, List.not_mem_nil, or_false] at hk
  rcases hk with ⟨rfl, rfl⟩ | ⟨rfl, rfl⟩ | ⟨rfl, rfl⟩ | ⟨rfl, rfl⟩
  · exact r_put (kk := 8) (ty0 := tyX8) h.x rfl wi_RX8 tyX8_ok nmX8 (by decide) (Or.inl rfl) rfl hlk rfl rfl (Nat.le_of_ble_eq_true rfl) dg hq (k1 _ (h.p8 (by decide)))
  · exact r_put (kk := 9) (ty0 := tyX8) h.x rfl wi_RX8 tyX8_ok nmX8 (by decide) (Or.inl rfl) rfl hlk rfl rfl (Nat.le_of_ble_eq_true rfl) dg hq (k1 _ (h.p8 (by decide)))
  · exact r_put (kk := 10) (ty0 := tyX8) h.x rfl wi_RX8 tyX8_ok nmX8 (by decide) (Or.inl rfl) rfl hlk rfl rfl (Nat.le_of_ble_eq_true rfl) dg hq (k1 _ (h.p8 (by decide)))
  · exact r_put (kk := 11) (ty0 := tyX8) h.x rfl wi_RX8 tyX8_ok nmX8 (by decide) (Or.inl rfl) rfl hlk rfl rfl (Nat.le_of_ble_eq_true rfl) dg hq (k1 _ (h.p8 (by decide)))
theorem r_p8b {ix i : Nat} (h : RX G Λ ρ σ M) (hq : pc + 3 = q) (hlk : lw_tbl[i]? = some (.fieldLink X.1 ix RX8 (TX8 3).2.1 (TX8 3).2.2.1)) (dg : decode X.2.1 pc = .ok (.putfield ix, 3)) {v : Int32} (hv : narrow .boolean (.int v) = .int v) (hf : fits .boolean (.int v) = true)
    (k1 : ∀ M', RX G Λ ρ (sM σ 0 v) M' → AW G X d k n q lv st M') : AW G X d k n pc lv (.int v :: .ref (Λ (0, 0, 0)) :: st) M :=
  r_put (kk := 3) (ty0 := tyX8) h.x rfl wi_RX8 tyX8_ok nmX8 (by decide) (Or.inl rfl) rfl hlk hv hf (Nat.le_of_ble_eq_true rfl) dg hq (k1 _ (h.p8 (by decide)))
theorem r_p0 {kk j ix i : Nat} {v : Int32} (h : RX G Λ ρ σ M) (hk : (j, kk) ∈ [(5, 1), (6, 2)]) (hq : pc + 3 = q) (hlk : lw_tbl[i]? = some (.fieldLink X.1 ix RX0 (TX0 kk).2.1 (TX0 kk).2.2.1)) (dg : decode X.2.1 pc = .ok (.putfield ix, 3)) (hz : d = d)
    (k1 : ∀ M', RX G Λ ρ (sM σ j v) M' → AW G X d k n q lv st M') : AW G X d k n pc lv (.int v :: .ref (Λ (4, 0, 0)) :: st) M := by
  simp only [List.mem_cons, Prod.mk.injEq, List.not_mem_nil, or_false] at hk
  rcases hk with ⟨rfl, rfl⟩ | ⟨rfl, rfl⟩
  · exact r_put (kk := 1) (ty0 := tyX0) h.hi rfl wi_RX0 tyX0_ok nmX0 (by decide) (Or.inl rfl) rfl hlk rfl rfl (Nat.le_of_ble_eq_true rfl) dg hq (k1 _ (h.p0 (by decide)))
  · exact r_put (kk := 2) (ty0 := tyX0) h.hi rfl wi_RX0 tyX0_ok nmX0 (by decide) (Or.inl rfl) rfl hlk rfl rfl (Nat.le_of_ble_eq_true rfl) dg hq (k1 _ (h.p0 (by decide)))
theorem r_p1 {kk j ix i : Nat} {v : Int32} (h : RX G Λ ρ σ M) (hk : (j, kk) ∈ [(7, 4), (8, 5), (9, 6)]) (hq : pc + 3 = q) (hlk : lw_tbl[i]? = some (.fieldLink X.1 ix RX1 (TX1 kk).2.1 (TX1 kk).2.2.1)) (dg : decode X.2.1 pc = .ok (.putfield ix, 3)) (hz : d = d)
    (k1 : ∀ M', RX G Λ ρ (sM σ j v) M' → AW G X d k n q lv st M') : AW G X d k n pc lv (.int v :: .ref (Λ (6, 0, 0)) :: st) M := by
  simp only [List.mem_cons, Prod.mk.injEq, List.not_mem_nil, or_false] at hk
  rcases hk with ⟨rfl, rfl⟩ | ⟨rfl, rfl⟩ | ⟨rfl, rfl⟩
  · exact r_put (kk := 4) (ty0 := tyX1) h.inp rfl wi_RX1 tyX1_ok nmX1 (by decide) (Or.inl rfl) rfl hlk rfl rfl (Nat.le_of_ble_eq_true rfl) dg hq (k1 _ (h.p1 (by decide)))
  · exact r_put (kk := 5) (ty0 := tyX1) h.inp rfl wi_RX1 tyX1_ok nmX1 (by decide) (Or.inl rfl) rfl hlk rfl rfl (Nat.le_of_ble_eq_true rfl) dg hq (k1 _ (h.p1 (by decide)))
  · exact r_put (kk := 6) (ty0 := tyX1) h.inp rfl wi_RX1 tyX1_ok nmX1 (by decide) (Or.inl rfl) rfl hlk rfl rfl (Nat.le_of_ble_eq_true rfl) dg hq (k1 _ (h.p1 (by decide)))
/-! rows of a slot -/
theorem t_at (h : RX G Λ ρ (sS σ a S) M) (hr : wR a b = true) {i : Int32} (hQ : Q (some (.int (rAt (S.1 b) i))) M) : MS G yX2_at cX2_at 2 (some .int) d 0 0 [.ref (Λ (2, a, b)), .int i] M Q QX := s_X2_at (h.rwS hr) hQ
theorem t_atN (h : RX G Λ ρ (sS σ a S) M) (hr : wR a b = true) {i : Nat} (hi : i < 2 ^ 31) (hQ : Q (some (.int (nI ((S.1 b).getD i 0)))) M) : MS G yX2_at cX2_at 2 (some .int) d 0 0 [.ref (Λ (2, a, b)), .int (nI i)] M Q QX := s_X2_at (h.rwS hr) (by rw [rAt_nI hi]; exact hQ)
theorem t_size (h : RX G Λ ρ (sS σ a S) M) (hr : wR a b = true) (hQ : Q (some (.int (nI (S.1 b).length))) M) : MS G yX2_size cX2_size 1 (some .int) d 0 0 [.ref (Λ (2, a, b))] M Q QX := s_X2_size (h.rwS hr) hQ
theorem t_total (h : RX G Λ ρ (sS σ a S) M) (hr : wR a b = true) (hQ : Q (some (.int (nI (S.1 b).sum))) M) : MS G yX2_total cX2_total 3 (some .int) d 0 0 [.ref (Λ (2, a, b))] M Q QX := s_X2_total (h.rwS hr) hQ
theorem t_many (h : RX G Λ ρ (sS σ a S) M) (hr : wR a b = true) (hQ : Q (some (.int (nI ((S.1 b).countP (0 < ·))))) M) : MS G yX2_numberAboveZero cX2_numberAboveZero 3 (some .int) d 0 0 [.ref (Λ (2, a, b))] M Q QX := s_X2_numberAboveZero (h.rwS hr) hQ
theorem t_put (h : RX G Λ ρ (sS σ a S) M) (hr : wR a b = true) {i v : Int32} {x : Nat} (hv : v = nI x) (hx : x < 2 ^ 31) (hQ : ∀ M', RX G Λ ρ (sS σ a (uR S b (rPut (S.1 b) i x))) M' → Q none M') : MS G yX2_put cX2_put 3 none d 0 0 [.ref (Λ (2, a, b)), .int i, .int v] M Q QX :=
  s_X2_put (h.rwS hr) hv hx fun M' hw ho => hQ M' (by rw [← sR_s]; exact h.setR hw ho)
theorem t_putN (h : RX G Λ ρ (sS σ a S) M) (hr : wR a b = true) {i x : Nat} {v : Int32} (hv : v = nI x) (hi : i < 2 ^ 31) (hx : x < 2 ^ 31) (hQ : ∀ M', RX G Λ ρ (sS σ a (uR S b ((S.1 b).set i x))) M' → Q none M') : MS G yX2_put cX2_put 3 none d 0 0 [.ref (Λ (2, a, b)), .int (nI i), .int v] M Q QX :=
  t_put h hr hv hx fun M' h1 => hQ M' (by rw [rPut_nI hi] at h1; exact h1)
theorem t_raise (h : RX G Λ ρ (sS σ a S) M) (hr : wR a b = true) {i v : Int32} {x : Nat} (hv : rAt (S.1 b) i + v = nI x) (hx : x < 2 ^ 31) (hQ : ∀ M', RX G Λ ρ (sS σ a (uR S b (rPut (S.1 b) i x))) M' → Q none M') : MS G yX2_raise cX2_raise 3 none (d + 1) 0 0 [.ref (Λ (2, a, b)), .int i, .int v] M Q QX :=
  s_X2_raise (h.rwS hr) hv hx fun M' hw ho => hQ M' (by rw [← sR_s]; exact h.setR hw ho)
theorem t_raiseN (h : RX G Λ ρ (sS σ a S) M) (hr : wR a b = true) {i x : Nat} {v : Int32} (hi : i < 2 ^ 31) (hv : nI ((S.1 b).getD i 0) + v = nI x) (hx : x < 2 ^ 31) (hQ : ∀ M', RX G Λ ρ (sS σ a (uR S b ((S.1 b).set i x))) M' → Q none M') : MS G yX2_raise cX2_raise 3 none (d + 1) 0 0 [.ref (Λ (2, a, b)), .int (nI i), .int v] M Q QX :=
  t_raise h hr (by rw [rAt_nI hi]; exact hv) hx fun M' h1 => hQ M' (by rw [rPut_nI hi] at h1; exact h1)
theorem t_add (h : RX G Λ ρ (sS σ a S) M) (hr : wR a b = true) {v : Int32} {x : Nat} (hv : v = nI x) (hx : x < 2 ^ 31) (hQ : ∀ M', RX G Λ ρ (sS σ a (uR S b (rAdd (wLen a b) (S.1 b) x))) M' → Q none M') : MS G yX2_add cX2_add 2 none d 0 0 [.ref (Λ (2, a, b)), .int v] M Q QX :=
  s_X2_add (h.rwS hr) hv hx fun M' hw ho => hQ M' (by rw [← sR_s]; exact h.setR hw ho)
theorem t_shorten (h : RX G Λ ρ (sS σ a S) M) (hr : wR a b = true) {m : Nat} (hm : m < 2 ^ 31) (hQ : ∀ M', RX G Λ ρ (sS σ a (uR S b ((S.1 b).take m))) M' → Q none M') : MS G yX2_shorten cX2_shorten 2 none (d + 1) 0 0 [.ref (Λ (2, a, b)), .int (nI m)] M Q QX :=
  s_X2_shorten (h.rwS hr) hm fun M' hw ho => hQ M' (by rw [← sR_s]; exact h.setR hw ho)
theorem t_fill (h : RX G Λ ρ (sS σ a S) M) (hr : wR a b = true) {m x : Nat} {v : Int32} (hm : m < 2 ^ 31) (hv : v = nI x) (hx : x < 2 ^ 31) (hQ : ∀ M', RX G Λ ρ (sS σ a (uR S b (List.replicate (min m (wLen a b)) x))) M' → Q none M') : MS G yX2_fill cX2_fill 4 none (d + 1) 0 0 [.ref (Λ (2, a, b)), .int (nI m), .int v] M Q QX :=
  s_X2_fill (h.rwS hr) hm hv hx fun M' hw ho => hQ M' (by rw [← sR_s]; exact h.setR hw ho)
theorem t_copy {a2 : Nat} (h : RX G Λ ρ (sS σ a S) M) (hr : wR a b = true) (h2 : a2 ≠ a) (hr2 : wR a2 b = true) (hQ : ∀ M', RX G Λ ρ (sS σ a (uR S b ((gR σ a2 b).take (wLen a b)))) M' → Q none M') : MS G yX2_copyFrom cX2_copyFrom 3 none (d + 1) 0 0 [.ref (Λ (2, a, b)), .ref (Λ (2, a2, b))] M Q QX :=
  s_X2_copyFrom (h.rwS hr) (by have := h.rw hr2; rw [gR_n h2] at this; exact this) (fun e => h2 (by simp only [Prod.mk.injEq] at e; exact e.2.1)) fun M' hw ho => hQ M' (by rw [← sR_s]; exact h.setR hw ho)
end W24
