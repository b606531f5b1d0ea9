/-! WHAT A STATE OF THE JUNCTION IS, and the cells that hold it -/
section WRP
abbrev Sg : Type := (Nat → Nat → List Nat) × (Nat → Nat → Nat) × (Nat → Int32) × (List Nat × Nat)
def gR (σ : Sg) (a b : Nat) : List Nat := σ.1 a b
def gI (σ : Sg) (a j : Nat) : Nat := σ.2.1 a j
def gM (σ : Sg) (j : Nat) : Int32 := σ.2.2.1 j
def gT (σ : Sg) : List Nat := σ.2.2.2.1
def gC (σ : Sg) : Nat := σ.2.2.2.2
def sR (σ : Sg) (a b : Nat) (L : List Nat) : Sg := (fun a' b' => if a' = a ∧ b' = b then L else σ.1 a' b', σ.2)
def sI (σ : Sg) (a j : Nat) (v : Nat) : Sg := (σ.1, fun a' j' => if a' = a ∧ j' = j then v else σ.2.1 a' j', σ.2.2)
def sM (σ : Sg) (j : Nat) (v : Int32) : Sg := (σ.1, σ.2.1, fun j' => if j' = j then v else σ.2.2.1 j', σ.2.2.2)
def sT (σ : Sg) (t : List Nat) (c : Nat) : Sg := (σ.1, σ.2.1, σ.2.2.1, t, c)
theorem gR_sR {σ : Sg} {a b a' b' : Nat} {L : List Nat} : gR (sR σ a b L) a' b' = if a' = a ∧ b' = b then L else gR σ a' b' := rfl
theorem gR_sI {σ : Sg} {a b a' b' : Nat} {v : Nat} : gR (sI σ a b v) a' b' = gR σ a' b' := rfl
theorem gR_sM {σ : Sg} {j a' b' : Nat} {v : Int32} : gR (sM σ j v) a' b' = gR σ a' b' := rfl
theorem gR_sT {σ : Sg} {c a' b' : Nat} {t : List Nat} : gR (sT σ t c) a' b' = gR σ a' b' := rfl
theorem gI_sR {σ : Sg} {a b a' b' : Nat} {L : List Nat} : gI (sR σ a b L) a' b' = gI σ a' b' := rfl
theorem gI_sI {σ : Sg} {a b a' b' : Nat} {v : Nat} : gI (sI σ a b v) a' b' = if a' = a ∧ b' = b then v else gI σ a' b' := rfl
theorem gI_sM {σ : Sg} {j a' b' : Nat} {v : Int32} : gI (sM σ j v) a' b' = gI σ a' b' := rfl
theorem gI_sT {σ : Sg} {c a' b' : Nat} {t : List Nat} : gI (sT σ t c) a' b' = gI σ a' b' := rfl
theorem gM_sR {σ : Sg} {a b j : Nat} {L : List Nat} : gM (sR σ a b L) j = gM σ j := rfl
theorem gM_sI {σ : Sg} {a b j : Nat} {v : Nat} : gM (sI σ a b v) j = gM σ j := rfl
theorem gM_sM {σ : Sg} {j j' : Nat} {v : Int32} : gM (sM σ j v) j' = if j' = j then v else gM σ j' := rfl
theorem gM_sT {σ : Sg} {c j : Nat} {t : List Nat} : gM (sT σ t c) j = gM σ j := rfl
theorem gT_sR {σ : Sg} {a b : Nat} {L : List Nat} : gT (sR σ a b L) = gT σ := rfl
theorem gT_sI {σ : Sg} {a b : Nat} {v : Nat} : gT (sI σ a b v) = gT σ := rfl
theorem gT_sM {σ : Sg} {j : Nat} {v : Int32} : gT (sM σ j v) = gT σ := rfl
theorem gT_sT {σ : Sg} {c : Nat} {t : List Nat} : gT (sT σ t c) = t := rfl
theorem gC_sR {σ : Sg} {a b : Nat} {L : List Nat} : gC (sR σ a b L) = gC σ := rfl
theorem gC_sI {σ : Sg} {a b : Nat} {v : Nat} : gC (sI σ a b v) = gC σ := rfl
theorem gC_sM {σ : Sg} {j : Nat} {v : Int32} : gC (sM σ j v) = gC σ := rfl
theorem gC_sT {σ : Sg} {c : Nat} {t : List Nat} : gC (sT σ t c) = c := rfl
def wR (a b : Nat) : Bool := (decide (a < 11) && decide (b < 13)) || (decide (a = 11) && decide (b < 4)) || (decide (a = 12) && decide (b < 2))
def wLen (a b : Nat) : Nat := if a < 11 then (if b < 8 then 7 else if b < 11 then 4 else if b = 11 then 147 else 140) else if a = 11 then 60 else if b = 0 then 882 else 883
theorem wLen_lt (a b : Nat) : wLen a b ≤ 883 := by unfold wLen; repeat (first | split | omega)
def xF (Λ : Ob → Nat) (σ : Sg) : List Value := [.ref (Λ (1, 0, 0)), .ref (Λ (1, 1, 0)), .ref (Λ (1, 2, 0)), .int (gM σ 0), .ref (Λ (4, 0, 0)), .ref (Λ (6, 0, 0)), .ref (Λ (7, 0, 0)), .ref (Λ (8, 0, 0)), .int (gM σ 1), .int (gM σ 2), .int (gM σ 3), .int (gM σ 4)]
def sF (Λ : Ob → Nat) (σ : Sg) (a : Nat) : List Value := [.ref (Λ (2, a, 0)), .ref (Λ (2, a, 1)), .ref (Λ (2, a, 2)), .ref (Λ (2, a, 3)), .ref (Λ (2, a, 4)), .ref (Λ (2, a, 5)), .ref (Λ (2, a, 6)), .ref (Λ (2, a, 7)), .ref (Λ (2, a, 8)), .ref (Λ (2, a, 9)), .ref (Λ (2, a, 10)), .ref (Λ (2, a, 11)), .ref (Λ (2, a, 12)), .int (nI (gI σ a 0)), .int (nI (gI σ a 1)), .int (nI (gI σ a 2)), .int (nI (gI σ a 3))]
/-- a row's two cells hold the numbers L -/
def RW (G : En) (Λ : Ob → Nat) (a b : Nat) (L : List Nat) (M : Me) : Prop :=
  M (2, a, b) = some (Λ (2, a, b), .inr (3, [.ref (Λ (3, a, b)), .int (nI L.length)])) ∧ L.length ≤ wLen a b ∧ (∀ x ∈ L, x < 2 ^ 31) ∧ ∃ f : Nat → Int32, M (3, a, b) = some (Λ (3, a, b), .inl (G.2.2.1 0, wLen a b, .inl f)) ∧ ∀ j, j < L.length → f j = nI (L.getD j 0)
def RTx (G : En) (Λ : Ob → Nat) (t : List Nat) (c : Nat) (M : Me) : Prop :=
  ∃ (q : Nat) (ml : Int32) (f : Nat → Int32), M (8, 0, 0) = some (Λ (8, 0, 0), .inr (7, [.ref q, .int 0, .int ml, .int (nI t.length)])) ∧ M (9, 0, 0) = some (q, .inl (G.2.2.1 3, c, .inl f)) ∧ t.length ≤ c ∧ c ≤ 65536 ∧ (∀ x ∈ t, x < 128) ∧ (∀ j, j < t.length → f j = nI (t.getD j 0)) ∧ ∀ j, ∃ n : Nat, n < 128 ∧ f j = nI n
def RX (G : En) (Λ : Ob → Nat) (ρ : Me) (σ : Sg) (M : Me) : Prop :=
  M (0, 0, 0) = some (Λ (0, 0, 0), .inr (0, xF Λ σ)) ∧
  (∀ a, a < 11 → M (1, a, 0) = some (Λ (1, a, 0), .inr (4, sF Λ σ a))) ∧
  (∀ a b, wR a b = true → RW G Λ a b (gR σ a b) M) ∧
  M (4, 0, 0) = some (Λ (4, 0, 0), .inr (1, [.ref (Λ (5, 0, 0)), .int (gM σ 5), .int (gM σ 6)])) ∧
  (∃ f : Nat → Option Nat, M (5, 0, 0) = some (Λ (5, 0, 0), .inl (G.2.2.1 4, 8, .inr (.inr (.inr (.inr f))))) ∧ ∀ j, j < 8 → f j = some (Λ (1, 3 + j, 0))) ∧
  M (6, 0, 0) = some (Λ (6, 0, 0), .inr (2, [.ref (Λ (2, 11, 0)), .ref (Λ (2, 11, 1)), .ref (Λ (2, 11, 2)), .ref (Λ (2, 11, 3)), .int (gM σ 7), .int (gM σ 8), .int (gM σ 9)])) ∧
  M (7, 0, 0) = some (Λ (7, 0, 0), .inr (5, [.ref (Λ (2, 12, 0)), .ref (Λ (2, 12, 1))])) ∧
  RTx G Λ (gT σ) (gC σ) M ∧
  ∀ o : Ob, 10 ≤ o.1 → M o = ρ o
variable {G : En} {Λ : Ob → Nat} {ρ : Me} {σ : Sg} {M : Me}
theorem RX.x (h : RX G Λ ρ σ M) : M (0, 0, 0) = some (Λ (0, 0, 0), .inr (0, xF Λ σ)) := h.1
theorem RX.st (h : RX G Λ ρ σ M) {a : Nat} (ha : a < 11) : M (1, a, 0) = some (Λ (1, a, 0), .inr (4, sF Λ σ a)) := h.2.1 a ha
theorem RX.rw (h : RX G Λ ρ σ M) {a b : Nat} (hr : wR a b = true) : RW G Λ a b (gR σ a b) M := h.2.2.1 a b hr
theorem RX.row (h : RX G Λ ρ σ M) {a b : Nat} (hr : wR a b = true) : M (2, a, b) = some (Λ (2, a, b), .inr (3, [.ref (Λ (3, a, b)), .int (nI (gR σ a b).length)])) := (h.2.2.1 a b hr).1
theorem RX.hi (h : RX G Λ ρ σ M) : M (4, 0, 0) = some (Λ (4, 0, 0), .inr (1, [.ref (Λ (5, 0, 0)), .int (gM σ 5), .int (gM σ 6)])) := h.2.2.2.1
theorem RX.inp (h : RX G Λ ρ σ M) : M (6, 0, 0) = some (Λ (6, 0, 0), .inr (2, [.ref (Λ (2, 11, 0)), .ref (Λ (2, 11, 1)), .ref (Λ (2, 11, 2)), .ref (Λ (2, 11, 3)), .int (gM σ 7), .int (gM σ 8), .int (gM σ 9)])) := h.2.2.2.2.2.1
theorem RX.sp (h : RX G Λ ρ σ M) : M (7, 0, 0) = some (Λ (7, 0, 0), .inr (5, [.ref (Λ (2, 12, 0)), .ref (Λ (2, 12, 1))])) := h.2.2.2.2.2.2.1
theorem RW.kept {a b : Nat} {L : List Nat} {M' : Me} (h : RW G Λ a b L M) (h2 : M' (2, a, b) = M (2, a, b)) (h3 : M' (3, a, b) = M (3, a, b)) : RW G Λ a b L M' := by
  obtain ⟨g1, g2, g3, f, g4, g5⟩ := h
  exact ⟨h2.trans g1, g2, g3, f, h3.trans g4, g5⟩
theorem RTx.kept {t : List Nat} {c : Nat} {M' : Me} (h : RTx G Λ t c M) (h2 : M' (8, 0, 0) = M (8, 0, 0)) (h3 : M' (9, 0, 0) = M (9, 0, 0)) : RTx G Λ t c M' := by
  obtain ⟨q, ml, f, g1, g2, g3⟩ := h
  exact ⟨q, ml, f, h2.trans g1, h3.trans g2, g3⟩
/-- a row's numbers change -/
theorem RX.setR (h : RX G Λ ρ σ M) {a b : Nat} {L : List Nat} {M' : Me} (hw : RW G Λ a b L M') (ho : ∀ o : Ob, o ≠ (2, a, b) → o ≠ (3, a, b) → M' o = M o) : RX G Λ ρ (sR σ a b L) M' := by
  obtain ⟨h1, h2, h3, h4, ⟨f, h5, h5'⟩, h6, h7, h8, h9⟩ := h
  refine ⟨?_, fun a' ha' => ?_, fun a' b' hr => ?_, ?_, ⟨f, ?_, h5'⟩, ?_, ?_, ?_, fun o ho' => ?_⟩
  · rw [ho _ (by simp) (by simp)]; exact h1
  · rw [ho _ (by simp) (by simp)]; exact h2 a' ha'
  · rw [gR_sR]
    by_cases hab : a' = a ∧ b' = b
    · rw [if_pos hab, hab.1, hab.2]; exact hw
    · rw [if_neg hab]
      refine (h3 a' b' hr).kept (ho _ ?_ (by simp)) (ho _ (by simp) ?_) <;> (intro e; simp only [Prod.mk.injEq, true_and] at e; exact hab e)
  · rw [ho _ (by simp) (by simp)]; exact h4
  · rw [ho _ (by simp) (by simp)]; exact h5
  · rw [ho _ (by simp) (by simp)]; exact h6
  · rw [ho _ (by simp) (by simp)]; exact h7
  · exact h8.kept (ho _ (by simp) (by simp)) (ho _ (by simp) (by simp))
  · rw [ho o (fun e => by rw [e] at ho'; simp at ho') (fun e => by rw [e] at ho'; simp at ho')]
    exact h9 o ho'
theorem RX.setO (h : RX G Λ ρ σ M) {σ' : Sg} {o : Ob} {e : Nat × va_E} (hR : ∀ a b, gR σ' a b = gR σ a b) (hT : gT σ' = gT σ) (hC : gC σ' = gC σ) (ho2 : o.1 ≠ 2) (ho3 : o.1 ≠ 3) (ho5 : o.1 ≠ 5) (ho8 : o.1 ≠ 8) (ho9 : o.1 ≠ 9) (ho10 : o.1 < 10)
    (g1 : (if ((0, 0, 0) : Ob) = o then some e else M (0, 0, 0)) = some (Λ (0, 0, 0), .inr (0, xF Λ σ'))) (g2 : ∀ a, a < 11 → (if ((1, a, 0) : Ob) = o then some e else M (1, a, 0)) = some (Λ (1, a, 0), .inr (4, sF Λ σ' a)))
    (g4 : (if ((4, 0, 0) : Ob) = o then some e else M (4, 0, 0)) = some (Λ (4, 0, 0), .inr (1, [.ref (Λ (5, 0, 0)), .int (gM σ' 5), .int (gM σ' 6)]))) (g6 : (if ((6, 0, 0) : Ob) = o then some e else M (6, 0, 0)) = some (Λ (6, 0, 0), .inr (2, [.ref (Λ (2, 11, 0)), .ref (Λ (2, 11, 1)), .ref (Λ (2, 11, 2)), .ref (Λ (2, 11, 3)), .int (gM σ' 7), .int (gM σ' 8), .int (gM σ' 9)])))
    (g7 : (if ((7, 0, 0) : Ob) = o then some e else M (7, 0, 0)) = some (Λ (7, 0, 0), .inr (5, [.ref (Λ (2, 12, 0)), .ref (Λ (2, 12, 1))]))) : RX G Λ ρ σ' (fun x => if x = o then some e else M x) := by
  obtain ⟨h1, h2, h3, h4, ⟨f, h5, h5'⟩, h6, h7, h8, h9⟩ := h
  have ne : ∀ {t a b : Nat}, o.1 ≠ t → ¬ ((t, a, b) : Ob) = o := fun ht e => ht (by rw [← e])
  refine ⟨g1, g2, fun a b hr => ?_, g4, ⟨f, ?_, h5'⟩, g6, g7, ?_, fun x hx => ?_⟩
  · rw [hR]
    exact (h3 a b hr).kept (if_neg (ne ho2)) (if_neg (ne ho3))
  · show (if _ then _ else _) = _
    rw [if_neg (ne ho5)]; exact h5
  · rw [hT, hC]
    exact h8.kept (if_neg (ne ho8)) (if_neg (ne ho9))
  · show (if _ then _ else _) = _
    rw [if_neg (fun e => by rw [e] at hx; omega)]
    exact h9 x hx
end WRP
