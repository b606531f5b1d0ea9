/-! THE INPUT: characters, orders read from them -/
section W32
variable {G : En} {Λ : Ob → Nat} {ρ : Me} {σ : Sg} {M : Me} {X : Fx} {d k n pc q : Nat} {lv : List (Option Value)} {st : List Value} {Q : Option Value → Me → Prop} {QX : String → Me → Prop} {S : St} {p : Nat} {l s : Int32}
def iS (σ : Sg) (S : St) (p l s : Int32) : Sg := sM (sM (sM (sS σ 11 S) 7 p) 8 l) 9 s
theorem iS7 {p l s v : Int32} : sM (iS σ S p l s) 7 v = iS σ S v l s := by
  refine Prod.ext rfl (Prod.ext rfl (Prod.ext (funext fun j => ?_) rfl))
  show (if j = 7 then v else if j = 9 then s else if j = 8 then l else if j = 7 then p else _) = (if j = 9 then s else if j = 8 then l else if j = 7 then v else _)
  by_cases e : j = 7
  · subst e; rfl
  · rw [if_neg e, if_neg e, if_neg e]
theorem iS8 {p l s v : Int32} : sM (iS σ S p l s) 8 v = iS σ S p v s := by
  refine Prod.ext rfl (Prod.ext rfl (Prod.ext (funext fun j => ?_) rfl))
  show (if j = 8 then v else if j = 9 then s else if j = 8 then l else if j = 7 then p else _) = (if j = 9 then s else if j = 8 then v else if j = 7 then p else _)
  by_cases e : j = 8
  · subst e; rfl
  · rw [if_neg e, if_neg e, if_neg e]
theorem iS9 {p l s v : Int32} : sM (iS σ S p l s) 9 v = iS σ S p l v := by
  refine Prod.ext rfl (Prod.ext rfl (Prod.ext (funext fun j => ?_) rfl))
  show (if j = 9 then v else if j = 9 then s else if j = 8 then l else if j = 7 then p else _) = (if j = 9 then v else if j = 8 then l else if j = 7 then p else _)
  by_cases e : j = 9
  · subst e; rfl
  · rw [if_neg e, if_neg e, if_neg e]
theorem iSS {S' : St} {p l s : Int32} : sS (iS σ S p l s) 11 S' = iS σ S' p l s := by
  show sM (sM (sM (sS (sS σ 11 S) 11 S') 7 p) 8 l) 9 s = _
  rw [sS_sS]; rfl
theorem iM7 {p l s : Int32} : gM (iS σ S p l s) 7 = p := rfl
theorem iM8 {p l s : Int32} : gM (iS σ S p l s) 8 = l := rfl
theorem iM9 {p l s : Int32} : gM (iS σ S p l s) 9 = s := rfl
theorem iS_self : iS σ (gS σ 11) (gM σ 7) (gM σ 8) (gM σ 9) = σ := by
  show sM (sM (sM (sS σ 11 (gS σ 11)) 7 (gM σ 7)) 8 (gM σ 8)) 9 (gM σ 9) = σ
  rw [sS_gS]
  refine Prod.ext rfl (Prod.ext rfl (Prod.ext (funext fun j => ?_) rfl))
  show (if j = 9 then _ else if j = 8 then _ else if j = 7 then _ else _) = _
  split
  · rename_i e; rw [e]; rfl
  · split
    · rename_i e; rw [e]; rfl
    · split
      · rename_i e; rw [e]; rfl
      · rfl
theorem RX.iR {p l s : Int32} (h : RX G Λ ρ (iS σ S p l s) M) : RX G Λ ρ (sS (iS σ S p l s) 11 S) M := by rw [iSS]; exact h
theorem u_at {b i : Nat} {p l s : Int32} (h : RX G Λ ρ (iS σ S p l s) M) (hr : wR 11 b = true) (hi : i < 2 ^ 31) (hQ : Q (some (.int (nI ((S.1 b).getD i 0)))) M) : MS G yX2_at cX2_at 2 (some .int) d 0 0 [.ref (Λ (2, 11, b)), .int (nI i)] M Q QX := t_atN h.iR hr hi hQ
theorem u_size {b : Nat} {p l s : Int32} (h : RX G Λ ρ (iS σ S p l s) M) (hr : wR 11 b = true) (hQ : Q (some (.int (nI (S.1 b).length))) M) : MS G yX2_size cX2_size 1 (some .int) d 0 0 [.ref (Λ (2, 11, b))] M Q QX := t_size h.iR hr hQ
theorem u_add {b x : Nat} {p l s v : Int32} (h : RX G Λ ρ (iS σ S p l s) M) (hr : wR 11 b = true) (hv : v = nI x) (hx : x < 2 ^ 31) (hQ : ∀ M', RX G Λ ρ (iS σ (uR S b (rAdd 60 (S.1 b) x)) p l s) M' → Q none M') : MS G yX2_add cX2_add 2 none d 0 0 [.ref (Λ (2, 11, b)), .int v] M Q QX :=
  t_add h.iR hr hv hx fun M' h' => hQ M' (by rw [iSS] at h'; exact h')
theorem u_clr {b : Nat} {p l s : Int32} (h : RX G Λ ρ (iS σ S p l s) M) (hr : wR 11 b = true) (hQ : ∀ M', RX G Λ ρ (iS σ (uR S b []) p l s) M' → Q none M') : MS G yX2_fill cX2_fill 4 none (d + 1) 0 0 [.ref (Λ (2, 11, b)), .int (nI 0), .int (nI 0)] M Q QX :=
  t_fill h.iR hr (m := 0) (x := 0) (by decide) rfl (by decide) fun M' h' => hQ M' (by rw [iSS, Nat.zero_min] at h'; exact h')
theorem u_lt {b : Nat} {p l s : Int32} (h : RX G Λ ρ (iS σ S p l s) M) (hr : wR 11 b = true) (j : Nat) : (S.1 b).getD j 0 < 2 ^ 31 := t_lt h.iR hr j
theorem u_len {b : Nat} {p l s : Int32} (h : RX G Λ ρ (iS σ S p l s) M) (hr : wR 11 b = true) : (S.1 b).length ≤ 60 := by
  have h1 := (h.iR.rwS hr).2.1
  have h2 : wLen 11 b = 60 := by
    simp [wLen]
  omega
theorem getD_ne {L : List Nat} {p : Nat} (h : L.getD p 0 ≠ 0) : p < L.length := by
  refine Nat.lt_of_not_le fun g => h ?_
  exact getD_ge g
/-! one sign, one digit, one word -/
def pSg (L : List Nat) (c p : Nat) : Bool × Nat := if L.getD p 0 = c then (true, p + 1) else (false, p)
def pDg (L : List Nat) (p : Nat) : Bool × Nat := if 48 ≤ L.getD p 0 ∧ L.getD p 0 ≤ 57 then (true, p + 1) else (false, p)
def isLt (c : Nat) : Bool := decide (c = 108) || decide (c = 115)
def pWl (L : List Nat) : Nat → Nat × Nat × Nat → Nat × Nat × Nat
  | 0, x => x
  | r + 1, x => if isLt (L.getD x.1 0) = true then pWl L r (x.1 + 1, x.2.1 + 1, x.2.2 + if L.getD x.1 0 = 108 then 2 ^ x.2.1 else 0) else x
abbrev PI : Type := Nat × Int32 × Int32
def pPt (L : List Nat) (c : Nat) (x : PI) : Bool × PI :=
  if c = 76 then ((pDg L x.1).1, (pDg L x.1).2, nI (L.getD x.1 0) - nI 48, x.2.2)
  else if c = 68 then ((pDg L x.1).1, (pDg L x.1).2, x.2.1, nI (L.getD x.1 0) - nI 48)
  else if c = 87 then (decide (0 < (pWl L 6 (x.1, 0, 0)).2.1), (pWl L 6 (x.1, 0, 0)).1, x.2.1, nI ((pWl L 6 (x.1, 0, 0)).2.1 * 64 + (pWl L 6 (x.1, 0, 0)).2.2))
  else ((pSg L c x.1).1, (pSg L c x.1).2, x.2.1, x.2.2)
def pPs (L : List Nat) (i : Nat) : Nat → Nat → PI → Bool × PI
  | 0, _, x => (true, x)
  | r + 1, j, x => if (pPt L (kCh i j) x).1 = true then pPs L i r (j + 1) (pPt L (kCh i j) x).2 else (false, (pPt L (kCh i j) x).2)
def pIx (k : Nat) : Nat := if k = 115 then 0 else if k = 117 then 1 else if k = 112 then 2 else if k = 119 then 3 else if k = 108 then 4 else if k = 120 then 5 else if k = 109 then 6 else if k = 102 then 7 else if k = 104 then 8 else 9
theorem pIx_lt (k : Nat) : pIx k < 10 := by unfold pIx; repeat (first | split | omega)
theorem pIx_9 : ∀ i : Nat, i < 10 → kLen i = 0 → i = 9 := by decide
theorem pIx_out : ∀ k : Nat, k < 128 → ¬ (102 ≤ k ∧ k ≤ 120) → pIx k = 9 ∧ ((nI k).toInt < 102 ∨ 120 < (nI k).toInt) := by decide +kernel
theorem kCh_in : ∀ i : Nat, i < 10 → ∀ j : Nat, j < kLen i → kCh i j = 76 ∨ kCh i j = 58 ∨ kCh i j = 87 ∨ kCh i j = 61 ∨ kCh i j = 68 ∨ kCh i j = 62 ∨ kCh i j = 115 ∨ kCh i j = 117 ∨ kCh i j = 112 ∨ kCh i j = 119 ∨ kCh i j = 108 ∨ kCh i j = 120 ∨ kCh i j = 109 ∨ kCh i j = 102 ∨ kCh i j = 104 := by decide +kernel
def pOr (S : St) (x : PI) : Bool × St × PI :=
  if pIx ((S.1 0).getD x.1 0) = 9 then (false, S, x) else
  if (pPs (S.1 0) (pIx ((S.1 0).getD x.1 0)) (kLen (pIx ((S.1 0).getD x.1 0))) 0 (x.1, nI 0, nI 0)).1 = true then
    (true, uR (uR (uR S 1 (rAdd 60 (S.1 1) ((S.1 0).getD x.1 0))) 2 (rAdd 60 (S.1 2) (pPs (S.1 0) (pIx ((S.1 0).getD x.1 0)) (kLen (pIx ((S.1 0).getD x.1 0))) 0 (x.1, nI 0, nI 0)).2.2.1.toNatClampNeg)) 3 (rAdd 60 (S.1 3) (pPs (S.1 0) (pIx ((S.1 0).getD x.1 0)) (kLen (pIx ((S.1 0).getD x.1 0))) 0 (x.1, nI 0, nI 0)).2.2.2.toNatClampNeg), (pPs (S.1 0) (pIx ((S.1 0).getD x.1 0)) (kLen (pIx ((S.1 0).getD x.1 0))) 0 (x.1, nI 0, nI 0)).2)
  else (false, S, (pPs (S.1 0) (pIx ((S.1 0).getD x.1 0)) (kLen (pIx ((S.1 0).getD x.1 0))) 0 (x.1, nI 0, nI 0)).2)
theorem pSg_le {L : List Nat} {c p : Nat} (hc : c ≠ 0) (hp : p ≤ L.length) : (pSg L c p).2 ≤ L.length := by
  unfold pSg
  split
  · exact getD_ne (fun e => hc (by omega))
  · exact hp
theorem pDg_le {L : List Nat} {p : Nat} (hp : p ≤ L.length) : (pDg L p).2 ≤ L.length := by
  unfold pDg
  split
  · exact getD_ne (fun e => by omega)
  · exact hp
theorem isLt_ne {c : Nat} (h : isLt c = true) : c ≠ 0 := fun e => by rw [e] at h; cases h
theorem pWl_ok {L : List Nat} : ∀ (r : Nat) (x : Nat × Nat × Nat), x.1 ≤ L.length → x.2.1 + r ≤ 6 → x.2.2 < 2 ^ x.2.1 → (pWl L r x).1 ≤ L.length ∧ (pWl L r x).2.1 ≤ 6 ∧ (pWl L r x).2.2 < 2 ^ (pWl L r x).2.1 := by
  intro r
  induction r with
  | zero => exact fun x h1 h2 h3 => ⟨h1, by show x.2.1 ≤ 6; omega, h3⟩
  | succ r ih =>
    intro x h1 h2 h3
    rw [pWl]
    split
    · rename_i e
      refine ih _ (getD_ne (isLt_ne e)) (by dsimp only; omega) ?_
      dsimp only
      rw [Nat.pow_succ]
      split <;> omega
    · exact ⟨h1, by omega, h3⟩
theorem pw64 {n b : Nat} (hn : n ≤ 6) (hb : b < 2 ^ n) : b < 64 := Nat.lt_of_lt_of_le hb (Nat.pow_le_pow_right (by decide) hn : 2 ^ n ≤ 2 ^ 6)
theorem pPt_le {L : List Nat} {c : Nat} {x : PI} (hc : c ≠ 0) (hp : x.1 ≤ L.length) : (pPt L c x).2.1 ≤ L.length := by
  unfold pPt
  split
  · exact pDg_le hp
  · split
    · exact pDg_le hp
    · split
      · exact (pWl_ok 6 _ hp (Nat.le_refl 6) (show (0 : Nat) < 2 ^ 0 by decide)).1
      · exact pSg_le hc hp
def okN (v : Int32) : Prop := ∃ a : Nat, a < 1000 ∧ v = nI a
theorem dg_ok {L : List Nat} {p : Nat} (h : (pDg L p).1 = true) : okN (nI (L.getD p 0) - nI 48) := by
  unfold pDg at h
  split at h
  · rename_i e
    exact ⟨L.getD p 0 - 48, by omega, n_sub e.1⟩
  · cases h
theorem pPt_ok {L : List Nat} {c : Nat} {x : PI} (h : (pPt L c x).1 = true) (hp : x.1 ≤ L.length) (h1 : okN x.2.1) (h2 : okN x.2.2) : okN (pPt L c x).2.2.1 ∧ okN (pPt L c x).2.2.2 := by
  unfold pPt at h ⊢
  split
  · rename_i e; rw [if_pos e] at h; exact ⟨dg_ok h, h2⟩
  · rename_i e; rw [if_neg e] at h
    split
    · rename_i e2; rw [if_pos e2] at h; exact ⟨h1, dg_ok h⟩
    · rename_i e2; rw [if_neg e2] at h
      split
      · have h9 := pWl_ok (L := L) 6 (x.1, 0, 0) hp (Nat.le_refl 6) (show (0 : Nat) < 2 ^ 0 by decide)
        have := pw64 h9.2.1 h9.2.2
        exact ⟨h1, _, by omega, rfl⟩
      · exact ⟨h1, h2⟩
theorem okN_c {v : Int32} (h : okN v) : v = nI v.toNatClampNeg ∧ v.toNatClampNeg < 2 ^ 31 := by
  obtain ⟨a, ha, rfl⟩ := h
  rw [nI_clamp (by omega)]
  exact ⟨rfl, by omega⟩
/-! bytes of a packed word -/
def wdN (x : Int32) : Nat := x.toUInt32.toNat
theorem toI_nI (z : UInt32) : z.toInt32 = nI z.toNat := by
  refine Int32.toBitVec_inj.mp ?_
  show z.toBitVec = BitVec.ofNat 32 z.toBitVec.toNat
  simp
theorem us_amt : ∀ k : Nat, k < 32 → ((nI k).toUInt32 &&& Int32.toUInt32 31).toNat % 32 = k := by decide +kernel
theorem n_byte (x : Int32) {k : Nat} (hk : k < 32) : (x.toUInt32 >>> ((nI k).toUInt32 &&& Int32.toUInt32 31)).toInt32 &&& nI 255 = nI (wdN x / 2 ^ k % 256) := by
  rw [toI_nI, UInt32.toNat_shiftRight, us_amt k hk, Nat.shiftRight_eq_div_pow]
  exact n_and (Nat.lt_of_le_of_lt (Nat.div_le_self _ _) x.toUInt32.toNat_lt) 255 8 (by decide)
def aAll (w : Nat) : Nat → List Nat → List Nat
  | 0, L => L
  | r + 1, L => aAll w r (if w / 2 ^ (8 * r) % 256 = 0 then L else rAdd 60 L (w / 2 ^ (8 * r) % 256))
theorem e8 (r : Nat) : nI (8 * (r + 1)) - nI 8 = nI (8 * r) := by rw [n_sub (by omega)]; congr 1
theorem e8_neg {r : Nat} (hr : r ≤ 4) : nI (8 * r) - nI 8 < 0 ↔ r = 0 := by
  have h : ∀ r : Nat, r ≤ 4 → (nI (8 * r) - nI 8 < 0 ↔ r = 0) := by decide
  exact h r hr
theorem e8_dec (r : Nat) : nI (8 * r) + Int32.ofInt (-8) = nI (8 * r) - nI 8 := by rw [Int32.sub_eq_add_neg]; rfl
theorem s_X1_size (h : RX G Λ ρ (iS σ S (nI p) l s) M) (hQ : Q (some (.int (nI (S.1 0).length))) M)  : MS G yX1_size cX1_size 1 (some .int) (d + 1) 0 0 [.ref (Λ (6, 0, 0))] M Q QX := by
  refine MS.of (by decide) (by simp [Value.category]) (Nat.le_of_ble_eq_true rfl) ?_
  show AW _ (_, _, _, _, _, _, _, _, _) _ _ _ _ [some _] _ _
  refine r_aload_n (q := 1) dX1_size_0 rfl rfl ?_
  refine r_get (q := 4) (kk := 0) h.inp rfl wi_RX1 (by decide) rfl fk_X1_14 rfl dX1_size_1 rfl ?_
  refine r_cV (q := 7) (As := []) wc_X1_39 rfl im_X2_size se_X2_size (h.row (by decide)) rfl rfl (Nat.le_of_ble_eq_true rfl) (Nat.le_of_eq (Nat.zero_add _)) (Nat.le_of_eq (Nat.zero_add _)) dX1_size_4 rfl rfl (u_size h (by decide) ?_)
  refine r_iret dX1_size_7 ?_
  exact hQ
theorem s_X1_orders (h : RX G Λ ρ (iS σ S (nI p) l s) M) (hQ : Q (some (.int (nI (S.1 1).length))) M)  : MS G yX1_orders cX1_orders 1 (some .int) (d + 1) 0 0 [.ref (Λ (6, 0, 0))] M Q QX := by
  refine MS.of (by decide) (by simp [Value.category]) (Nat.le_of_ble_eq_true rfl) ?_
  show AW _ (_, _, _, _, _, _, _, _, _) _ _ _ _ [some _] _ _
  refine r_aload_n (q := 1) dX1_orders_0 rfl rfl ?_
  refine r_get (q := 4) (kk := 1) h.inp rfl wi_RX1 (by decide) rfl fk_X1_20 rfl dX1_orders_1 rfl ?_
  refine r_cV (q := 7) (As := []) wc_X1_39 rfl im_X2_size se_X2_size (h.row (by decide)) rfl rfl (Nat.le_of_ble_eq_true rfl) (Nat.le_of_eq (Nat.zero_add _)) (Nat.le_of_eq (Nat.zero_add _)) dX1_orders_4 rfl rfl (u_size h (by decide) ?_)
  refine r_iret dX1_orders_7 ?_
  exact hQ
theorem s_X1_kind (h : RX G Λ ρ (iS σ S (nI p) l s) M) {i : Nat} (hi : i < 2 ^ 31) (hQ : Q (some (.int (nI ((S.1 1).getD i 0)))) M)  : MS G yX1_kind cX1_kind 2 (some .int) (d + 1) 0 0 [.ref (Λ (6, 0, 0)), .int (nI i)] M Q QX := by
  refine MS.of (by decide) (by simp [Value.category]) (Nat.le_of_ble_eq_true rfl) ?_
  show AW _ (_, _, _, _, _, _, _, _, _) _ _ _ _ [some _, some _] _ _
  refine r_aload_n (q := 1) dX1_kind_0 rfl rfl ?_
  refine r_get (q := 4) (kk := 1) h.inp rfl wi_RX1 (by decide) rfl fk_X1_20 rfl dX1_kind_1 rfl ?_
  refine r_iload_n (q := 5) dX1_kind_4 rfl rfl ?_
  refine r_cV (q := 8) (As := [.int _]) wc_X1_50 rfl im_X2_at se_X2_at (h.row (by decide)) rfl rfl (Nat.le_of_ble_eq_true rfl) (Nat.le_of_eq (Nat.zero_add _)) (Nat.le_of_eq (Nat.zero_add _)) dX1_kind_5 rfl rfl (u_at h (by decide) (by omega) ?_)
  refine r_iret dX1_kind_8 ?_
  exact hQ
theorem s_X1_line (h : RX G Λ ρ (iS σ S (nI p) l s) M) {i : Nat} (hi : i < 2 ^ 31) (hQ : Q (some (.int (nI ((S.1 2).getD i 0)))) M)  : MS G yX1_line cX1_line 2 (some .int) (d + 1) 0 0 [.ref (Λ (6, 0, 0)), .int (nI i)] M Q QX := by
  refine MS.of (by decide) (by simp [Value.category]) (Nat.le_of_ble_eq_true rfl) ?_
  show AW _ (_, _, _, _, _, _, _, _, _) _ _ _ _ [some _, some _] _ _
  refine r_aload_n (q := 1) dX1_line_0 rfl rfl ?_
  refine r_get (q := 4) (kk := 2) h.inp rfl wi_RX1 (by decide) rfl fk_X1_23 rfl dX1_line_1 rfl ?_
  refine r_iload_n (q := 5) dX1_line_4 rfl rfl ?_
  refine r_cV (q := 8) (As := [.int _]) wc_X1_50 rfl im_X2_at se_X2_at (h.row (by decide)) rfl rfl (Nat.le_of_ble_eq_true rfl) (Nat.le_of_eq (Nat.zero_add _)) (Nat.le_of_eq (Nat.zero_add _)) dX1_line_5 rfl rfl (u_at h (by decide) (by omega) ?_)
  refine r_iret dX1_line_8 ?_
  exact hQ
theorem s_X1_second (h : RX G Λ ρ (iS σ S (nI p) l s) M) {i : Nat} (hi : i < 2 ^ 31) (hQ : Q (some (.int (nI ((S.1 3).getD i 0)))) M)  : MS G yX1_second cX1_second 2 (some .int) (d + 1) 0 0 [.ref (Λ (6, 0, 0)), .int (nI i)] M Q QX := by
  refine MS.of (by decide) (by simp [Value.category]) (Nat.le_of_ble_eq_true rfl) ?_
  show AW _ (_, _, _, _, _, _, _, _, _) _ _ _ _ [some _, some _] _ _
  refine r_aload_n (q := 1) dX1_second_0 rfl rfl ?_
  refine r_get (q := 4) (kk := 3) h.inp rfl wi_RX1 (by decide) rfl fk_X1_26 rfl dX1_second_1 rfl ?_
  refine r_iload_n (q := 5) dX1_second_4 rfl rfl ?_
  refine r_cV (q := 8) (As := [.int _]) wc_X1_50 rfl im_X2_at se_X2_at (h.row (by decide)) rfl rfl (Nat.le_of_ble_eq_true rfl) (Nat.le_of_eq (Nat.zero_add _)) (Nat.le_of_eq (Nat.zero_add _)) dX1_second_5 rfl rfl (u_at h (by decide) (by omega) ?_)
  refine r_iret dX1_second_8 ?_
  exact hQ
theorem s_X1_position (h : RX G Λ ρ (iS σ S (nI p) l s) M) (hQ : Q (some (.int (nI p))) M)  : MS G yX1_position cX1_position 1 (some .int) d 0 0 [.ref (Λ (6, 0, 0))] M Q QX := by
  refine MS.of (by decide) (by simp [Value.category]) (Nat.le_of_ble_eq_true rfl) ?_
  show AW _ (_, _, _, _, _, _, _, _, _) _ _ _ _ [some _] _ _
  refine r_aload_n (q := 1) dX1_position_0 rfl rfl ?_
  refine r_get (q := 4) (kk := 4) h.inp rfl wi_RX1 (by decide) rfl fk_X1_29 rfl dX1_position_1 rfl ?_
  rw [iM7]
  refine r_iret dX1_position_4 ?_
  exact hQ
theorem s_X1_empty (h : RX G Λ ρ (iS σ S (nI p) l s) M) (hQ : ∀ M', RX G Λ ρ (iS σ (uR S 0 []) (nI p) l s) M' → Q none M')  : MS G yX1_empty cX1_empty 1 none (d + 2) 0 0 [.ref (Λ (6, 0, 0))] M Q QX := by
  refine MS.of (by decide) (by simp [Value.category]) (Nat.le_of_ble_eq_true rfl) ?_
  show AW _ (_, _, _, _, _, _, _, _, _) _ _ _ _ [some _] _ _
  refine r_aload_n (q := 1) dX1_empty_0 rfl rfl ?_
  refine r_get (q := 4) (kk := 0) h.inp rfl wi_RX1 (by decide) rfl fk_X1_14 rfl dX1_empty_1 rfl ?_
  refine r_iconst (v := nI 0) (q := 5) dX1_empty_4 (by decide) rfl ?_
  refine r_iconst (v := nI 0) (q := 6) dX1_empty_5 (by decide) rfl ?_
  refine r_cV (q := 9) (As := [.int _, .int _]) wc_X1_43 rfl im_X2_fill se_X2_fill (h.row (by decide)) rfl rfl (Nat.le_of_ble_eq_true rfl) (Nat.le_of_eq (Nat.zero_add _)) (Nat.le_of_eq (Nat.zero_add _)) dX1_empty_6 rfl rfl (u_clr h (by decide) fun M_6 h_6 => ?_)
  try simp only [iS7, iS8, iS9] at h_6
  refine r_vret dX1_empty_9 ?_
  exact hQ _ h_6
theorem s_X1_addAll (h : RX G Λ ρ (iS σ S (nI p) l s) M) {x : Int32} (hQ : ∀ M', RX G Λ ρ (iS σ (uR S 0 (aAll (wdN x) 4 (S.1 0))) (nI p) l s) M' → Q none M')  : MS G yX1_addAll cX1_addAll 4 none (d + 1) 0 0 [.ref (Λ (6, 0, 0)), .int x] M Q QX := by
  have loop : ∀ (m : Nat) r (M1 : Me) (L : List Nat) u, m = 2 * r → r ≤ 4 → aAll (wdN x) 4 (S.1 0) = aAll (wdN x) r L → RX G Λ ρ (iS σ (uR S 0 L) (nI p) l s) M1 → AW G (wX G yX1_addAll cX1_addAll 4 none 0 0 Q QX) (d + 1) 0 0 3 [some (.ref (Λ (6, 0, 0))), some (.int x), some (.int (nI (8 * r) - nI 8)), u] [] M1 := by
    intro m
    induction m using Nat.strongRecOn with
    | _ m ih =>
    intro r M1 L u hm hr hg h1
    subst hm
    refine r_iload_n (q := 4) dX1_addAll_3 rfl rfl ?_
    refine r_if_lt (t := 33) (q := 7) dX1_addAll_4 rfl rfl (fun c4 => ?_) (fun c4 => ?_)
    · obtain rfl := (e8_neg hr).mp c4
      refine r_vret dX1_addAll_33 ?_
      replace hg : aAll (wdN x) 4 (S.1 0) = L := hg
      rw [← hg] at h1
      exact hQ _ h1
    · obtain ⟨r, rfl⟩ : ∃ r0, r = r0 + 1 := ⟨r - 1, by have := mt (e8_neg hr).mpr c4; omega⟩
      rw [e8]
      have hb : wdN x / 2 ^ (8 * r) % 256 < 256 := Nat.mod_lt _ (by decide)
      refine r_iload_n (q := 8) dX1_addAll_7 rfl rfl ?_
      refine r_iload_n (q := 9) dX1_addAll_8 rfl rfl ?_
      refine r_iushr (q := 10) dX1_addAll_9 rfl ?_
      refine r_sipush (v := nI 255) (q := 13) dX1_addAll_10 (by decide) rfl ?_
      refine r_iand (q := 14) dX1_addAll_13 rfl ?_
      rw [n_byte x (by omega)]
      refine r_istore_n (q := 15) dX1_addAll_14 (Nat.le_of_ble_eq_true rfl) rfl rfl ?_
      show AW _ (_, _, _, _, _, _, _, _, _) _ _ _ _ [some _, some _, some _, some _] _ _
      refine r_iload_n (q := 16) dX1_addAll_15 rfl rfl ?_
      refine r_if_eq (t := 27) (q := 19) dX1_addAll_16 rfl rfl (fun c16 => ?_) (fun c16 => ?_)
      · simp (disch := omega) only [nI_leI, nI_ltI, nI_eq, nI_lt0, nI_ge0, nI_gt0, nI_le0, nI_eq0] at c16
        refine r_iinc (q := 30) dX1_addAll_27 rfl (e8_dec _) (Nat.le_of_ble_eq_true rfl) rfl rfl ?_
        show AW _ (_, _, _, _, _, _, _, _, _) _ _ _ _ [some _, some _, some _, some _] _ _
        refine r_goto (t := 3) dX1_addAll_30 rfl ?_
        refine ih (2 * r) (by omega) r M1 L _ rfl (by omega) ?_ h1
        rw [hg, aAll, if_pos c16]
      · simp (disch := omega) only [nI_leI, nI_ltI, nI_eq, nI_lt0, nI_ge0, nI_gt0, nI_le0, nI_eq0] at c16
        refine r_aload_n (q := 20) dX1_addAll_19 rfl rfl ?_
        refine r_get (q := 23) (kk := 0) h1.inp rfl wi_RX1 (by decide) rfl fk_X1_14 rfl dX1_addAll_20 rfl ?_
        refine r_iload_n (q := 24) dX1_addAll_23 rfl rfl ?_
        refine r_cV (q := 27) (As := [.int _]) wc_X1_47 rfl im_X2_add se_X2_add (h1.row (by decide)) rfl rfl (Nat.le_of_ble_eq_true rfl) (Nat.le_of_eq (Nat.zero_add _)) (Nat.le_of_eq (Nat.zero_add _)) dX1_addAll_24 rfl rfl (u_add h1 (by decide) rfl (by omega) fun M_24 h1_24 => ?_)
        refine r_iinc (q := 30) dX1_addAll_27 rfl (e8_dec _) (Nat.le_of_ble_eq_true rfl) rfl rfl ?_
        show AW _ (_, _, _, _, _, _, _, _, _) _ _ _ _ [some _, some _, some _, some _] _ _
        refine r_goto (t := 3) dX1_addAll_30 rfl ?_
        rw [uRR] at h1_24
        refine ih (2 * r) (by omega) r _ _ _ rfl (by omega) ?_ h1_24
        rw [hg, aAll, if_neg c16]
        rfl
  refine MS.of (by decide) (by simp [Value.category]) (Nat.le_of_ble_eq_true rfl) ?_
  show AW _ (_, _, _, _, _, _, _, _, _) _ _ _ _ [some _, some _, _, _] _ _
  refine r_bipush (v := nI 24) (q := 2) dX1_addAll_0 (by decide) rfl ?_
  refine r_istore_n (q := 3) dX1_addAll_2 (Nat.le_of_ble_eq_true rfl) rfl rfl ?_
  show AW _ (_, _, _, _, _, _, _, _, _) _ _ _ _ [some _, some _, some _, _] _ _
  exact loop _ 4 M (S.1 0) none rfl (by decide) rfl (by rw [uR_self]; exact h)
theorem s_X1_isLetter {c : Nat} (hc : c < 2 ^ 31) (hQ : Q (some (.int (bI (isLt c)))) M)  : MS G yX1_isLetter cX1_isLetter 1 (some .boolean) d 0 0 [.int (nI c)] M Q QX := by
  refine MS.of (by decide) (by simp [Value.category]) (Nat.le_of_ble_eq_true rfl) ?_
  show AW _ (_, _, _, _, _, _, _, _, _) _ _ _ _ [some _] _ _
  refine r_iload_n (q := 1) dX1_isLetter_0 rfl rfl ?_
  refine r_bipush (v := nI 108) (q := 3) dX1_isLetter_1 (by decide) rfl ?_
  refine r_icmp_eq (t := 12) (q := 6) dX1_isLetter_3 rfl rfl (fun c3 => ?_) (fun c3 => ?_)
  · simp (disch := omega) only [nI_leI, nI_ltI, nI_eq, nI_lt0, nI_ge0, nI_gt0, nI_le0, nI_eq0] at c3
    rw [show isLt c = true from by rw [isLt, decide_eq_true c3]; rfl] at hQ
    refine r_iconst (v := nI 1) (q := 13) dX1_isLetter_12 (by decide) rfl ?_
    refine r_goto (t := 17) dX1_isLetter_13 rfl ?_
    refine r_zret dX1_isLetter_17 rfl ?_
    exact hQ
  · simp (disch := omega) only [nI_leI, nI_ltI, nI_eq, nI_lt0, nI_ge0, nI_gt0, nI_le0, nI_eq0] at c3
    refine r_iload_n (q := 7) dX1_isLetter_6 rfl rfl ?_
    refine r_bipush (v := nI 115) (q := 9) dX1_isLetter_7 (by decide) rfl ?_
    refine r_icmp_ne (t := 16) (q := 12) dX1_isLetter_9 rfl rfl (fun c9 => ?_) (fun c9 => ?_)
    · simp (disch := omega) only [nI_leI, nI_ltI, nI_eq, nI_lt0, nI_ge0, nI_gt0, nI_le0, nI_eq0] at c9
      rw [show isLt c = false from by rw [isLt, decide_eq_false c3, decide_eq_false c9]; rfl] at hQ
      refine r_iconst (v := nI 0) (q := 17) dX1_isLetter_16 (by decide) rfl ?_
      refine r_zret dX1_isLetter_17 rfl ?_
      exact hQ
    · simp (disch := omega) only [nI_leI, nI_ltI, nI_eq, nI_lt0, nI_ge0, nI_gt0, nI_le0, nI_eq0] at c9
      rw [show isLt c = true from by rw [isLt, decide_eq_true c9, Bool.or_true]] at hQ
      refine r_iconst (v := nI 1) (q := 13) dX1_isLetter_12 (by decide) rfl ?_
      refine r_goto (t := 17) dX1_isLetter_13 rfl ?_
      refine r_zret dX1_isLetter_17 rfl ?_
      exact hQ
theorem s_X1_parseSign (h : RX G Λ ρ (iS σ S (nI p) l s) M) (hp : p ≤ (S.1 0).length) {c : Nat} (hc : c < 2 ^ 31) (hQ : ∀ M', RX G Λ ρ (iS σ S (nI (pSg (S.1 0) c p).2) l s) M' → Q (some (.int (bI (pSg (S.1 0) c p).1))) M')  : MS G yX1_parseSign cX1_parseSign 2 (some .boolean) (d + 1) 0 0 [.ref (Λ (6, 0, 0)), .int (nI c)] M Q QX := by
  have hlen := u_len h (by decide : wR 11 0 = true)
  have hx := u_lt h (by decide : wR 11 0 = true) p
  refine MS.of (by decide) (by simp [Value.category]) (Nat.le_of_ble_eq_true rfl) ?_
  show AW _ (_, _, _, _, _, _, _, _, _) _ _ _ _ [some _, some _] _ _
  refine r_aload_n (q := 1) dX1_parseSign_0 rfl rfl ?_
  refine r_get (q := 4) (kk := 0) h.inp rfl wi_RX1 (by decide) rfl fk_X1_14 rfl dX1_parseSign_1 rfl ?_
  refine r_aload_n (q := 5) dX1_parseSign_4 rfl rfl ?_
  refine r_get (q := 8) (kk := 4) h.inp rfl wi_RX1 (by decide) rfl fk_X1_29 rfl dX1_parseSign_5 rfl ?_
  rw [iM7]
  refine r_cV (q := 11) (As := [.int _]) wc_X1_50 rfl im_X2_at se_X2_at (h.row (by decide)) rfl rfl (Nat.le_of_ble_eq_true rfl) (Nat.le_of_eq (Nat.zero_add _)) (Nat.le_of_eq (Nat.zero_add _)) dX1_parseSign_8 rfl rfl (u_at h (by decide) (by omega) ?_)
  refine r_iload_n (q := 12) dX1_parseSign_11 rfl rfl ?_
  refine r_icmp_eq (t := 17) (q := 15) dX1_parseSign_12 rfl rfl (fun c12 => ?_) (fun c12 => ?_)
  · simp (disch := omega) only [nI_leI, nI_ltI, nI_eq, nI_lt0, nI_ge0, nI_gt0, nI_le0, nI_eq0] at c12
    rw [show pSg (S.1 0) c p = (true, p + 1) from if_pos c12] at hQ
    refine r_aload_n (q := 18) dX1_parseSign_17 rfl rfl ?_
    refine r_dup (q := 19) dX1_parseSign_18 rfl rfl ?_
    refine r_get (q := 22) (kk := 4) h.inp rfl wi_RX1 (by decide) rfl fk_X1_29 rfl dX1_parseSign_19 rfl ?_
    rw [iM7]
    refine r_iconst (v := nI 1) (q := 23) dX1_parseSign_22 (by decide) rfl ?_
    refine r_iadd (q := 24) dX1_parseSign_23 rfl ?_
    rw [n_add]
    refine r_p1 (q := 27) (kk := 4) (j := 7) h (by decide) rfl fk_X1_29 dX1_parseSign_24 rfl fun M_24 h_24 => ?_
    try simp only [iS7, iS8, iS9] at h_24
    refine r_iconst (v := nI 1) (q := 28) dX1_parseSign_27 (by decide) rfl ?_
    refine r_zret dX1_parseSign_28 rfl ?_
    exact hQ _ h_24
  · simp (disch := omega) only [nI_leI, nI_ltI, nI_eq, nI_lt0, nI_ge0, nI_gt0, nI_le0, nI_eq0] at c12
    rw [show pSg (S.1 0) c p = (false, p) from if_neg c12] at hQ
    refine r_iconst (v := nI 0) (q := 16) dX1_parseSign_15 (by decide) rfl ?_
    refine r_zret dX1_parseSign_16 rfl ?_
    exact hQ _ h
theorem s_X1_parseDigit (h : RX G Λ ρ (iS σ S (nI p) l s) M) (hp : p ≤ (S.1 0).length) (hQ : ∀ M', RX G Λ ρ (iS σ S (nI (pDg (S.1 0) p).2) l s) M' → Q (some (.int (bI (pDg (S.1 0) p).1))) M')  : MS G yX1_parseDigit cX1_parseDigit 1 (some .boolean) (d + 1) 0 0 [.ref (Λ (6, 0, 0))] M Q QX := by
  have hlen := u_len h (by decide : wR 11 0 = true)
  have hx := u_lt h (by decide : wR 11 0 = true) p
  refine MS.of (by decide) (by simp [Value.category]) (Nat.le_of_ble_eq_true rfl) ?_
  show AW _ (_, _, _, _, _, _, _, _, _) _ _ _ _ [some _] _ _
  refine r_aload_n (q := 1) dX1_parseDigit_0 rfl rfl ?_
  refine r_get (q := 4) (kk := 0) h.inp rfl wi_RX1 (by decide) rfl fk_X1_14 rfl dX1_parseDigit_1 rfl ?_
  refine r_aload_n (q := 5) dX1_parseDigit_4 rfl rfl ?_
  refine r_get (q := 8) (kk := 4) h.inp rfl wi_RX1 (by decide) rfl fk_X1_29 rfl dX1_parseDigit_5 rfl ?_
  rw [iM7]
  refine r_cV (q := 11) (As := [.int _]) wc_X1_50 rfl im_X2_at se_X2_at (h.row (by decide)) rfl rfl (Nat.le_of_ble_eq_true rfl) (Nat.le_of_eq (Nat.zero_add _)) (Nat.le_of_eq (Nat.zero_add _)) dX1_parseDigit_8 rfl rfl (u_at h (by decide) (by omega) ?_)
  refine r_bipush (v := nI 48) (q := 13) dX1_parseDigit_11 (by decide) rfl ?_
  refine r_icmp_lt (t := 32) (q := 16) dX1_parseDigit_13 rfl rfl (fun c13 => ?_) (fun c13 => ?_)
  · simp (disch := omega) only [nI_leI, nI_ltI, nI_eq, nI_lt0, nI_ge0, nI_gt0, nI_le0, nI_eq0] at c13
    rw [show pDg (S.1 0) p = (false, p) from if_neg (by omega)] at hQ
    refine r_iconst (v := nI 0) (q := 33) dX1_parseDigit_32 (by decide) rfl ?_
    refine r_zret dX1_parseDigit_33 rfl ?_
    exact hQ _ h
  · simp (disch := omega) only [nI_leI, nI_ltI, nI_eq, nI_lt0, nI_ge0, nI_gt0, nI_le0, nI_eq0] at c13
    refine r_aload_n (q := 17) dX1_parseDigit_16 rfl rfl ?_
    refine r_get (q := 20) (kk := 0) h.inp rfl wi_RX1 (by decide) rfl fk_X1_14 rfl dX1_parseDigit_17 rfl ?_
    refine r_aload_n (q := 21) dX1_parseDigit_20 rfl rfl ?_
    refine r_get (q := 24) (kk := 4) h.inp rfl wi_RX1 (by decide) rfl fk_X1_29 rfl dX1_parseDigit_21 rfl ?_
    rw [iM7]
    refine r_cV (q := 27) (As := [.int _]) wc_X1_50 rfl im_X2_at se_X2_at (h.row (by decide)) rfl rfl (Nat.le_of_ble_eq_true rfl) (Nat.le_of_eq (Nat.zero_add _)) (Nat.le_of_eq (Nat.zero_add _)) dX1_parseDigit_24 rfl rfl (u_at h (by decide) (by omega) ?_)
    refine r_bipush (v := nI 57) (q := 29) dX1_parseDigit_27 (by decide) rfl ?_
    refine r_icmp_le (t := 34) (q := 32) dX1_parseDigit_29 rfl rfl (fun c29 => ?_) (fun c29 => ?_)
    · simp (disch := omega) only [nI_leI, nI_ltI, nI_eq, nI_lt0, nI_ge0, nI_gt0, nI_le0, nI_eq0] at c29
      rw [show pDg (S.1 0) p = (true, p + 1) from if_pos ⟨by omega, by omega⟩] at hQ
      refine r_aload_n (q := 35) dX1_parseDigit_34 rfl rfl ?_
      refine r_dup (q := 36) dX1_parseDigit_35 rfl rfl ?_
      refine r_get (q := 39) (kk := 4) h.inp rfl wi_RX1 (by decide) rfl fk_X1_29 rfl dX1_parseDigit_36 rfl ?_
      rw [iM7]
      refine r_iconst (v := nI 1) (q := 40) dX1_parseDigit_39 (by decide) rfl ?_
      refine r_iadd (q := 41) dX1_parseDigit_40 rfl ?_
      rw [n_add]
      refine r_p1 (q := 44) (kk := 4) (j := 7) h (by decide) rfl fk_X1_29 dX1_parseDigit_41 rfl fun M_41 h_41 => ?_
      try simp only [iS7, iS8, iS9] at h_41
      refine r_iconst (v := nI 1) (q := 45) dX1_parseDigit_44 (by decide) rfl ?_
      refine r_zret dX1_parseDigit_45 rfl ?_
      exact hQ _ h_41
    · simp (disch := omega) only [nI_leI, nI_ltI, nI_eq, nI_lt0, nI_ge0, nI_gt0, nI_le0, nI_eq0] at c29
      rw [show pDg (S.1 0) p = (false, p) from if_neg (by omega)] at hQ
      refine r_iconst (v := nI 0) (q := 33) dX1_parseDigit_32 (by decide) rfl ?_
      refine r_zret dX1_parseDigit_33 rfl ?_
      exact hQ _ h
theorem s_X1_parseWord (h : RX G Λ ρ (iS σ S (nI p) l s) M) (hp : p ≤ (S.1 0).length) (hQ : ∀ M', RX G Λ ρ (iS σ S (nI (pWl (S.1 0) 6 (p, 0, 0)).1) l (nI ((pWl (S.1 0) 6 (p, 0, 0)).2.1 * 64 + (pWl (S.1 0) 6 (p, 0, 0)).2.2))) M' → Q (some (.int (bI (decide (0 < (pWl (S.1 0) 6 (p, 0, 0)).2.1))))) M')  : MS G yX1_parseWord cX1_parseWord 3 (some .boolean) (d + 1) 0 0 [.ref (Λ (6, 0, 0))] M Q QX := by
  have hlen := u_len h (by decide : wR 11 0 = true)
  have loop : ∀ (m : Nat) (M1 : Me) (w : Nat × Nat × Nat), m = 6 - w.2.1 → w.2.1 ≤ 6 → pWl (S.1 0) 6 (p, 0, 0) = pWl (S.1 0) (6 - w.2.1) w → w.1 ≤ (S.1 0).length → w.2.2 < 2 ^ w.2.1 → RX G Λ ρ (iS σ S (nI w.1) l s) M1 → AW G (wX G yX1_parseWord cX1_parseWord 3 (some .boolean) 0 0 Q QX) (d + 1) 0 0 4 [some (.ref (Λ (6, 0, 0))), some (.int (nI w.2.1)), some (.int (nI w.2.2))] [] M1 := by
    intro m
    induction m using Nat.strongRecOn with
    | _ m ih =>
    intro M1 w hm hw6 hg hwp hwb h1
    subst hm
    refine r_iload_n (q := 5) dX1_parseWord_4 rfl rfl ?_
    refine r_bipush (v := nI 6) (q := 7) dX1_parseWord_5 (by decide) rfl ?_
    refine r_icmp_ge (t := 69) (q := 10) dX1_parseWord_7 rfl rfl (fun c7 => ?_) (fun c7 => ?_)
    · simp (disch := omega) only [nI_leI, nI_ltI, nI_eq, nI_lt0, nI_ge0, nI_gt0, nI_le0, nI_eq0] at c7
      replace hg : pWl (S.1 0) 6 (p, 0, 0) = w := by rw [hg, show 6 - w.2.1 = 0 by omega]; rfl
      refine r_aload_n (q := 70) dX1_parseWord_69 rfl rfl ?_
      refine r_iload_n (q := 71) dX1_parseWord_70 rfl rfl ?_
      refine r_iload_n (q := 72) dX1_parseWord_71 rfl rfl ?_
      refine r_cS (q := 75) (As := [.int _, .int _]) wc_X1_111 st_X7_of rfl (Nat.le_of_ble_eq_true rfl) (Nat.le_of_eq (Nat.zero_add _)) (Nat.le_of_eq (Nat.zero_add _)) dX1_parseWord_72 rfl rfl (s_X7_of (by omega) (pw64 hw6 hwb) ?_)
      refine r_p1 (q := 78) (kk := 6) (j := 9) h1 (by decide) rfl fk_X1_36 dX1_parseWord_75 rfl fun M_75 h1_75 => ?_
      try simp only [iS7, iS8, iS9] at h1_75
      refine r_iload_n (q := 79) dX1_parseWord_78 rfl rfl ?_
      refine r_if_le (t := 86) (q := 82) dX1_parseWord_79 rfl rfl (fun c79 => ?_) (fun c79 => ?_)
      · simp (disch := omega) only [nI_leI, nI_ltI, nI_eq, nI_lt0, nI_ge0, nI_gt0, nI_le0, nI_eq0] at c79
        have e9 : decide (0 < w.2.1) = false := decide_eq_false (by omega)
        refine r_iconst (v := nI 0) (q := 87) dX1_parseWord_86 (by decide) rfl ?_
        refine r_zret dX1_parseWord_87 rfl ?_
        rw [hg, e9] at hQ
        exact hQ _ h1_75
      · simp (disch := omega) only [nI_leI, nI_ltI, nI_eq, nI_lt0, nI_ge0, nI_gt0, nI_le0, nI_eq0] at c79
        have e9 : decide (0 < w.2.1) = true := decide_eq_true (by omega)
        refine r_iconst (v := nI 1) (q := 83) dX1_parseWord_82 (by decide) rfl ?_
        refine r_goto (t := 87) dX1_parseWord_83 rfl ?_
        refine r_zret dX1_parseWord_87 rfl ?_
        rw [hg, e9] at hQ
        exact hQ _ h1_75
    · simp (disch := omega) only [nI_leI, nI_ltI, nI_eq, nI_lt0, nI_ge0, nI_gt0, nI_le0, nI_eq0] at c7
      have hx := u_lt h1 (by decide : wR 11 0 = true) w.1
      have hb6 := pw64 hw6 hwb
      refine r_aload_n (q := 11) dX1_parseWord_10 rfl rfl ?_
      refine r_get (q := 14) (kk := 0) h1.inp rfl wi_RX1 (by decide) rfl fk_X1_14 rfl dX1_parseWord_11 rfl ?_
      refine r_aload_n (q := 15) dX1_parseWord_14 rfl rfl ?_
      refine r_get (q := 18) (kk := 4) h1.inp rfl wi_RX1 (by decide) rfl fk_X1_29 rfl dX1_parseWord_15 rfl ?_
      rw [iM7]
      refine r_cV (q := 21) (As := [.int _]) wc_X1_50 rfl im_X2_at se_X2_at (h1.row (by decide)) rfl rfl (Nat.le_of_ble_eq_true rfl) (Nat.le_of_eq (Nat.zero_add _)) (Nat.le_of_eq (Nat.zero_add _)) dX1_parseWord_18 rfl rfl (u_at h1 (by decide) (by omega) ?_)
      refine r_cS (q := 24) (As := [.int _]) wc_X1_108 st_X1_isLetter rfl (Nat.le_of_ble_eq_true rfl) (Nat.le_of_eq (Nat.zero_add _)) (Nat.le_of_eq (Nat.zero_add _)) dX1_parseWord_21 rfl rfl (s_X1_isLetter hx ?_)
      refine r_if_eq (t := 69) (q := 27) dX1_parseWord_24 rfl rfl (fun c24 => ?_) (fun c24 => ?_)
      · replace hg : pWl (S.1 0) 6 (p, 0, 0) = w := by rw [hg, show 6 - w.2.1 = 6 - (w.2.1 + 1) + 1 by omega, pWl, if_neg (by rw [bI_eq0.mp c24]; decide)]
        refine r_aload_n (q := 70) dX1_parseWord_69 rfl rfl ?_
        refine r_iload_n (q := 71) dX1_parseWord_70 rfl rfl ?_
        refine r_iload_n (q := 72) dX1_parseWord_71 rfl rfl ?_
        refine r_cS (q := 75) (As := [.int _, .int _]) wc_X1_111 st_X7_of rfl (Nat.le_of_ble_eq_true rfl) (Nat.le_of_eq (Nat.zero_add _)) (Nat.le_of_eq (Nat.zero_add _)) dX1_parseWord_72 rfl rfl (s_X7_of (by omega) (pw64 hw6 hwb) ?_)
        refine r_p1 (q := 78) (kk := 6) (j := 9) h1 (by decide) rfl fk_X1_36 dX1_parseWord_75 rfl fun M_75 h1_75 => ?_
        try simp only [iS7, iS8, iS9] at h1_75
        refine r_iload_n (q := 79) dX1_parseWord_78 rfl rfl ?_
        refine r_if_le (t := 86) (q := 82) dX1_parseWord_79 rfl rfl (fun c79 => ?_) (fun c79 => ?_)
        · simp (disch := omega) only [nI_leI, nI_ltI, nI_eq, nI_lt0, nI_ge0, nI_gt0, nI_le0, nI_eq0] at c79
          have e9 : decide (0 < w.2.1) = false := decide_eq_false (by omega)
          refine r_iconst (v := nI 0) (q := 87) dX1_parseWord_86 (by decide) rfl ?_
          refine r_zret dX1_parseWord_87 rfl ?_
          rw [hg, e9] at hQ
          exact hQ _ h1_75
        · simp (disch := omega) only [nI_leI, nI_ltI, nI_eq, nI_lt0, nI_ge0, nI_gt0, nI_le0, nI_eq0] at c79
          have e9 : decide (0 < w.2.1) = true := decide_eq_true (by omega)
          refine r_iconst (v := nI 1) (q := 83) dX1_parseWord_82 (by decide) rfl ?_
          refine r_goto (t := 87) dX1_parseWord_83 rfl ?_
          refine r_zret dX1_parseWord_87 rfl ?_
          rw [hg, e9] at hQ
          exact hQ _ h1_75
      · have hb := bI_ne c24
        have hsh : 1 * 2 ^ w.2.1 < 2 ^ 32 := by rw [Nat.one_mul]; exact Nat.pow_lt_pow_right (by decide) (by omega)
        refine r_iload_n (q := 28) dX1_parseWord_27 rfl rfl ?_
        refine r_aload_n (q := 29) dX1_parseWord_28 rfl rfl ?_
        refine r_get (q := 32) (kk := 0) h1.inp rfl wi_RX1 (by decide) rfl fk_X1_14 rfl dX1_parseWord_29 rfl ?_
        refine r_aload_n (q := 33) dX1_parseWord_32 rfl rfl ?_
        refine r_get (q := 36) (kk := 4) h1.inp rfl wi_RX1 (by decide) rfl fk_X1_29 rfl dX1_parseWord_33 rfl ?_
        rw [iM7]
        refine r_cV (q := 39) (As := [.int _]) wc_X1_50 rfl im_X2_at se_X2_at (h1.row (by decide)) rfl rfl (Nat.le_of_ble_eq_true rfl) (Nat.le_of_eq (Nat.zero_add _)) (Nat.le_of_eq (Nat.zero_add _)) dX1_parseWord_36 rfl rfl (u_at h1 (by decide) (by omega) ?_)
        refine r_bipush (v := nI 108) (q := 41) dX1_parseWord_39 (by decide) rfl ?_
        refine r_icmp_ne (t := 50) (q := 44) dX1_parseWord_41 rfl rfl (fun c41 => ?_) (fun c41 => ?_)
        · simp (disch := omega) only [nI_leI, nI_ltI, nI_eq, nI_lt0, nI_ge0, nI_gt0, nI_le0, nI_eq0] at c41
          refine r_iconst (v := nI 0) (q := 51) dX1_parseWord_50 (by decide) rfl ?_
          refine r_ior (q := 52) dX1_parseWord_51 rfl ?_
          first | rw [n_or, or_lo w.2.1 hwb, Nat.one_mul, show w.2.2 + 2 ^ w.2.1 = w.2.2 + (if (S.1 0).getD w.1 0 = 108 then 2 ^ w.2.1 else 0) by rw [if_pos c41]] | rw [n_or, Nat.or_zero, show nI w.2.2 = nI (w.2.2 + (if (S.1 0).getD w.1 0 = 108 then 2 ^ w.2.1 else 0)) by rw [if_neg c41, Nat.add_zero]]
          refine r_istore_n (q := 53) dX1_parseWord_52 (Nat.le_of_ble_eq_true rfl) rfl rfl ?_
          show AW _ (_, _, _, _, _, _, _, _, _) _ _ _ _ [some _, some _, some _] _ _
          refine r_inc1 (q := 56) dX1_parseWord_53 rfl (Nat.le_of_ble_eq_true rfl) rfl rfl ?_
          show AW _ (_, _, _, _, _, _, _, _, _) _ _ _ _ [some _, some _, some _] _ _
          refine r_aload_n (q := 57) dX1_parseWord_56 rfl rfl ?_
          refine r_dup (q := 58) dX1_parseWord_57 rfl rfl ?_
          refine r_get (q := 61) (kk := 4) h1.inp rfl wi_RX1 (by decide) rfl fk_X1_29 rfl dX1_parseWord_58 rfl ?_
          rw [iM7]
          refine r_iconst (v := nI 1) (q := 62) dX1_parseWord_61 (by decide) rfl ?_
          refine r_iadd (q := 63) dX1_parseWord_62 rfl ?_
          rw [n_add]
          refine r_p1 (q := 66) (kk := 4) (j := 7) h1 (by decide) rfl fk_X1_29 dX1_parseWord_63 rfl fun M_63 h1_63 => ?_
          try simp only [iS7, iS8, iS9] at h1_63
          refine r_goto (t := 4) dX1_parseWord_66 rfl ?_
          refine ih (6 - (w.2.1 + 1)) (by omega) _ (w.1 + 1, w.2.1 + 1, w.2.2 + (if (S.1 0).getD w.1 0 = 108 then 2 ^ w.2.1 else 0)) rfl (by dsimp only; omega) ?_ (getD_ne (isLt_ne hb)) ?_ ?_
          · rw [hg, show 6 - w.2.1 = 6 - (w.2.1 + 1) + 1 by omega, pWl, if_pos hb]
          · dsimp only
            rw [Nat.pow_succ]
            split <;> omega
          · exact h1_63
        · simp (disch := omega) only [nI_leI, nI_ltI, nI_eq, nI_lt0, nI_ge0, nI_gt0, nI_le0, nI_eq0] at c41
          refine r_iconst (v := nI 1) (q := 45) dX1_parseWord_44 (by decide) rfl ?_
          refine r_iload_n (q := 46) dX1_parseWord_45 rfl rfl ?_
          refine r_ishl (q := 47) dX1_parseWord_46 rfl ?_
          rw [n_shl (by omega) hsh]
          refine r_goto (t := 51) dX1_parseWord_47 rfl ?_
          refine r_ior (q := 52) dX1_parseWord_51 rfl ?_
          first | rw [n_or, or_lo w.2.1 hwb, Nat.one_mul, show w.2.2 + 2 ^ w.2.1 = w.2.2 + (if (S.1 0).getD w.1 0 = 108 then 2 ^ w.2.1 else 0) by rw [if_pos c41]] | rw [n_or, Nat.or_zero, show nI w.2.2 = nI (w.2.2 + (if (S.1 0).getD w.1 0 = 108 then 2 ^ w.2.1 else 0)) by rw [if_neg c41, Nat.add_zero]]
          refine r_istore_n (q := 53) dX1_parseWord_52 (Nat.le_of_ble_eq_true rfl) rfl rfl ?_
          show AW _ (_, _, _, _, _, _, _, _, _) _ _ _ _ [some _, some _, some _] _ _
          refine r_inc1 (q := 56) dX1_parseWord_53 rfl (Nat.le_of_ble_eq_true rfl) rfl rfl ?_
          show AW _ (_, _, _, _, _, _, _, _, _) _ _ _ _ [some _, some _, some _] _ _
          refine r_aload_n (q := 57) dX1_parseWord_56 rfl rfl ?_
          refine r_dup (q := 58) dX1_parseWord_57 rfl rfl ?_
          refine r_get (q := 61) (kk := 4) h1.inp rfl wi_RX1 (by decide) rfl fk_X1_29 rfl dX1_parseWord_58 rfl ?_
          rw [iM7]
          refine r_iconst (v := nI 1) (q := 62) dX1_parseWord_61 (by decide) rfl ?_
          refine r_iadd (q := 63) dX1_parseWord_62 rfl ?_
          rw [n_add]
          refine r_p1 (q := 66) (kk := 4) (j := 7) h1 (by decide) rfl fk_X1_29 dX1_parseWord_63 rfl fun M_63 h1_63 => ?_
          try simp only [iS7, iS8, iS9] at h1_63
          refine r_goto (t := 4) dX1_parseWord_66 rfl ?_
          refine ih (6 - (w.2.1 + 1)) (by omega) _ (w.1 + 1, w.2.1 + 1, w.2.2 + (if (S.1 0).getD w.1 0 = 108 then 2 ^ w.2.1 else 0)) rfl (by dsimp only; omega) ?_ (getD_ne (isLt_ne hb)) ?_ ?_
          · rw [hg, show 6 - w.2.1 = 6 - (w.2.1 + 1) + 1 by omega, pWl, if_pos hb]
          · dsimp only
            rw [Nat.pow_succ]
            split <;> omega
          · exact h1_63
  refine MS.of (by decide) (by simp [Value.category]) (Nat.le_of_ble_eq_true rfl) ?_
  show AW _ (_, _, _, _, _, _, _, _, _) _ _ _ _ [some _, _, _] _ _
  refine r_iconst (v := nI 0) (q := 1) dX1_parseWord_0 (by decide) rfl ?_
  refine r_istore_n (q := 2) dX1_parseWord_1 (Nat.le_of_ble_eq_true rfl) rfl rfl ?_
  show AW _ (_, _, _, _, _, _, _, _, _) _ _ _ _ [some _, some _, _] _ _
  refine r_iconst (v := nI 0) (q := 3) dX1_parseWord_2 (by decide) rfl ?_
  refine r_istore_n (q := 4) dX1_parseWord_3 (Nat.le_of_ble_eq_true rfl) rfl rfl ?_
  show AW _ (_, _, _, _, _, _, _, _, _) _ _ _ _ [some _, some _, some _] _ _
  exact loop _ M (p, 0, 0) rfl (Nat.zero_le 6) rfl hp (show (0 : Nat) < 2 ^ 0 by decide) h
end W32
