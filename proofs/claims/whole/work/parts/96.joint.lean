/-! BOTH TOGETHER: what holds between the class and the model -/
section W96
variable {S B : St} {F T : Nat → Nat} {n m : Nat} {σ σ2 : Sg} {μ μ2 : Mg}
theorem EN.cut (h : EN S F) (hi : Iv n S) {F2 : Nat → Nat} (e : ∀ j, j < 640 → F2 j = F j) : EN S F2 := by
  have h1 : F 1 ≤ 147 := by
    have := hrd_le (S := S)
    have := hi.h11
    rw [h.c1]; omega
  have h2 : F 2 ≤ 140 := by rw [h.c2]; exact hi.h12
  have h3 : F 3 ≤ 147 := by rw [h.c3]; exact hi.h11
  refine EN.mk ?_ ?_ ?_ ?_ ?_ ?_ ?_ ?_ ?_ ?_ ?_ ?_ ?_ ?_ ?_ ?_ ?_ ?_
  · rw [e 0 (by decide)]; exact h.c0
  · rw [e 1 (by decide)]; exact h.c1
  · rw [e 2 (by decide)]; exact h.c2
  · rw [e 3 (by decide)]; exact h.c3
  · rw [e 4 (by decide)]; exact h.c4
  · rw [e 5 (by decide)]; exact h.c5
  · rw [e 6 (by decide)]; exact h.c6
  · rw [e 7 (by decide)]; exact h.c7
  · rw [e 8 (by decide)]; exact h.c8
  · rw [e 9 (by decide)]; exact h.c9
  · intro l hl; rw [lF, e _ (by omega)]; exact h.w0 l hl
  · intro l hl; rw [lF, e _ (by omega)]; exact h.w1 l hl
  · intro l hl w h2 h9; rw [lF, e _ (by omega)]; exact h.ln l hl w h2 h9
  · intro l hl; rw [lF, e _ (by omega)]; exact h.l9 l hl
  · intro p hp w hw; rw [pF, e _ (by omega)]; exact h.pl p hp w hw
  · intro i hi; rw [e 1 (by decide)] at hi; rw [e _ (by omega)]; exact h.hd i hi
  · intro i hi; rw [e 2 (by decide)] at hi; rw [e _ (by omega)]; exact h.nx i hi
  · intro i hi; rw [e 3 (by decide)] at hi; rw [e _ (by omega)]; exact h.wd i hi
def HS (n : Nat) (σ : Sg) (μ : Mg) : Prop := ∃ o z : Nat, o < 8 ∧ z ≤ 8 ∧ gM σ 5 = nI o ∧ gM σ 6 = nI z ∧ gN μ 5 = nI z ∧ ∀ i, i < z → EN (gS σ (3 + (o + i) % 8)) (unF (gA μ 3) i) ∧ Iv n (gS σ (3 + (o + i) % 8))
def SV (n : Nat) (σ : Sg) (μ : Mg) : Prop := (gM σ 0 = 0 ∧ gN μ 12 = bI false) ∨ (gM σ 0 = nI 1 ∧ gN μ 12 = bI true ∧ EN (gS σ 2) (gA μ 2) ∧ Iv n (gS σ 2))
def JT (σ : Sg) (μ : Mg) : Prop := (gM σ 1 = gN μ 10) ∧ (gM σ 2 = gN μ 11) ∧ (gM σ 3 = gN μ 8) ∧ (gM σ 4 = gN μ 9) ∧ (gN μ 17 = nI (gT σ).length) ∧ (LTo (gT σ) (gA μ 6)) ∧ ((gT σ).length ≤ 1000) ∧ (∀ x ∈ gT σ, x < 128) ∧ (cOk (gC σ)) ∧ (gN μ 21 = nI (gR σ 11 0).length) ∧ (LTo (gR σ 11 0) (gA μ 7)) ∧ ((gR σ 11 0).length ≤ 60) ∧ (∀ x ∈ gR σ 11 0, 32 ≤ x ∧ x < 127) ∧ (∃ p : Nat, gM σ 7 = nI p) ∧ (∀ j, gA μ 9 j < 100)
theorem JT.er {σ : Sg} {μ : Mg} (h : JT σ μ) : gM σ 1 = gN μ 10 := h.1
theorem JT.it {σ : Sg} {μ : Mg} (h : JT σ μ) : gM σ 2 = gN μ 11 := h.2.1
theorem JT.rf {σ : Sg} {μ : Mg} (h : JT σ μ) : gM σ 3 = gN μ 8 := h.2.2.1
theorem JT.dt {σ : Sg} {μ : Mg} (h : JT σ μ) : gM σ 4 = gN μ 9 := h.2.2.2.1
theorem JT.tl {σ : Sg} {μ : Mg} (h : JT σ μ) : gN μ 17 = nI (gT σ).length := h.2.2.2.2.1
theorem JT.tt {σ : Sg} {μ : Mg} (h : JT σ μ) : LTo (gT σ) (gA μ 6) := h.2.2.2.2.2.1
theorem JT.tn {σ : Sg} {μ : Mg} (h : JT σ μ) : (gT σ).length ≤ 1000 := h.2.2.2.2.2.2.1
theorem JT.tx {σ : Sg} {μ : Mg} (h : JT σ μ) : ∀ x ∈ gT σ, x < 128 := h.2.2.2.2.2.2.2.1
theorem JT.ck {σ : Sg} {μ : Mg} (h : JT σ μ) : cOk (gC σ) := h.2.2.2.2.2.2.2.2.1
theorem JT.fl {σ : Sg} {μ : Mg} (h : JT σ μ) : gN μ 21 = nI (gR σ 11 0).length := h.2.2.2.2.2.2.2.2.2.1
theorem JT.ft {σ : Sg} {μ : Mg} (h : JT σ μ) : LTo (gR σ 11 0) (gA μ 7) := h.2.2.2.2.2.2.2.2.2.2.1
theorem JT.fc {σ : Sg} {μ : Mg} (h : JT σ μ) : (gR σ 11 0).length ≤ 60 := h.2.2.2.2.2.2.2.2.2.2.2.1
theorem JT.fd {σ : Sg} {μ : Mg} (h : JT σ μ) : ∀ x ∈ gR σ 11 0, 32 ≤ x ∧ x < 127 := h.2.2.2.2.2.2.2.2.2.2.2.2.1
theorem JT.pz {σ : Sg} {μ : Mg} (h : JT σ μ) : ∃ p : Nat, gM σ 7 = nI p := h.2.2.2.2.2.2.2.2.2.2.2.2.2.1
theorem JT.n9 {σ : Sg} {μ : Mg} (h : JT σ μ) : ∀ j, gA μ 9 j < 100 := h.2.2.2.2.2.2.2.2.2.2.2.2.2.2
theorem JT.mk {σ : Sg} {μ : Mg} (er' : gM σ 1 = gN μ 10) (it' : gM σ 2 = gN μ 11) (rf' : gM σ 3 = gN μ 8) (dt' : gM σ 4 = gN μ 9) (tl' : gN μ 17 = nI (gT σ).length) (tt' : LTo (gT σ) (gA μ 6)) (tn' : (gT σ).length ≤ 1000) (tx' : ∀ x ∈ gT σ, x < 128) (ck' : cOk (gC σ)) (fl' : gN μ 21 = nI (gR σ 11 0).length) (ft' : LTo (gR σ 11 0) (gA μ 7)) (fc' : (gR σ 11 0).length ≤ 60) (fd' : ∀ x ∈ gR σ 11 0, 32 ≤ x ∧ x < 127) (pz' : ∃ p : Nat, gM σ 7 = nI p) (n9' : ∀ j, gA μ 9 j < 100) : JT σ μ := ⟨er', it', rf', dt', tl', tt', tn', tx', ck', fl', ft', fc', fd', pz', n9'⟩
def JR (n : Nat) (σ : Sg) (μ : Mg) : Prop := (EN (gS σ 0) (gA μ 0)) ∧ (Iv n (gS σ 0)) ∧ (HS n σ μ) ∧ (SV n σ μ) ∧ (JT σ μ)
theorem JR.en {n : Nat} {σ : Sg} {μ : Mg} (h : JR n σ μ) : EN (gS σ 0) (gA μ 0) := h.1
theorem JR.iv {n : Nat} {σ : Sg} {μ : Mg} (h : JR n σ μ) : Iv n (gS σ 0) := h.2.1
theorem JR.hs {n : Nat} {σ : Sg} {μ : Mg} (h : JR n σ μ) : HS n σ μ := h.2.2.1
theorem JR.sv {n : Nat} {σ : Sg} {μ : Mg} (h : JR n σ μ) : SV n σ μ := h.2.2.2.1
theorem JR.t {n : Nat} {σ : Sg} {μ : Mg} (h : JR n σ μ) : JT σ μ := h.2.2.2.2
theorem JR.mk {n : Nat} {σ : Sg} {μ : Mg} (en' : EN (gS σ 0) (gA μ 0)) (iv' : Iv n (gS σ 0)) (hs' : HS n σ μ) (sv' : SV n σ μ) (t' : JT σ μ) : JR n σ μ := ⟨en', iv', hs', sv', t'⟩
theorem HS.hv (h : HS n σ μ) : Hv σ := by
  obtain ⟨o, z, a, b, c, d, -⟩ := h
  exact ⟨o, z, a, b, c, d⟩
theorem HS.up (h : HS n σ μ) (hm : n ≤ m) : HS m σ μ := by
  obtain ⟨o, z, a, b, c, d, e, f⟩ := h
  exact ⟨o, z, a, b, c, d, e, fun i hi => ⟨(f i hi).1, (f i hi).2.up hm⟩⟩
theorem SV.up (h : SV n σ μ) (hm : n ≤ m) : SV m σ μ := by
  rcases h with h | ⟨a, b, c, d⟩
  · exact Or.inl h
  · exact Or.inr ⟨a, b, c, d.up hm⟩
theorem JR.up (h : JR n σ μ) (hm : n ≤ m) : JR m σ μ := JR.mk h.en (h.iv.up hm) (h.hs.up hm) (h.sv.up hm) h.t
theorem HS.same (h : HS n σ μ) (h5 : gM σ2 5 = gM σ 5) (h6 : gM σ2 6 = gM σ 6) (hs : ∀ a, 3 ≤ a → a < 11 → gS σ2 a = gS σ a) (k5 : gN μ2 5 = gN μ 5) (k3 : gA μ2 3 = gA μ 3) : HS n σ2 μ2 := by
  obtain ⟨o, z, a, b, c, d, e, f⟩ := h
  refine ⟨o, z, a, b, h5.trans c, h6.trans d, k5.trans e, fun i hi => ?_⟩
  have : (o + i) % 8 < 8 := Nat.mod_lt _ (by decide)
  rw [hs _ (by omega) (by omega), k3]; exact f i hi
theorem SV.same (h : SV n σ μ) (h0 : gM σ2 0 = gM σ 0) (h2 : gS σ2 2 = gS σ 2) (k12 : gN μ2 12 = gN μ 12) (k2 : gA μ2 2 = gA μ 2) : SV n σ2 μ2 := by
  rw [SV, h0, h2, k12, k2]; exact h
theorem JT.same (h : JT σ μ) (hg : ∀ j, j = 1 ∨ j = 2 ∨ j = 3 ∨ j = 4 ∨ j = 7 → gM σ2 j = gM σ j) (hT : gT σ2 = gT σ) (hC : gC σ2 = gC σ) (hR : gR σ2 11 0 = gR σ 11 0) (kn : ∀ k, k = 8 ∨ k = 9 ∨ k = 10 ∨ k = 11 ∨ k = 17 ∨ k = 21 → gN μ2 k = gN μ k) (ka : ∀ i, i = 6 ∨ i = 7 ∨ i = 9 → gA μ2 i = gA μ i) : JT σ2 μ2 := by
  obtain ⟨p, hp⟩ := h.pz
  refine JT.mk ?_ ?_ ?_ ?_ ?_ ?_ ?_ ?_ ?_ ?_ ?_ ?_ ?_ ⟨p, by rw [hg 7 (by decide)]; exact hp⟩ ?_
  · rw [hg 1 (by decide), kn 10 (by decide)]; exact h.er
  · rw [hg 2 (by decide), kn 11 (by decide)]; exact h.it
  · rw [hg 3 (by decide), kn 8 (by decide)]; exact h.rf
  · rw [hg 4 (by decide), kn 9 (by decide)]; exact h.dt
  · rw [hT, kn 17 (by decide)]; exact h.tl
  · rw [hT, ka 6 (by decide)]; exact h.tt
  · rw [hT]; exact h.tn
  · rw [hT]; exact h.tx
  · rw [hC]; exact h.ck
  · rw [hR, kn 21 (by decide)]; exact h.fl
  · rw [hR, ka 7 (by decide)]; exact h.ft
  · rw [hR]; exact h.fc
  · rw [hR]; exact h.fd
  · rw [ka 9 (by decide)]; exact h.n9
theorem hP_M {o z a j : Nat} (h5 : j ≠ 5) (h6 : j ≠ 6) : gM (hPush σ o z a) j = gM σ j := by
  unfold hPush
  split
  · rw [gM_sM, if_neg h6, gM_sS, gM_sM, if_neg h6, gM_sM, if_neg h5]
  · rw [gM_sM, if_neg h6, gM_sS]
theorem hP_T {o z a : Nat} : gT (hPush σ o z a) = gT σ := by unfold hPush; split <;> rfl
theorem hP_C {o z a : Nat} : gC (hPush σ o z a) = gC σ := by unfold hPush; split <;> rfl
theorem hP_S {o z a b : Nat} (hb : b < 3 ∨ 11 ≤ b) : gS (hPush σ o z a) b = gS σ b := by
  unfold hPush
  have h1 : ((o + 1) % 8 + 7) % 8 < 8 := Nat.mod_lt _ (by decide)
  have h2 : (o + z) % 8 < 8 := Nat.mod_lt _ (by decide)
  split
  · rw [gS_sM, gS_ne (by omega)]; rfl
  · rw [gS_sM, gS_ne (by omega)]
theorem hs_push {o z a : Nat} (ho : gM σ 5 = nI o) (ho8 : o < 8) (hz8 : z ≤ 8) (hz : gM σ 6 = nI z) (hold : ∀ i, i < z → EN (gS σ (3 + (o + i) % 8)) (unF T i) ∧ Iv n (gS σ (3 + (o + i) % 8))) (hB : EN (gS σ a) F) (hiB : Iv n (gS σ a)) (hn5 : gN μ2 5 = nI (kpN z)) (hA3 : gA μ2 3 = kpF F T z) : HS n (hPush σ o z a) μ2 := by
  by_cases g : z = 8
  · subst g
    have hk : kpN 8 = 8 := rfl
    have e5 : gM (hPush σ o 8 a) 5 = nI ((o + 1) % 8) := by
      rw [hPush, if_pos rfl, gM_sM, if_neg (by decide), gM_sS, gM_sM, if_neg (by decide), gM_sM, if_pos rfl]
    have e6 : gM (hPush σ o 8 a) 6 = nI 8 := by rw [hPush, if_pos rfl, gM_sM, if_pos rfl]
    refine ⟨(o + 1) % 8, 8, Nat.mod_lt _ (by decide), Nat.le_refl _, e5, e6, by rw [hn5, hk], fun i hi => ?_⟩
    have hS : ∀ b, gS (hPush σ o 8 a) b = if b = 3 + ((o + 1) % 8 + 7) % 8 then gS σ a else gS σ b := fun b => by
      rw [hPush, if_pos rfl, gS_sM]
      by_cases e : b = 3 + ((o + 1) % 8 + 7) % 8
      · rw [if_pos e, e, gS_sS]
      · rw [if_neg e, gS_ne e]; rfl
    rw [hS, hA3, kpF, if_pos rfl]
    by_cases e : i = 7
    · subst e
      rw [if_pos rfl]
      refine ⟨hB.cut hiB fun j hj => ?_, hiB⟩
      rw [unF, cpF, if_pos (by omega), show 0 + (640 * 7 + j - 4480) = j by omega]
    · rw [if_neg (by omega), show ((o + 1) % 8 + i) % 8 = (o + (i + 1)) % 8 by omega]
      obtain ⟨x, y⟩ := hold (i + 1) (by omega)
      refine ⟨x.cut y fun j hj => ?_, y⟩
      rw [unF, cpF, if_neg (by omega), shB, if_pos (by omega), unF, show 640 * i + j + 640 = 640 * (i + 1) + j by omega]
  · have hk : kpN z = z + 1 := if_neg g
    have e5 : gM (hPush σ o z a) 5 = nI o := by rw [hPush, if_neg g, gM_sM, if_neg (by decide), gM_sS, ho]
    have e6 : gM (hPush σ o z a) 6 = nI (z + 1) := by rw [hPush, if_neg g, gM_sM, if_pos rfl]
    refine ⟨o, z + 1, ho8, by omega, e5, e6, by rw [hn5, hk], fun i hi => ?_⟩
    have hS : ∀ b, gS (hPush σ o z a) b = if b = 3 + (o + z) % 8 then gS σ a else gS σ b := fun b => by
      rw [hPush, if_neg g, gS_sM]
      by_cases e : b = 3 + (o + z) % 8
      · rw [if_pos e, e, gS_sS]
      · rw [if_neg e, gS_ne e]
    rw [hS, hA3, kpF, if_neg g]
    by_cases e : i = z
    · subst e
      rw [if_pos rfl]
      refine ⟨hB.cut hiB fun j hj => ?_, hiB⟩
      rw [unF, cpF, if_pos (by omega), show 0 + (640 * i + j - 640 * i) = j by omega]
    · rw [if_neg (by omega)]
      obtain ⟨x, y⟩ := hold i (by omega)
      refine ⟨x.cut y fun j hj => ?_, y⟩
      rw [unF, cpF, if_neg (by omega), unF]
/-- a refusal, an error: nothing changes but what was refused -/
theorem JR.no (h : JR n σ μ) {c : Nat} : JR n σ (mNo μ c) := by
  have e : ∀ k, k ≠ 4 → gN (mNo μ c) k = gN μ k := fun k hk => by rw [mNo, gN_sNn hk, gN_bg hk]
  have ea : ∀ i, i ≠ 1 → gA (mNo μ c) i = gA μ i := fun i hi => by rw [mNo, gA_sNe, bgM, gA_n hi, gA_sNe]
  refine JR.mk (by rw [ea 0 (by decide)]; exact h.en) h.iv (h.hs.same rfl rfl (fun _ _ _ => rfl) (e 5 (by decide)) (ea 3 (by decide))) (h.sv.same rfl rfl (e 12 (by decide)) (ea 2 (by decide))) (h.t.same (fun _ _ => rfl) rfl rfl rfl (fun k hk => e k (by omega)) fun i hi => ea i (by omega))
theorem JR.rfu (h : JR n σ μ) {c : Nat} {x : Int32 × Int32} : JR n (fR σ (some x)) (mRf μ x c) := by
  have e : ∀ k, k ≠ 4 → k ≠ 6 → k ≠ 7 → k ≠ 8 → k ≠ 9 → gN (mRf μ x c) k = gN μ k := fun k h4 h6 h7 h8 h9 => by rw [mRf, gN_sNn h4, gN_sNn h9, gN_sNn h8, gN_sNn h7, gN_sNn h6, gN_bg h4]
  have ea : ∀ i, i ≠ 1 → gA (mRf μ x c) i = gA μ i := fun i hi => by rw [mRf, gA_sNe, gA_sNe, gA_sNe, gA_sNe, gA_sNe, bgM, gA_n hi, gA_sNe]
  have e8 : gN (mRf μ x c) 8 = x.1 := by rw [mRf, gN_sNn (by decide), gN_sNn (by decide), gN_sNs]
  have e9 : gN (mRf μ x c) 9 = x.2 := by rw [mRf, gN_sNn (by decide), gN_sNs]
  have m : ∀ j, j ≠ 3 → j ≠ 4 → gM (fR σ (some x)) j = gM σ j := fun j h3 h4 => by rw [fR, gM_sM, if_neg h4, gM_sM, if_neg h3]
  have m3 : gM (fR σ (some x)) 3 = x.1 := by rw [fR, gM_sM, if_neg (by decide), gM_sM, if_pos rfl]
  have m4 : gM (fR σ (some x)) 4 = x.2 := by rw [fR, gM_sM, if_pos rfl]
  obtain ⟨p, hp⟩ := h.t.pz
  refine JR.mk (by rw [ea 0 (by decide)]; exact h.en) h.iv (h.hs.same (m 5 (by decide) (by decide)) (m 6 (by decide) (by decide)) (fun _ _ _ => rfl) (e 5 (by decide) (by decide) (by decide) (by decide) (by decide)) (ea 3 (by decide))) (h.sv.same (m 0 (by decide) (by decide)) rfl (e 12 (by decide) (by decide) (by decide) (by decide) (by decide)) (ea 2 (by decide))) ?_
  refine JT.mk ?_ ?_ (m3.trans e8.symm) (m4.trans e9.symm) ?_ ?_ h.t.tn h.t.tx h.t.ck ?_ ?_ h.t.fc h.t.fd ⟨p, (m 7 (by decide) (by decide)).trans hp⟩ (by rw [ea 9 (by decide)]; exact h.t.n9)
  · rw [m 1 (by decide) (by decide), e 10 (by decide) (by decide) (by decide) (by decide) (by decide)]; exact h.t.er
  · rw [m 2 (by decide) (by decide), e 11 (by decide) (by decide) (by decide) (by decide) (by decide)]; exact h.t.it
  · rw [e 17 (by decide) (by decide) (by decide) (by decide) (by decide)]; exact h.t.tl
  · rw [ea 6 (by decide)]; exact h.t.tt
  · rw [e 21 (by decide) (by decide) (by decide) (by decide) (by decide)]; exact h.t.fl
  · rw [ea 7 (by decide)]; exact h.t.ft
/-- a change -/
theorem JR.ok (h : JR n σ μ) {S' : St} {F' : Nat → Nat} {z : Nat} (hz : gN μ 5 = nI z) (hz8 : z ≤ 8) (hE : EN S' F') (hi : Iv m S') (hm : n ≤ m) : JR m (sS (pN σ (gS σ 0)) 0 S') (mOk μ F' z) := by
  obtain ⟨o, z', a, b, c, d, e, f⟩ := h.hs
  have ez : z' = z := by
    have e2 := e.symm.trans hz
    have := congrArg Int32.toNatClampNeg e2
    rw [nI_c7 (by omega), nI_c7 (by omega)] at this
    exact this
  subst ez
  have ep : pN σ (gS σ 0) = hPush σ o z' 0 := by rw [pN, sS_gS, c, d, nI_c7 (by omega), nI_c7 (by omega)]
  have hA : ∀ i, i ≠ 0 → i ≠ 1 → i ≠ 3 → gA (mOk μ F' z') i = gA μ i := fun i h0 h1 h3 => by rw [mOk, kpM, gA_sNe, gA_n h3, gA_n h0, bgM, gA_n h1, gA_sNe]
  have hA0 : gA (mOk μ F' z') 0 = F' := by rw [mOk, kpM, gA_sNe, gA_n (by decide), gA_s]
  have hA3 : gA (mOk μ F' z') 3 = kpF (gA μ 0) (gA μ 3) z' := by
    rw [mOk, kpM, gA_sNe, gA_s, gA_n (by decide), gA_n (by decide), bgM, gA_s, gA_n (by decide), gA_sNe]
  have hN : ∀ k, k ≠ 4 → k ≠ 5 → gN (mOk μ F' z') k = gN μ k := fun k h4 h5 => by rw [mOk, kpM, gN_sNn h5, gN_sA, gN_sA, gN_bg h4]
  have hN5 : gN (mOk μ F' z') 5 = nI (kpN z') := by rw [mOk, kpM, gN_sNs]
  rw [ep]
  have hH : HS m (hPush σ o z' 0) (mOk μ F' z') := (hs_push c a b d f h.en h.iv hN5 hA3).up hm
  have hM : ∀ j, j ≠ 5 → j ≠ 6 → gM (sS (hPush σ o z' 0) 0 S') j = gM σ j := fun j h5 h6 => by rw [gM_sS, hP_M h5 h6]
  refine JR.mk (by rw [gS_sS, hA0]; exact hE) (by rw [gS_sS]; exact hi) (hH.same rfl rfl (fun a h3 _ => gS_ne (by omega)) rfl rfl) ((h.sv.up hm).same (hM 0 (by decide) (by decide)) ?_ (hN 12 (by decide) (by decide)) (hA 2 (by decide) (by decide) (by decide))) (h.t.same (fun j hj => hM j (by omega) (by omega)) hP_T hP_C ?_ (fun k hk => hN k (by omega) (by omega)) fun i hi => hA i (by omega) (by omega) (by omega))
  · rw [gS_ne (by decide), hP_S (Or.inl (by decide))]
  · rw [gR_n (by decide), gR_gS, hP_S (Or.inr (by decide))]; rfl
/-- a question: the model's code alone -/
theorem JR.q4 (h : JR n σ μ) {v : Int32} : JR n σ (sN μ 4 v) :=
  JR.mk h.en h.iv (h.hs.same rfl rfl (fun _ _ _ => rfl) (gN_sNn (by decide)) rfl) (h.sv.same rfl rfl (gN_sNn (by decide)) rfl) (h.t.same (fun _ _ => rfl) rfl rfl rfl (fun k hk => gN_sNn (by omega)) fun _ _ => rfl)
/-- cells of the model that nothing speaks of -/
theorem JR.sa (h : JR n σ μ) {i : Nat} {F' : Nat → Nat} (hi : i = 1 ∨ i = 4 ∨ i = 5 ∨ i = 8) : JR n σ (sA μ i F') := by
  have e : ∀ j, j ≠ i → gA (sA μ i F') j = gA μ j := fun j hj => gA_n hj
  exact JR.mk (by rw [e 0 (by omega)]; exact h.en) h.iv (h.hs.same rfl rfl (fun _ _ _ => rfl) rfl (e 3 (by omega))) (h.sv.same rfl rfl rfl (e 2 (by omega))) (h.t.same (fun _ _ => rfl) rfl rfl rfl (fun _ _ => rfl) fun j hj => e j (by omega))
theorem JR.sn (h : JR n σ μ) {k : Nat} {v : Int32} (hk : k = 4 ∨ k = 6 ∨ k = 7 ∨ k = 15 ∨ k = 22 ∨ k = 23 ∨ k = 24 ∨ k = 25 ∨ k = 26) : JR n σ (sN μ k v) :=
  JR.mk h.en h.iv (h.hs.same rfl rfl (fun _ _ _ => rfl) (gN_sNn (by omega)) rfl) (h.sv.same rfl rfl (gN_sNn (by omega)) rfl) (h.t.same (fun _ _ => rfl) rfl rfl rfl (fun k' hk' => gN_sNn (by omega)) fun _ _ => rfl)
/-- the class's strip rows, the slot before -/
theorem JR.s12 (h : JR n σ μ) {S' : St} : JR n (sS σ 12 S') μ :=
  JR.mk (by rw [gS_ne (by decide)]; exact h.en) (by rw [gS_ne (by decide)]; exact h.iv) (h.hs.same rfl rfl (fun a _ h11 => gS_ne (by omega)) rfl rfl) (h.sv.same rfl (gS_ne (by decide)) rfl rfl) (h.t.same (fun _ _ => rfl) rfl rfl (gR_n (by decide)) (fun _ _ => rfl) fun _ _ => rfl)
end W96
