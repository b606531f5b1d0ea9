/-! ONE STATE, TWICE: the echoes heard at the end of an hour -/
section W85
variable {S : St} {F G : Nat → Nat} {n : Nat} {L : List Nat}
theorem ec_f {x : Nat} (hx : x < 2097152) (h1 : 1 ≤ dH x) : 262144 ≤ x ∧ dT (x - 262144) = dT x ∧ dW (x - 262144) = dW x ∧ dE (x - 262144) = dE x ∧ dD (x - 262144) = dD x ∧ dH (x - 262144) = dH x - 1 ∧ x - 262144 < 2097152 := by
  have h : 262144 ≤ x := by unfold dH at h1; omega
  refine ⟨h, ?_, ?_, ?_, ?_, ?_, by omega⟩
  · unfold dT; omega
  · unfold dW; omega
  · unfold dE; omega
  · unfold dD; omega
  · unfold dH; omega
theorem cvS_sub {x : Nat} (hx : x < 2097152) (h1 : 1 ≤ dH x) : cvS (x - 262144) = cvS x := by
  obtain ⟨-, a, b, c, d, -⟩ := ec_f hx h1
  rw [cvS, cvS, a, b, c, d]
theorem fTr_1 {T : List Nat × List Nat × List Nat} {R : List Nat} {b : Nat} : (fTr S T R).1 b = if b = 12 then R else if b = 10 then T.2.1 else if b = 11 then T.1 else S.1 b := rfl
theorem hStp_a {T : List Nat × List Nat × List Nat} {x : Nat} (h : dH (x - 262144) = 0) : hStp T x = (rAdd 147 T.1 (x - 262144), T.2.1.set (dE x - 1) (T.2.1.getD (dE x - 1) 0 + 1), T.2.2) := if_pos h
theorem hStp_b {T : List Nat × List Nat × List Nat} {x : Nat} (h : ¬ dH (x - 262144) = 0) : hStp T x = (T.1, T.2.1, T.2.2 ++ [x - 262144]) := if_neg h
theorem em_hearA (T : List Nat × List Nat × List Nat) {x k : Nat} (m : EM (fTr S T T.2.2) F) (hx : x < 2097152) (h1 : 1 < dH x) (hk : k < 140) (ht1 : T.1.length ≤ k) (ht2 : T.2.2.length ≤ k) (hG : G (280 + k) = 1000000 * dH x + cvS x) : EM (fTr S (hStp T x) (hStp T x).2.2) (hrS G F k) ∧ (hStp T x).1.length ≤ k + 1 ∧ (hStp T x).2.2.length ≤ k + 1 ∧ (hStp T x).2.1.length = T.2.1.length ∧ ∀ l, l < 7 → lF (hrS G F k) l 9 = lF F l 9 := by
  obtain ⟨-, -, -, -, -, f6, f7⟩ := ec_f hx (by omega)
  have hlt := cvS_lt x
  have q1 : G (280 + k) / 1000000 = dH x := by rw [hG]; omega
  have q2 : G (280 + k) % 1000000 = cvS x := by rw [hG]; omega
  have c1 : F 1 ≤ k := by
    rw [m.c1]
    have := hrd_le (S := fTr S T T.2.2)
    rw [fTr_1, if_neg (by decide), if_neg (by decide), if_pos rfl] at this
    omega
  have c2 : F 2 = T.2.2.length := m.c2
  rw [hStp_b (by omega), hrS, if_pos (by rw [q1]; exact h1), hrA, q1, q2]
  have m1 := em_up m (x := 0) (k := k) (by omega) (by omega) (by omega)
  have u2 : uN F (280 + k) 0 2 = F 2 := cF_uN (by omega)
  have m2 := em_ech m1 (s := x - 262144) (x := 1000000 * (dH x - 1) + cvS x) (by rw [f6, cvS_sub hx (by omega)]) (by rw [cF_uN (by omega)]; omega) (by rw [u2]; omega)
  rw [u2] at m2
  have eS : uR (fTr S T T.2.2) 12 ((fTr S T T.2.2).1 12 ++ [x - 262144]) = fTr S (T.1, T.2.1, T.2.2 ++ [x - 262144]) (T.2.2 ++ [x - 262144]) := by
    refine Prod.ext (funext fun b => ?_) rfl
    show (if b = 12 then T.2.2 ++ [x - 262144] else if b = 12 then T.2.2 else if b = 10 then T.2.1 else if b = 11 then T.1 else S.1 b) = if b = 12 then T.2.2 ++ [x - 262144] else if b = 10 then T.2.1 else if b = 11 then T.1 else S.1 b
    by_cases g : b = 12
    · rw [if_pos g, if_pos g]
    · rw [if_neg g, if_neg g, if_neg g]
  rw [eS] at m2
  refine ⟨m2, by show T.1.length ≤ k + 1; omega, by show (T.2.2 ++ [x - 262144]).length ≤ k + 1; rw [List.length_append]; show T.2.2.length + 1 ≤ _; omega, rfl, fun l hl => ?_⟩
  rw [lF_uN (by omega) hl (by decide), lF_uN (by omega) hl (by decide), lF_uN (by omega) hl (by decide)]
theorem em_hearB (T : List Nat × List Nat × List Nat) {x k : Nat} (m : EM (fTr S T T.2.2) F) (hx : x < 2097152) (h1 : dH x = 1) (he : 1 ≤ dE x ∧ dE x ≤ 4) (h4 : T.2.1.length = 4) (hk : k < 140) (ht1 : T.1.length ≤ k) (ht2 : T.2.2.length ≤ k) (hG : G (280 + k) = 1000000 * dH x + cvS x) : EM (fTr S (hStp T x) (hStp T x).2.2) (hrS G F k) ∧ (hStp T x).1.length ≤ k + 1 ∧ (hStp T x).2.2.length ≤ k + 1 ∧ (hStp T x).2.1.length = T.2.1.length ∧ ∀ l, l < 7 → lF (hrS G F k) l 9 = lF F l 9 := by
  obtain ⟨-, -, -, -, -, f6, f7⟩ := ec_f hx (by omega)
  have hlt := cvS_lt x
  have q1 : G (280 + k) / 1000000 = dH x := by rw [hG]; omega
  have q2 : G (280 + k) % 1000000 = cvS x := by rw [hG]; omega
  have c1 : F 1 ≤ k := by
    rw [m.c1]
    have := hrd_le (S := fTr S T T.2.2)
    rw [fTr_1, if_neg (by decide), if_neg (by decide), if_pos rfl] at this
    omega
  have c2 : F 2 = T.2.2.length := m.c2
  have c3 : F 3 = T.1.length := m.c3
  have hp2 : pF F (dE x - 1) 2 = T.2.1.getD (dE x - 1) 0 := m.pl (dE x - 1) (by omega) 2 (by decide)
  rw [hStp_a (by omega), hrS, if_neg (by rw [q1]; omega), hrB, q2, cvS_e, hp2, rAdd, if_pos (by omega)]
  have m1 := em_up m (x := 0) (k := k) (by omega) (by omega) (by omega)
  have u1 : uN F (280 + k) 0 1 = F 1 := cF_uN (by omega)
  have u2 : uN F (280 + k) 0 2 = F 2 := cF_uN (by omega)
  have u3 : uN F (280 + k) 0 3 = F 3 := cF_uN (by omega)
  have m2 := em_snd m1 (s := x - 262144) (q := cvS x) (cvS_sub hx (by omega)).symm (dX_s (by omega)) (by rw [u1]; omega) (by rw [u2]; omega) (by rw [u3]; omega)
  have m3 := em_plat m2 (p := dE x - 1) (w := 2) (x := T.2.1.getD (dE x - 1) 0 + 1) (by show T.2.1.length = 4; exact h4) (by omega) (by decide)
  have eS : uR (uR (fTr S T T.2.2) 11 ((fTr S T T.2.2).1 11 ++ [x - 262144])) (8 + 2) (((uR (fTr S T T.2.2) 11 ((fTr S T T.2.2).1 11 ++ [x - 262144])).1 (8 + 2)).set (dE x - 1) (T.2.1.getD (dE x - 1) 0 + 1)) = fTr S (T.1 ++ [x - 262144], T.2.1.set (dE x - 1) (T.2.1.getD (dE x - 1) 0 + 1), T.2.2) T.2.2 := by
    refine Prod.ext (funext fun b => ?_) rfl
    show (if b = 10 then T.2.1.set (dE x - 1) (T.2.1.getD (dE x - 1) 0 + 1) else if b = 11 then T.1 ++ [x - 262144] else if b = 12 then T.2.2 else if b = 10 then T.2.1 else if b = 11 then T.1 else S.1 b) = if b = 12 then T.2.2 else if b = 10 then T.2.1.set (dE x - 1) (T.2.1.getD (dE x - 1) 0 + 1) else if b = 11 then T.1 ++ [x - 262144] else S.1 b
    by_cases g : b = 12
    · rw [if_neg (by omega), if_neg (by omega), if_pos g, if_pos g]
    · by_cases g2 : b = 10
      · rw [if_pos g2, if_neg g, if_pos g2]
      · by_cases g3 : b = 11
        · rw [if_neg g2, if_pos g3, if_neg g, if_neg g2, if_pos g3]
        · rw [if_neg g2, if_neg g3, if_neg g, if_neg g2, if_neg g3, if_neg g, if_neg g2, if_neg g3]
  rw [eS] at m3
  refine ⟨m3, by show (T.1 ++ [x - 262144]).length ≤ k + 1; rw [List.length_append]; show T.1.length + 1 ≤ _; omega, by show T.2.2.length ≤ k + 1; omega, List.length_set, fun l hl => ?_⟩
  rw [lF_uP hl (by decide), lF_snd (by rw [u1]; omega) hl (by decide), lF_uN (by omega) hl (by decide)]
theorem take_1 {k : Nat} (h : k < L.length) : L.take (k + 1) = L.take k ++ [L.getD k 0] := by
  rw [List.take_add_one, getD_lt h, List.getElem?_eq_getElem h]; rfl
theorem gHr_0 {T : St} : gHr T L = L.foldl hStp ([], T.1 10, []) := rfl
theorem em_hear (hb : EM (fTr S ([], S.1 10, []) []) (uN G 2 0)) (hx : ∀ x ∈ L, x < 2097152 ∧ (1 ≤ dH x ∧ dH x ≤ 5) ∧ 1 ≤ dE x ∧ dE x ≤ 4) (h4 : (S.1 10).length = 4) (hL : L.length ≤ 140) (hG : ∀ k, k < L.length → G (280 + k) = 1000000 * dH (L.getD k 0) + cvS (L.getD k 0)) : ∀ k, k ≤ L.length → EM (fTr S (gHr S (L.take k)) (gHr S (L.take k)).2.2) ((List.range k).foldl (hrS G) (uN G 2 0)) ∧ (gHr S (L.take k)).1.length ≤ k ∧ (gHr S (L.take k)).2.2.length ≤ k ∧ (gHr S (L.take k)).2.1.length = 4 ∧ ∀ l, l < 7 → lF ((List.range k).foldl (hrS G) (uN G 2 0)) l 9 = lF (uN G 2 0) l 9 := by
  intro k
  induction k with
  | zero =>
    intro _
    have e0 : gHr S (L.take 0) = ([], S.1 10, []) := by rw [List.take_zero, gHr_0, List.foldl_nil]
    have e1 : (List.range 0).foldl (hrS G) (uN G 2 0) = uN G 2 0 := by rw [List.range_zero, List.foldl_nil]
    rw [e0, e1]
    exact ⟨hb, Nat.le_refl _, Nat.le_refl _, h4, fun _ _ => rfl⟩
  | succ k ih =>
    intro hk
    obtain ⟨i1, i2, i3, i4, i5⟩ := ih (by omega)
    have hm : L.getD k 0 ∈ L := by rw [getD_lt (by omega)]; exact List.getElem_mem (by omega)
    obtain ⟨x1, x2, x3⟩ := hx _ hm
    have eT : gHr S (L.take (k + 1)) = hStp (gHr S (L.take k)) (L.getD k 0) := by
      rw [take_1 (by omega), gHr_0, gHr_0, List.foldl_append, List.foldl_cons, List.foldl_nil]
    rw [eT, fold_s]
    by_cases g : 1 < dH (L.getD k 0)
    · obtain ⟨j1, j2, j3, j4, j5⟩ := em_hearA (G := G) _ i1 x1 g (show k < 140 by omega) i2 i3 (hG k (by omega))
      exact ⟨j1, j2, j3, by rw [j4]; exact i4, fun l hl => by rw [j5 l hl, i5 l hl]⟩
    · obtain ⟨j1, j2, j3, j4, j5⟩ := em_hearB (G := G) _ i1 x1 (by omega) x3 i4 (show k < 140 by omega) i2 i3 (hG k (by omega))
      exact ⟨j1, j2, j3, by rw [j4]; exact i4, fun l hl => by rw [j5 l hl, i5 l hl]⟩
theorem hr_m1 {s : Nat} : ∀ (L : List Nat) (T : List Nat × List Nat × List Nat), s ∈ (L.foldl hStp T).1 → s ∈ T.1 ∨ ∃ x ∈ L, s = x - 262144 ∧ dH s = 0
  | [], T, h => Or.inl h
  | x :: L, T, h => by
    rcases hr_m1 L (hStp T x) h with g | ⟨y, hy, g⟩
    · unfold hStp at g
      split at g
      · rename_i e
        rcases mem_rAdd g with g2 | g2
        · exact Or.inl g2
        · exact Or.inr ⟨x, List.mem_cons_self .., g2, by rw [g2]; exact e⟩
      · exact Or.inl g
    · exact Or.inr ⟨y, List.mem_cons_of_mem _ hy, g⟩
theorem hr_m3 {s : Nat} : ∀ (L : List Nat) (T : List Nat × List Nat × List Nat), s ∈ (L.foldl hStp T).2.2 → s ∈ T.2.2 ∨ ∃ x ∈ L, s = x - 262144 ∧ ¬ dH s = 0
  | [], T, h => Or.inl h
  | x :: L, T, h => by
    rcases hr_m3 L (hStp T x) h with g | ⟨y, hy, g⟩
    · unfold hStp at g
      split at g
      · exact Or.inl g
      · rename_i e
        rcases List.mem_append.mp g with g2 | g2
        · exact Or.inl g2
        · have g3 := List.mem_singleton.mp g2
          exact Or.inr ⟨x, List.mem_cons_self .., g3, by rw [g3]; exact e⟩
    · exact Or.inr ⟨y, List.mem_cons_of_mem _ hy, g⟩
theorem hrs_12 : (fHrs S).1 12 = S.1 12 := (congrFun fHrs_1 12).trans (fRs_r (by decide) (by decide) (by decide) (by decide) 7)
theorem hrs_10 : (fHrs S).1 10 = S.1 10 := (congrFun fHrs_1 10).trans (fRs_r (by decide) (by decide) (by decide) (by decide) 7)
theorem fTr_a {T : List Nat × List Nat × List Nat} {R : List Nat} : (fTr S T R).1 11 = T.1 := rfl
theorem fTr_c {T : List Nat × List Nat × List Nat} {R : List Nat} : (fTr S T R).1 12 = R := rfl
theorem fTr_d {T : List Nat × List Nat × List Nat} {R : List Nat} : (fTr S T R).1 10 = T.2.1 := rfl
theorem hour_eq : fHour S = fTr (fHrs S) (gHr (fHrs S) (S.1 12)) (gHr (fHrs S) (S.1 12)).2.2 := by
  unfold fHour fHear
  rw [hrs_12]
theorem hour_11 : (fHour S).1 11 = (gHr (fHrs S) (S.1 12)).1 := by rw [hour_eq, fTr_a]
theorem hour_12 : (fHour S).1 12 = (gHr (fHrs S) (S.1 12)).2.2 := by rw [hour_eq, fTr_c]
theorem hour_10 : (fHour S).1 10 = (gHr (fHrs S) (S.1 12)).2.1 := by rw [hour_eq, fTr_d]
theorem hour_b {b : Nat} (hb : b < 10) : (fHour S).1 b = (fHrs S).1 b := by rw [hour_eq, fTr_b hb]
theorem hour_2 : (fHour S).2 = (fHrs S).2 := by rw [hour_eq, fTr_2]
theorem hour_m11 {s : Nat} (h : s ∈ (fHour S).1 11) : ∃ x ∈ S.1 12, s = x - 262144 ∧ dH s = 0 := by
  rw [hour_11, gHr_0] at h
  generalize (fHrs S).1 10 = Z at h
  rcases hr_m1 _ _ h with g | g
  · cases g
  · exact g
theorem hour_m12 {s : Nat} (h : s ∈ (fHour S).1 12) : ∃ x ∈ S.1 12, s = x - 262144 ∧ ¬ dH s = 0 := by
  rw [hour_12, gHr_0] at h
  generalize (fHrs S).1 10 = Z at h
  rcases hr_m3 _ _ h with g | g
  · cases g
  · exact g
theorem hour_gWh (ho : So S) (l : Nat) : gWh ((fHour S).1 11) l = none := by
  cases e : gWh ((fHour S).1 11) l with
  | none => rfl
  | some i =>
    have hi := gWh_lt e
    have hm : ((fHour S).1 11).getD i 0 ∈ (fHour S).1 11 := by rw [getD_lt hi]; exact List.getElem_mem hi
    obtain ⟨x, hx, e1, -⟩ := hour_m11 hm
    have h1 := (gWh_f e).1
    rw [e1, (ec_f (ho.ex x hx) (ho.eh x hx).1).2.2.2.1] at h1
    have := (ho.ee x hx).1
    omega
theorem en_hour (h : EN S F) (hs : Sh n S) (ho : So S) (h12 : (S.1 12).length ≤ 140) : EN (fHour S) (gbF F (mWv F (mBest F))) := by
  have hp := way_ok h ho
  have hg := (same_way h ho).symm
  generalize mWv F (mBest F) = p at hp hg ⊢
  have m0 := em_zero h.em hs.l7 hp hg
  have hl10 : ((fHrs S).1 10).length = 4 := by rw [hrs_10]; exact hs.l4 10 (by decide) (by decide)
  have c2 : gnF F p 2 = F 2 := gn_c hp (by omega)
  obtain ⟨r1, -, -, -, r5⟩ := em_hear (G := gnF F p) (L := S.1 12) m0 (fun x hx => ⟨ho.ex x hx, ho.eh x hx, ho.ee x hx⟩) hl10 h12 (fun k hk => by rw [gn_c hp (by omega)]; exact h.nx k (by rw [h.c2]; exact hk)) (S.1 12).length (Nat.le_refl _)
  rw [List.take_length] at r1
  rw [← hour_eq] at r1
  have eF : gbF F p = (List.range (S.1 12).length).foldl (hrS (gnF F p)) (uN (gnF F p) 2 0) := by rw [gbF, hrF, c2, h.c2]
  rw [← eF] at r1 r5
  refine r1.en fun l hl => ?_
  rw [r5 l hl, lF_uN (by omega) hl (by decide), gnF, lF_uN (by omega) hl (by decide), lF_uN (by omega) hl (by decide), lF_uN (by omega) hl (by decide), show lF (gzF (rsF (gwF F p) 7)) l 9 = lF (rsF (gwF F p) 7) l 9 from gz_c (by omega), rsF_9 7 (Nat.le_refl _) l hl, stt, hour_gWh ho l]
theorem sh_way (hs : Sh n S) : Sh (n + 3) (fWay S) := by
  have h0 := hs.up (m := n + 3) (by omega)
  unfold fWay
  split
  · exact h0.num (by have := hs.nu 2 (by decide); omega)
  · split
    · exact h0
    · have e5 := getD_le hs.pa (gWay S).toNatClampNeg
      have e3 := getD_le hs.co (gWay S).toNatClampNeg
      rw [rPut, rPut]
      split
      · have e : uR (uR S 5 (S.1 5)) 3 (S.1 3) = S := by
          refine Prod.ext (funext fun b => ?_) rfl
          show (if b = 3 then S.1 3 else if b = 5 then S.1 5 else S.1 b) = S.1 b
          split
          · rename_i g; rw [g]
          · split
            · rename_i g; rw [g]
            · rfl
        rw [e]; exact h0
      · have r1 := h0.set (b := 5) (l := (gWay S).toNatClampNeg) (x := (S.1 5).getD (gWay S).toNatClampNeg 0 + 1) (show (S.1 5).getD (gWay S).toNatClampNeg 0 + 1 ≤ n + 3 by omega)
        exact r1.set (b := 3) (l := (gWay S).toNatClampNeg) (x := (S.1 3).getD (gWay S).toNatClampNeg 0 + 3) (show (S.1 3).getD (gWay S).toNatClampNeg 0 + 3 ≤ n + 3 by omega)
theorem sh_rest1 (hs : Sh n S) (l : Nat) : Sh n (fRest S l) := by
  have e4 := getD_le hs.mu l
  unfold fRest
  split
  · exact hs.set (b := 4) (l := l) (show (S.1 4).getD l 0 - 1 ≤ 12 by omega)
  · exact hs.set (b := 2) (l := l) (show min 20 ((S.1 2).getD l 0 + 2) ≤ 20 by omega)
theorem sh_rest (hs : Sh n S) : ∀ k, Sh (n + 3) (fRs S k)
  | 0 => sh_way hs
  | k + 1 => by rw [fRs_s]; exact sh_rest1 (sh_rest hs k) k
theorem sh_hour (hs : Sh n S) (h12 : (S.1 12).length ≤ 140) : Sh (n + 150) (fHour S) := by
  have h7 := sh_rest hs 7
  have h8 : Sh (n + 150) (fHrs S) := by
    unfold fHrs
    have h9 := h7.nu 0 (by decide)
    generalize fRs S 7 = T at h7 h9 ⊢
    exact (h7.up (m := n + 150) (by omega)).num (j := 0) (by omega)
  have hz : (fHrs S).1 10 = S.1 10 := hrs_10
  have e10 : (fHour S).1 10 = ((S.1 12).foldl hStp ([], S.1 10, [])).2.1 := by rw [hour_10, gHr_0, hz]
  have h10 := hStp_10 (L := S.1 12) (n := n + 4) (by omega) ([], S.1 10, []) (fun x hx => by
    have := hs.ec x hx
    omega)
  have hl10 : ((fHour S).1 10).length = 4 := by
    have key : ∀ (L : List Nat) (T : List Nat × List Nat × List Nat), (L.foldl hStp T).2.1.length = T.2.1.length := by
      intro L
      induction L with
      | nil => intro T; rfl
      | cons x L ih =>
        intro T
        rw [List.foldl_cons, ih]
        unfold hStp
        split
        · exact List.length_set
        · rfl
    rw [e10, key]
    exact hs.l4 10 (by decide) (by decide)
  refine Sh.of (fun b hb => by rw [hour_b (by omega)]; exact h8.l7 b hb) (fun b hb8 hb => ?_) (fun b hb x hx => ?_) (fun j hj => by rw [hour_2]; exact h8.nu j hj)
  · by_cases g : b = 10
    · rw [g]; exact hl10
    · rw [hour_b (by omega)]; exact h8.l4 b hb8 hb
  · by_cases g : b = 10
    · subst g
      rw [e10] at hx
      have := h10 x hx
      show x ≤ n + 150
      omega
    · rw [hour_b (by omega)] at hx; exact h8.all hb hx
theorem so_hour (ho : So S) : So (fHour S) := by
  have a : ∀ s, s ∈ (fHour S).1 11 → ∃ x ∈ S.1 12, s = x - 262144 ∧ dH s = 0 ∧ s < 2097152 ∧ dT s = dT x ∧ dW s = dW x ∧ dE s = dE x ∧ dD s = dD x := fun s hs => by
    obtain ⟨x, hx, e1, e2⟩ := hour_m11 hs
    obtain ⟨-, f1, f2, f3, f4, -, f6⟩ := ec_f (ho.ex x hx) (ho.eh x hx).1
    exact ⟨x, hx, e1, e2, by rw [e1]; exact f6, by rw [e1]; exact f1, by rw [e1]; exact f2, by rw [e1]; exact f3, by rw [e1]; exact f4⟩
  have b : ∀ s, s ∈ (fHour S).1 12 → ∃ x ∈ S.1 12, s = x - 262144 ∧ (1 ≤ dH s ∧ dH s ≤ 5) ∧ s < 2097152 ∧ dT s = dT x ∧ dW s = dW x ∧ dE s = dE x ∧ dD s = dD x := fun s hs => by
    obtain ⟨x, hx, e1, e2⟩ := hour_m12 hs
    obtain ⟨-, f1, f2, f3, f4, f5, f6⟩ := ec_f (ho.ex x hx) (ho.eh x hx).1
    have h5 := ho.eh x hx
    exact ⟨x, hx, e1, by rw [e1] at e2 ⊢; omega, by rw [e1]; exact f6, by rw [e1]; exact f1, by rw [e1]; exact f2, by rw [e1]; exact f3, by rw [e1]; exact f4⟩
  refine So.mk (fun s hs => ?_) (fun s hs => ?_) (fun s hs => ?_) (fun s hs => ?_) (fun s hs => ?_) (fun s hs => ?_) (fun s hs => ?_) (fun s hs => ?_) (fun s hs => ?_) (fun s hs => ?_) (fun s hs => ?_) (fun s hs => ?_)
  · obtain ⟨x, hx, -, -, e, -⟩ := a s hs; omega
  · obtain ⟨x, hx, -, e, -⟩ := a s hs; exact e
  · obtain ⟨x, hx, -, -, -, e, -⟩ := a s hs; rw [e]; exact ho.et x hx
  · obtain ⟨x, hx, -, -, -, -, e, -⟩ := a s hs; rw [e]; exact ho.ew x hx
  · obtain ⟨x, hx, -, -, -, -, -, e, -⟩ := a s hs; rw [e]; exact (ho.ee x hx).2
  · obtain ⟨x, hx, -, -, -, -, -, -, e⟩ := a s hs; rw [e]; exact ho.ed x hx
  · obtain ⟨x, hx, -, -, e, -⟩ := b s hs; exact e
  · obtain ⟨x, hx, -, e, -⟩ := b s hs; exact e
  · obtain ⟨x, hx, -, -, -, e, -⟩ := b s hs; rw [e]; exact ho.et x hx
  · obtain ⟨x, hx, -, -, -, -, e, -⟩ := b s hs; rw [e]; exact ho.ew x hx
  · obtain ⟨x, hx, -, -, -, -, -, e, -⟩ := b s hs; rw [e]; exact ho.ee x hx
  · obtain ⟨x, hx, -, -, -, -, -, -, e⟩ := b s hs; rw [e]; exact ho.ed x hx
end W85
