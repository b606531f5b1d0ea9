/-! THE CLASS ITSELF: questions -/
section W37
variable {G : En} {Λ : Ob → Nat} {ρ : Me} {σ : Sg} {M : Me} {d : Nat} {Q : Option Value → Me → Prop} {QX : String → Me → Prop} {S : St} {a b : Nat} {L : List Nat}
def exL (names : List String) : Nat → Option String
  | 0 => none
  | c + 1 => names[c]?
abbrev An : Type := Nat × Int32
def qLine (S : St) (l k : Int32) : An := if isL l = false then (1, 0) else if k < 0 then (2, 0) else if nI 9 < k then (2, 0) else (0, nI (gLine S l.toNatClampNeg k.toNatClampNeg))
def qPlat (S : St) (p k : Int32) : An := if isP p = false then (1, 0) else if k < 0 then (2, 0) else if nI 3 < k then (2, 0) else (0, nI (gPlat S p.toNatClampNeg k.toNatClampNeg))
def qClash (S : St) (i j : Int32) : An := if isL i = false then (1, 0) else if isL j = false then (1, 0) else (0, nI (gStd (S.1 0) i.toNatClampNeg j.toNatClampNeg))
def qFree (S : St) (n : Int32) (b : Bool) : An := if isN n = false then (1, 0) else if b = true then (0, nI (2 ^ n.toNatClampNeg) - nI (gBars (S.1 0) n.toNatClampNeg 7)) else (0, nI (gFreeW (S.1 0) n.toNatClampNeg))
def qHeard (S : St) (p k : Int32) : An := match gHd (S.1 11) p with
  | none => (1, 0)
  | some i => if k < 0 then (2, 0) else if nI 4 < k then (2, 0) else (0, gSn ((S.1 11).getD i 0) k.toNatClampNeg)
def qSoon (S : St) (l : Int32) : An := if isL l = false then (1, 0) else if (S.1 0).getD l.toNatClampNeg 0 = 0 then (2, 0) else (0, nI (gWt (stm (gWd S l.toNatClampNeg)) 1000 ((S.1 4).getD l.toNatClampNeg 0) ((S.1 2).getD l.toNatClampNeg 0) (gWh (S.1 11) l.toNatClampNeg).isSome))
def gAheadP (L : List Nat) (l o : Nat) : Bool := decide (L.getD l 0 < L.getD o 0) || (decide (L.getD o 0 = L.getD l 0) && decide (o < l))
def gAhead (L : List Nat) (l : Nat) : Nat := (List.range 7).countP (gAheadP L l)
def gRkS (L : List Nat) (p : Nat) (r : Int32) (l : Nat) : Int32 := if gAhead L l = p then nI l else r
def gRk (L : List Nat) (p : Nat) : Int32 := (List.range 7).foldl (gRkS L p) (-1)
def rkRow (m : Int32) : Nat := if m = 0 then 1 else if m = nI 1 then 2 else 5
def qRank (S : St) (m p : Int32) : An := if m < 0 then (1, 0) else if nI 2 < m then (1, 0) else if isL p = false then (2, 0) else (0, gRk (S.1 (rkRow m)) p.toNatClampNeg)
def qRef (σ : Sg) (b : Bool) : An := if gM σ 3 = 0 then (1, 0) else if b = true then (0, gM σ 4) else (0, gM σ 3)
def qAcc (σ : Sg) (k : Int32) : An := if k < 0 then (1, 0) else if nI 15 < k then (1, 0) else if k = nI 14 then (0, nI (gR σ 11 0).length) else if k = nI 15 then (0, gM σ 6) else (0, nI (gAcc (gS σ 0) k.toNatClampNeg))
def qErr (σ : Sg) (j : Nat) : An := if gM σ j < 0 then (1, 0) else (0, gM σ j)
theorem s_atN {G : En} {Λ : Ob → Nat} {M : Me} {d a b j : Nat} {L : List Nat} {Q : Option Value → Me → Prop} {QX : String → Me → Prop} (hw : RW G Λ a b L M) (hj : j < 2 ^ 31) (hQ : Q (some (.int (nI (L.getD j 0)))) M) : MS G yX2_at cX2_at 2 (some .int) d 0 0 [.ref (Λ (2, a, b)), .int (nI j)] M Q QX := s_X2_at hw (by rw [rAt_nI hj]; exact hQ)
theorem gAP_t {L : List Nat} {l o : Nat} (h : L.getD l 0 < L.getD o 0 ∨ (L.getD o 0 = L.getD l 0 ∧ o < l)) : gAheadP L l o = true := by
  simp only [gAheadP, Bool.or_eq_true, Bool.and_eq_true, decide_eq_true_eq]
  exact h
theorem gAP_f {L : List Nat} {l o : Nat} (h : ¬ (L.getD l 0 < L.getD o 0 ∨ (L.getD o 0 = L.getD l 0 ∧ o < l))) : gAheadP L l o = false := by
  cases e : gAheadP L l o with
  | false => rfl
  | true =>
    simp only [gAheadP, Bool.or_eq_true, Bool.and_eq_true, decide_eq_true_eq] at e
    exact absurd e h
theorem gAhead_le (L : List Nat) (l : Nat) : gAhead L l ≤ 7 := by
  have := List.countP_le_length (p := gAheadP L l) (l := List.range 7)
  rw [List.length_range] at this
  exact this
theorem sub_gt0 {a b : Nat} (ha : a < 2 ^ 30) (hb : b < 2 ^ 30) : 0 < nI a - nI b ↔ b < a := by
  rw [Int32.lt_iff_toInt_lt, pk_sub_toInt ha hb, Int32.toInt_zero]; omega
theorem sub_eq0 {a b : Nat} (ha : a < 2 ^ 30) (hb : b < 2 ^ 30) : nI a - nI b = 0 ↔ a = b := by
  rw [← Int32.toInt_inj, pk_sub_toInt ha hb, Int32.toInt_zero]; omega
theorem gHd_lt {L : List Nat} {p : Int32} {i : Nat} (h : gHd L p = some i) : i < L.length := List.mem_range.mp (List.mem_of_find?_eq_some h)
theorem oI_ge {o : Option Nat} (h : 0 ≤ oI o) : ∃ i, o = some i := by
  cases o with
  | none => exact absurd h (by decide)
  | some i => exact ⟨i, rfl⟩
theorem gRk_s {L : List Nat} {p n : Nat} : (List.range (n + 1)).foldl (gRkS L p) (-1) = gRkS L p ((List.range n).foldl (gRkS L p) (-1)) n := foldr_s
theorem s_X8_lineOf (h : RX G Λ ρ (sS σ 0 S) M) {l k : Int32} (hQ : (qLine S l k).1 = 0 → Q (some (.int (qLine S l k).2)) M) (hX : ∀ E, exL ["java/lang/IndexOutOfBoundsException", "java/lang/IllegalArgumentException"] (qLine S l k).1 = some E → QX E M)  : MS G yX8_lineOf cX8_lineOf 3 (some .int) (d + 12) 1 6 [.ref (Λ (0, 0, 0)), .int l, .int k] M Q QX := by
  refine MS.of (by decide) (by simp [Value.category]) (Nat.le_of_ble_eq_true rfl) ?_
  show AW _ (_, _, _, _, _, _, _, _, _) _ _ _ _ [some _, some _, some _] _ _
  refine r_iload_n (q := 1) dX8_lineOf_0 rfl rfl ?_
  refine r_cS (q := 4) (As := [.int _]) wc_X8_119 st_X8_isLine rfl (Nat.le_of_ble_eq_true rfl) (Nat.le_of_eq (Nat.zero_add _)) (Nat.le_of_eq (Nat.zero_add _)) dX8_lineOf_1 rfl rfl (s_X8_isLine ?_)
  refine r_if_ne (t := 17) (q := 7) dX8_lineOf_4 rfl rfl (fun c4 => ?_) (fun c4 => ?_)
  · obtain ⟨j, hj, rfl⟩ := isL_t (bI_ne c4)
    have e4 : ¬ isL (nI j) = false := by rw [isL_n hj]; decide
    refine r_iload_n (q := 18) dX8_lineOf_17 rfl rfl ?_
    refine r_if_lt (t := 27) (q := 21) dX8_lineOf_18 rfl rfl (fun c18 => ?_) (fun c18 => ?_)
    · have e : qLine S (nI j) k = (2, 0) := by rw [qLine, if_neg e4, if_pos c18]
      exact r_throw (names := nm_IllegalArgumentException) (j := 14) (by decide +kernel) (by decide +kernel) ck_X8_130 ini_IllegalArgumentException rfl at_X8_134 og_X8_134 (by decide) (by omega) (Nat.le_of_ble_eq_true rfl) (Nat.le_refl _) (Nat.le_refl _) dX8_lineOf_27 dX8_lineOf_30 dX8_lineOf_31 dX8_lineOf_33 dX8_lineOf_36 (hX _ (by rw [e]; rfl))
    · refine r_iload_n (q := 22) dX8_lineOf_21 rfl rfl ?_
      refine r_bipush (v := nI 9) (q := 24) dX8_lineOf_22 (by decide) rfl ?_
      refine r_icmp_le (t := 37) (q := 27) dX8_lineOf_24 rfl rfl (fun c24 => ?_) (fun c24 => ?_)
      · obtain ⟨i, hi, rfl⟩ := lt_nI (by decide) c18 (Int32.not_lt.mpr c24)
        have e : qLine S (nI j) (nI i) = (0, nI (gLine S j i)) := by rw [qLine, if_neg e4, if_neg c18, if_neg (Int32.not_lt.mpr c24), nI_c7 (by omega), nI_c7 (by omega)]
        rw [e] at hQ
        refine r_aload_n (q := 38) dX8_lineOf_37 rfl rfl ?_
        refine r_get (q := 41) (kk := 0) h.x rfl wi_RX8 (by decide) rfl fk_X8_12 rfl dX8_lineOf_38 rfl ?_
        refine r_iload_n (q := 42) dX8_lineOf_41 rfl rfl ?_
        refine r_iload_n (q := 43) dX8_lineOf_42 rfl rfl ?_
        refine r_cV (q := 46) (As := [.int _, .int _]) wc_X8_135 rfl im_X5_numberOfLine se_X5_numberOfLine (h.st (by decide)) rfl rfl (Nat.le_of_ble_eq_true rfl) (Nat.le_of_eq (Nat.zero_add _)) (Nat.le_of_eq (Nat.zero_add _)) dX8_lineOf_43 rfl rfl (s_X5_numberOfLine h (by decide) hj (by omega) ?_)
        refine r_iret dX8_lineOf_46 ?_
        exact hQ rfl
      · have e : qLine S (nI j) k = (2, 0) := by rw [qLine, if_neg e4, if_neg c18, if_pos (Int32.not_le.mp c24)]
        exact r_throw (names := nm_IllegalArgumentException) (j := 14) (by decide +kernel) (by decide +kernel) ck_X8_130 ini_IllegalArgumentException rfl at_X8_134 og_X8_134 (by decide) (by omega) (Nat.le_of_ble_eq_true rfl) (Nat.le_refl _) (Nat.le_refl _) dX8_lineOf_27 dX8_lineOf_30 dX8_lineOf_31 dX8_lineOf_33 dX8_lineOf_36 (hX _ (by rw [e]; rfl))
  · have e : qLine S l k = (1, 0) := if_pos (bI_eq0.mp c4)
    exact r_throw (names := nm_IndexOutOfBoundsException) (j := 13) (by decide +kernel) (by decide +kernel) ck_X8_123 ini_IndexOutOfBoundsException rfl at_X8_127 og_X8_127 (by decide) (by omega) (Nat.le_of_ble_eq_true rfl) (Nat.le_refl _) (Nat.le_refl _) dX8_lineOf_7 dX8_lineOf_10 dX8_lineOf_11 dX8_lineOf_13 dX8_lineOf_16 (hX _ (by rw [e]; rfl))
theorem s_X8_platformOf (h : RX G Λ ρ (sS σ 0 S) M) {p k : Int32} (hQ : (qPlat S p k).1 = 0 → Q (some (.int (qPlat S p k).2)) M) (hX : ∀ E, exL ["java/lang/IndexOutOfBoundsException", "java/lang/IllegalArgumentException"] (qPlat S p k).1 = some E → QX E M)  : MS G yX8_platformOf cX8_platformOf 3 (some .int) (d + 12) 1 6 [.ref (Λ (0, 0, 0)), .int p, .int k] M Q QX := by
  refine MS.of (by decide) (by simp [Value.category]) (Nat.le_of_ble_eq_true rfl) ?_
  show AW _ (_, _, _, _, _, _, _, _, _) _ _ _ _ [some _, some _, some _] _ _
  refine r_iload_n (q := 1) dX8_platformOf_0 rfl rfl ?_
  refine r_cS (q := 4) (As := [.int _]) wc_X8_138 st_X8_isPlatform rfl (Nat.le_of_ble_eq_true rfl) (Nat.le_of_eq (Nat.zero_add _)) (Nat.le_of_eq (Nat.zero_add _)) dX8_platformOf_1 rfl rfl (s_X8_isPlatform ?_)
  refine r_if_ne (t := 17) (q := 7) dX8_platformOf_4 rfl rfl (fun c4 => ?_) (fun c4 => ?_)
  · obtain ⟨j, hj, rfl⟩ := isP_t (bI_ne c4)
    have e4 : ¬ isP (nI j) = false := by rw [isP_n hj]; decide
    refine r_iload_n (q := 18) dX8_platformOf_17 rfl rfl ?_
    refine r_if_lt (t := 26) (q := 21) dX8_platformOf_18 rfl rfl (fun c18 => ?_) (fun c18 => ?_)
    · have e : qPlat S (nI j) k = (2, 0) := by rw [qPlat, if_neg e4, if_pos c18]
      exact r_throw (names := nm_IllegalArgumentException) (j := 16) (by decide +kernel) (by decide +kernel) ck_X8_130 ini_IllegalArgumentException rfl at_X8_134 og_X8_134 (by decide) (by omega) (Nat.le_of_ble_eq_true rfl) (Nat.le_refl _) (Nat.le_refl _) dX8_platformOf_26 dX8_platformOf_29 dX8_platformOf_30 dX8_platformOf_32 dX8_platformOf_35 (hX _ (by rw [e]; rfl))
    · refine r_iload_n (q := 22) dX8_platformOf_21 rfl rfl ?_
      refine r_iconst (v := nI 3) (q := 23) dX8_platformOf_22 (by decide) rfl ?_
      refine r_icmp_le (t := 36) (q := 26) dX8_platformOf_23 rfl rfl (fun c23 => ?_) (fun c23 => ?_)
      · obtain ⟨i, hi, rfl⟩ := lt_nI (by decide) c18 (Int32.not_lt.mpr c23)
        have e : qPlat S (nI j) (nI i) = (0, nI (gPlat S j i)) := by rw [qPlat, if_neg e4, if_neg c18, if_neg (Int32.not_lt.mpr c23), nI_c7 (by omega), nI_c7 (by omega)]
        rw [e] at hQ
        refine r_aload_n (q := 37) dX8_platformOf_36 rfl rfl ?_
        refine r_get (q := 40) (kk := 0) h.x rfl wi_RX8 (by decide) rfl fk_X8_12 rfl dX8_platformOf_37 rfl ?_
        refine r_iload_n (q := 41) dX8_platformOf_40 rfl rfl ?_
        refine r_iload_n (q := 42) dX8_platformOf_41 rfl rfl ?_
        refine r_cV (q := 45) (As := [.int _, .int _]) wc_X8_145 rfl im_X5_numberOfPlatform se_X5_numberOfPlatform (h.st (by decide)) rfl rfl (Nat.le_of_ble_eq_true rfl) (Nat.le_of_eq (Nat.zero_add _)) (Nat.le_of_eq (Nat.zero_add _)) dX8_platformOf_42 rfl rfl (s_X5_numberOfPlatform h (by decide) hj (by omega) ?_)
        refine r_iret dX8_platformOf_45 ?_
        exact hQ rfl
      · have e : qPlat S (nI j) k = (2, 0) := by rw [qPlat, if_neg e4, if_neg c18, if_pos (Int32.not_le.mp c23)]
        exact r_throw (names := nm_IllegalArgumentException) (j := 16) (by decide +kernel) (by decide +kernel) ck_X8_130 ini_IllegalArgumentException rfl at_X8_134 og_X8_134 (by decide) (by omega) (Nat.le_of_ble_eq_true rfl) (Nat.le_refl _) (Nat.le_refl _) dX8_platformOf_26 dX8_platformOf_29 dX8_platformOf_30 dX8_platformOf_32 dX8_platformOf_35 (hX _ (by rw [e]; rfl))
  · have e : qPlat S p k = (1, 0) := if_pos (bI_eq0.mp c4)
    exact r_throw (names := nm_IndexOutOfBoundsException) (j := 15) (by decide +kernel) (by decide +kernel) ck_X8_123 ini_IndexOutOfBoundsException rfl at_X8_127 og_X8_127 (by decide) (by omega) (Nat.le_of_ble_eq_true rfl) (Nat.le_refl _) (Nat.le_refl _) dX8_platformOf_7 dX8_platformOf_10 dX8_platformOf_11 dX8_platformOf_13 dX8_platformOf_16 (hX _ (by rw [e]; rfl))
theorem s_X8_clash (h : RX G Λ ρ (sS σ 0 S) M) (hw : ∀ x ∈ S.1 0, x < 448) {i j : Int32} (hQ : (qClash S i j).1 = 0 → Q (some (.int (qClash S i j).2)) M) (hX : ∀ E, exL ["java/lang/IndexOutOfBoundsException"] (qClash S i j).1 = some E → QX E M)  : MS G yX8_clash cX8_clash 3 (some .int) (d + 12) 1 6 [.ref (Λ (0, 0, 0)), .int i, .int j] M Q QX := by
  refine MS.of (by decide) (by simp [Value.category]) (Nat.le_of_ble_eq_true rfl) ?_
  show AW _ (_, _, _, _, _, _, _, _, _) _ _ _ _ [some _, some _, some _] _ _
  refine r_iload_n (q := 1) dX8_clash_0 rfl rfl ?_
  refine r_cS (q := 4) (As := [.int _]) wc_X8_119 st_X8_isLine rfl (Nat.le_of_ble_eq_true rfl) (Nat.le_of_eq (Nat.zero_add _)) (Nat.le_of_eq (Nat.zero_add _)) dX8_clash_1 rfl rfl (s_X8_isLine ?_)
  refine r_if_eq (t := 14) (q := 7) dX8_clash_4 rfl rfl (fun c4 => ?_) (fun c4 => ?_)
  · have e : qClash S i j = (1, 0) := if_pos (bI_eq0.mp c4)
    exact r_throw (names := nm_IndexOutOfBoundsException) (j := 13) (by decide +kernel) (by decide +kernel) ck_X8_123 ini_IndexOutOfBoundsException rfl at_X8_127 og_X8_127 (by decide) (by omega) (Nat.le_of_ble_eq_true rfl) (Nat.le_refl _) (Nat.le_refl _) dX8_clash_14 dX8_clash_17 dX8_clash_18 dX8_clash_20 dX8_clash_23 (hX _ (by rw [e]; rfl))
  · obtain ⟨a, ha, rfl⟩ := isL_t (bI_ne c4)
    have e4 : ¬ isL (nI a) = false := by rw [isL_n ha]; decide
    refine r_iload_n (q := 8) dX8_clash_7 rfl rfl ?_
    refine r_cS (q := 11) (As := [.int _]) wc_X8_119 st_X8_isLine rfl (Nat.le_of_ble_eq_true rfl) (Nat.le_of_eq (Nat.zero_add _)) (Nat.le_of_eq (Nat.zero_add _)) dX8_clash_8 rfl rfl (s_X8_isLine ?_)
    refine r_if_ne (t := 24) (q := 14) dX8_clash_11 rfl rfl (fun c11 => ?_) (fun c11 => ?_)
    · obtain ⟨b, hb, rfl⟩ := isL_t (bI_ne c11)
      have e11 : ¬ isL (nI b) = false := by rw [isL_n hb]; decide
      have e : qClash S (nI a) (nI b) = (0, nI (gStd (S.1 0) a b)) := by rw [qClash, if_neg e4, if_neg e11, nI_c7 (by omega), nI_c7 (by omega)]
      rw [e] at hQ
      refine r_aload_n (q := 25) dX8_clash_24 rfl rfl ?_
      refine r_get (q := 28) (kk := 0) h.x rfl wi_RX8 (by decide) rfl fk_X8_12 rfl dX8_clash_25 rfl ?_
      refine r_get (q := 31) (kk := 0) (h.st (by decide)) rfl wi_RX5 (by decide) rfl fk_X8_67 rfl dX8_clash_28 rfl ?_
      refine r_iload_n (q := 32) dX8_clash_31 rfl rfl ?_
      refine r_iload_n (q := 33) dX8_clash_32 rfl rfl ?_
      refine r_cS (q := 36) (As := [.ref _, .int _, .int _]) wc_X8_148 st_X3_standing rfl (Nat.le_of_ble_eq_true rfl) (Nat.le_of_eq (Nat.zero_add _)) (Nat.le_of_eq (Nat.zero_add _)) dX8_clash_33 rfl rfl (s_X3_standing (h.rwS (by decide)) hw (by omega) (by omega) ?_)
      refine r_iret dX8_clash_36 ?_
      exact hQ rfl
    · have e : qClash S (nI a) j = (1, 0) := by rw [qClash, if_neg e4, if_pos (bI_eq0.mp c11)]
      exact r_throw (names := nm_IndexOutOfBoundsException) (j := 13) (by decide +kernel) (by decide +kernel) ck_X8_123 ini_IndexOutOfBoundsException rfl at_X8_127 og_X8_127 (by decide) (by omega) (Nat.le_of_ble_eq_true rfl) (Nat.le_refl _) (Nat.le_refl _) dX8_clash_14 dX8_clash_17 dX8_clash_18 dX8_clash_20 dX8_clash_23 (hX _ (by rw [e]; rfl))
theorem s_X8_isClear (h : RX G Λ ρ (sS σ 0 S) M) (hw : ∀ x ∈ S.1 0, x < 448) (hQ : Q (some (.int (bI (gClear (S.1 0))))) M)  : MS G yX8_isClear cX8_isClear 1 (some .boolean) (d + 5) 0 0 [.ref (Λ (0, 0, 0))] M Q QX := by
  refine MS.of (by decide) (by simp [Value.category]) (Nat.le_of_ble_eq_true rfl) ?_
  show AW _ (_, _, _, _, _, _, _, _, _) _ _ _ _ [some _] _ _
  refine r_aload_n (q := 1) dX8_isClear_0 rfl rfl ?_
  refine r_get (q := 4) (kk := 0) h.x rfl wi_RX8 (by decide) rfl fk_X8_12 rfl dX8_isClear_1 rfl ?_
  refine r_get (q := 7) (kk := 0) (h.st (by decide)) rfl wi_RX5 (by decide) rfl fk_X8_67 rfl dX8_isClear_4 rfl ?_
  refine r_cS (q := 10) (As := [.ref _]) wc_X8_152 st_X3_areClear rfl (Nat.le_of_ble_eq_true rfl) (Nat.le_of_eq (Nat.zero_add _)) (Nat.le_of_eq (Nat.zero_add _)) dX8_isClear_7 rfl rfl (s_X3_areClear (h.rwS (by decide)) hw ?_)
  refine r_zret dX8_isClear_10 (by cases gClear (S.1 0) <;> rfl) ?_
  exact hQ
theorem s_X8_free (h : RX G Λ ρ (sS σ 0 S) M) (hw : ∀ x ∈ S.1 0, x < 448) {n : Int32} {b : Bool} (hQ : (qFree S n b).1 = 0 → Q (some (.int (qFree S n b).2)) M) (hX : ∀ E, exL ["java/lang/IllegalArgumentException"] (qFree S n b).1 = some E → QX E M)  : MS G yX8_free cX8_free 3 (some .int) (d + 12) 1 6 [.ref (Λ (0, 0, 0)), .int n, .int (bI b)] M Q QX := by
  refine MS.of (by decide) (by simp [Value.category]) (Nat.le_of_ble_eq_true rfl) ?_
  show AW _ (_, _, _, _, _, _, _, _, _) _ _ _ _ [some _, some _, some _] _ _
  refine r_iload_n (q := 1) dX8_free_0 rfl rfl ?_
  refine r_cS (q := 4) (As := [.int _]) wc_X8_156 st_X8_isLength rfl (Nat.le_of_ble_eq_true rfl) (Nat.le_of_eq (Nat.zero_add _)) (Nat.le_of_eq (Nat.zero_add _)) dX8_free_1 rfl rfl (s_X8_isLength ?_)
  refine r_if_ne (t := 17) (q := 7) dX8_free_4 rfl rfl (fun c4 => ?_) (fun c4 => ?_)
  · obtain ⟨j, hj1, hj6, rfl⟩ := isN_t (bI_ne c4)
    have e4 : ¬ isN (nI j) = false := by rw [isN_n hj1 hj6]; decide
    refine r_iload_n (q := 18) dX8_free_17 rfl rfl ?_
    refine r_if_eq (t := 35) (q := 21) dX8_free_18 rfl rfl (fun c18 => ?_) (fun c18 => ?_)
    · obtain rfl : b = false := bI_eq0.mp c18
      have e : qFree S (nI j) false = (0, nI (gFreeW (S.1 0) j)) := by rw [qFree, if_neg e4, if_neg (by decide), nI_c7 (by omega)]
      rw [e] at hQ
      refine r_aload_n (q := 36) dX8_free_35 rfl rfl ?_
      refine r_get (q := 39) (kk := 0) h.x rfl wi_RX8 (by decide) rfl fk_X8_12 rfl dX8_free_36 rfl ?_
      refine r_get (q := 42) (kk := 0) (h.st (by decide)) rfl wi_RX5 (by decide) rfl fk_X8_67 rfl dX8_free_39 rfl ?_
      refine r_iload_n (q := 43) dX8_free_42 rfl rfl ?_
      refine r_cS (q := 46) (As := [.ref _, .int _]) wc_X8_165 st_X3_freeByWords rfl (Nat.le_of_ble_eq_true rfl) (Nat.le_of_eq (Nat.zero_add _)) (Nat.le_of_eq (Nat.zero_add _)) dX8_free_43 rfl rfl (s_X3_freeByWords (h.rwS (by decide)) hw hj6 ?_)
      refine r_iret dX8_free_46 ?_
      exact hQ rfl
    · obtain rfl : b = true := bI_ne c18
      have e : qFree S (nI j) true = (0, nI (2 ^ j) - nI (gBars (S.1 0) j 7)) := by rw [qFree, if_neg e4, if_pos rfl, nI_c7 (by omega)]
      rw [e] at hQ
      refine r_aload_n (q := 22) dX8_free_21 rfl rfl ?_
      refine r_get (q := 25) (kk := 0) h.x rfl wi_RX8 (by decide) rfl fk_X8_12 rfl dX8_free_22 rfl ?_
      refine r_get (q := 28) (kk := 0) (h.st (by decide)) rfl wi_RX5 (by decide) rfl fk_X8_67 rfl dX8_free_25 rfl ?_
      refine r_iload_n (q := 29) dX8_free_28 rfl rfl ?_
      refine r_cS (q := 32) (As := [.ref _, .int _]) wc_X8_161 st_X3_freeByBars rfl (Nat.le_of_ble_eq_true rfl) (Nat.le_of_eq (Nat.zero_add _)) (Nat.le_of_eq (Nat.zero_add _)) dX8_free_29 rfl rfl (s_X3_freeByBars (h.rwS (by decide)) hw hj6 ?_)
      refine r_goto (t := 46) dX8_free_32 rfl ?_
      refine r_iret dX8_free_46 ?_
      exact hQ rfl
  · have e : qFree S n b = (1, 0) := if_pos (bI_eq0.mp c4)
    exact r_throw (names := nm_IllegalArgumentException) (j := 17) (by decide +kernel) (by decide +kernel) ck_X8_130 ini_IllegalArgumentException rfl at_X8_134 og_X8_134 (by decide) (by omega) (Nat.le_of_ble_eq_true rfl) (Nat.le_refl _) (Nat.le_refl _) dX8_free_7 dX8_free_10 dX8_free_11 dX8_free_13 dX8_free_16 (hX _ (by rw [e]; rfl))
theorem s_X8_way (h : RX G Λ ρ (sS σ 0 S) M) (hs : Sm S) (hQ : Q (some (.int (gWay S))) M)  : MS G yX8_way cX8_way 1 (some .int) (d + 3) 0 0 [.ref (Λ (0, 0, 0))] M Q QX := by
  refine MS.of (by decide) (by simp [Value.category]) (Nat.le_of_ble_eq_true rfl) ?_
  show AW _ (_, _, _, _, _, _, _, _, _) _ _ _ _ [some _] _ _
  refine r_aload_n (q := 1) dX8_way_0 rfl rfl ?_
  refine r_get (q := 4) (kk := 0) h.x rfl wi_RX8 (by decide) rfl fk_X8_12 rfl dX8_way_1 rfl ?_
  refine r_cV (q := 7) (As := []) wc_X8_199 rfl im_X5_wayGoesTo se_X5_wayGoesTo (h.st (by decide)) rfl rfl (Nat.le_of_ble_eq_true rfl) (Nat.le_of_eq (Nat.zero_add _)) (Nat.le_of_eq (Nat.zero_add _)) dX8_way_4 rfl rfl (s_X5_wayGoesTo h (by decide) hs ?_)
  refine r_iret dX8_way_7 ?_
  exact hQ
theorem s_X8_heard (h : RX G Λ ρ (sS σ 0 S) M) {p k : Int32} (hQ : (qHeard S p k).1 = 0 → Q (some (.int (qHeard S p k).2)) M) (hX : ∀ E, exL ["java/util/NoSuchElementException", "java/lang/IllegalArgumentException"] (qHeard S p k).1 = some E → QX E M)  : MS G yX8_heard cX8_heard 4 (some .int) (d + 12) 1 6 [.ref (Λ (0, 0, 0)), .int p, .int k] M Q QX := by
  have hlen := h.lenS (by decide : wR 0 11 = true)
  refine MS.of (by decide) (by simp [Value.category]) (Nat.le_of_ble_eq_true rfl) ?_
  show AW _ (_, _, _, _, _, _, _, _, _) _ _ _ _ [some _, some _, some _, _] _ _
  refine r_aload_n (q := 1) dX8_heard_0 rfl rfl ?_
  refine r_get (q := 4) (kk := 0) h.x rfl wi_RX8 (by decide) rfl fk_X8_12 rfl dX8_heard_1 rfl ?_
  refine r_iload_n (q := 5) dX8_heard_4 rfl rfl ?_
  refine r_cV (q := 8) (As := [.int _]) wc_X8_202 rfl im_X5_indexOfHeard se_X5_indexOfHeard (h.st (by decide)) rfl rfl (Nat.le_of_ble_eq_true rfl) (Nat.le_of_eq (Nat.zero_add _)) (Nat.le_of_eq (Nat.zero_add _)) dX8_heard_5 rfl rfl (s_X5_indexOfHeard h (by decide) ?_)
  refine r_istore_n (q := 9) dX8_heard_8 (Nat.le_of_ble_eq_true rfl) rfl rfl ?_
  show AW _ (_, _, _, _, _, _, _, _, _) _ _ _ _ [some _, some _, some _, some _] _ _
  refine r_iload_n (q := 10) dX8_heard_9 rfl rfl ?_
  refine r_if_ge (t := 23) (q := 13) dX8_heard_10 rfl rfl (fun c10 => ?_) (fun c10 => ?_)
  · obtain ⟨i, e1⟩ := oI_ge c10
    have hil := gHd_lt e1
    rw [e1]
    show AW _ (_, _, _, _, _, _, _, _, _) _ _ _ _ [some _, some _, some _, some (.int (nI i))] _ _
    refine r_iload_n (q := 24) dX8_heard_23 rfl rfl ?_
    refine r_if_lt (t := 32) (q := 27) dX8_heard_24 rfl rfl (fun c24 => ?_) (fun c24 => ?_)
    · have e : qHeard S p k = (2, 0) := by simp only [qHeard, e1, if_pos c24]
      exact r_throw (names := nm_IllegalArgumentException) (j := 19) (by decide +kernel) (by decide +kernel) ck_X8_130 ini_IllegalArgumentException rfl at_X8_134 og_X8_134 (by decide) (by omega) (Nat.le_of_ble_eq_true rfl) (Nat.le_refl _) (Nat.le_refl _) dX8_heard_32 dX8_heard_35 dX8_heard_36 dX8_heard_38 dX8_heard_41 (hX _ (by rw [e]; rfl))
    · refine r_iload_n (q := 28) dX8_heard_27 rfl rfl ?_
      refine r_iconst (v := nI 4) (q := 29) dX8_heard_28 (by decide) rfl ?_
      refine r_icmp_le (t := 42) (q := 32) dX8_heard_29 rfl rfl (fun c29 => ?_) (fun c29 => ?_)
      · obtain ⟨j, hj, rfl⟩ := lt_nI (by decide) c24 (Int32.not_lt.mpr c29)
        have e : qHeard S p (nI j) = (0, gSn ((S.1 11).getD i 0) j) := by simp only [qHeard, e1, if_neg c24, if_neg (Int32.not_lt.mpr c29), nI_c7 (show j < 2 ^ 31 by omega)]
        rw [e] at hQ
        refine r_aload_n (q := 43) dX8_heard_42 rfl rfl ?_
        refine r_get (q := 46) (kk := 0) h.x rfl wi_RX8 (by decide) rfl fk_X8_12 rfl dX8_heard_43 rfl ?_
        refine r_get (q := 49) (kk := 11) (h.st (by decide)) rfl wi_RX5 (by decide) rfl fk_X8_212 rfl dX8_heard_46 rfl ?_
        refine r_iload_n (q := 50) dX8_heard_49 rfl rfl ?_
        refine r_cV (q := 53) (As := [.int _]) wc_X8_215 rfl im_X2_at se_X2_at (h.row (by decide)) rfl rfl (Nat.le_of_ble_eq_true rfl) (Nat.le_of_eq (Nat.zero_add _)) (Nat.le_of_eq (Nat.zero_add _)) dX8_heard_50 rfl rfl (t_atN h (by decide) (by omega) ?_)
        refine r_iload_n (q := 54) dX8_heard_53 rfl rfl ?_
        refine r_cS (q := 57) (As := [.int _, .int _]) wc_X8_220 st_X4_number rfl (Nat.le_of_ble_eq_true rfl) (Nat.le_of_eq (Nat.zero_add _)) (Nat.le_of_eq (Nat.zero_add _)) dX8_heard_54 rfl rfl (s_X4_number (t_lt h (by decide) _) (by omega) ?_)
        refine r_iret dX8_heard_57 ?_
        exact hQ rfl
      · have e : qHeard S p k = (2, 0) := by simp only [qHeard, e1, if_neg c24, if_pos (Int32.not_le.mp c29)]
        exact r_throw (names := nm_IllegalArgumentException) (j := 19) (by decide +kernel) (by decide +kernel) ck_X8_130 ini_IllegalArgumentException rfl at_X8_134 og_X8_134 (by decide) (by omega) (Nat.le_of_ble_eq_true rfl) (Nat.le_refl _) (Nat.le_refl _) dX8_heard_32 dX8_heard_35 dX8_heard_36 dX8_heard_38 dX8_heard_41 (hX _ (by rw [e]; rfl))
  · have e1 : gHd (S.1 11) p = none := (oI_neg (fun i h9 => by have := gHd_lt h9; omega)).mp (Int32.not_le.mp c10)
    have e : qHeard S p k = (1, 0) := by rw [qHeard, e1]
    exact r_throwN (names := nm_NoSuchElementException) (j := 18) rfl neB_0 neB_1 neB_2 neB_5 (by decide +kernel) (by decide +kernel) ck_X8_205 ini_NoSuchElementException rfl at_X8_209 og_X8_209 (by decide) (by omega) (Nat.le_of_ble_eq_true rfl) (Nat.le_refl _) (Nat.le_refl _) dX8_heard_13 dX8_heard_16 dX8_heard_17 dX8_heard_19 dX8_heard_22 (hX _ (by rw [e]; rfl))
theorem s_X8_soonest (h : RX G Λ ρ (sS σ 0 S) M) (hs : Sm S) (hw : ∀ x ∈ S.1 0, x < 448) {l : Int32} (hQ : (qSoon S l).1 = 0 → Q (some (.int (qSoon S l).2)) M) (hX : ∀ E, exL ["java/lang/IndexOutOfBoundsException", "java/util/NoSuchElementException"] (qSoon S l).1 = some E → QX E M)  : MS G yX8_soonest cX8_soonest 2 (some .int) (d + 12) 1 6 [.ref (Λ (0, 0, 0)), .int l] M Q QX := by
  refine MS.of (by decide) (by simp [Value.category]) (Nat.le_of_ble_eq_true rfl) ?_
  show AW _ (_, _, _, _, _, _, _, _, _) _ _ _ _ [some _, some _] _ _
  refine r_iload_n (q := 1) dX8_soonest_0 rfl rfl ?_
  refine r_cS (q := 4) (As := [.int _]) wc_X8_119 st_X8_isLine rfl (Nat.le_of_ble_eq_true rfl) (Nat.le_of_eq (Nat.zero_add _)) (Nat.le_of_eq (Nat.zero_add _)) dX8_soonest_1 rfl rfl (s_X8_isLine ?_)
  refine r_if_ne (t := 17) (q := 7) dX8_soonest_4 rfl rfl (fun c4 => ?_) (fun c4 => ?_)
  · obtain ⟨j, hj, rfl⟩ := isL_t (bI_ne c4)
    have e4 : ¬ isL (nI j) = false := by rw [isL_n hj]; decide
    have hx := t_lt h (by decide : wR 0 0 = true) j
    refine r_aload_n (q := 18) dX8_soonest_17 rfl rfl ?_
    refine r_get (q := 21) (kk := 0) h.x rfl wi_RX8 (by decide) rfl fk_X8_12 rfl dX8_soonest_18 rfl ?_
    refine r_get (q := 24) (kk := 0) (h.st (by decide)) rfl wi_RX5 (by decide) rfl fk_X8_67 rfl dX8_soonest_21 rfl ?_
    refine r_iload_n (q := 25) dX8_soonest_24 rfl rfl ?_
    refine r_cV (q := 28) (As := [.int _]) wc_X8_215 rfl im_X2_at se_X2_at (h.row (by decide)) rfl rfl (Nat.le_of_ble_eq_true rfl) (Nat.le_of_eq (Nat.zero_add _)) (Nat.le_of_eq (Nat.zero_add _)) dX8_soonest_25 rfl rfl (t_atN h (by decide) (by omega) ?_)
    refine r_if_ne (t := 41) (q := 31) dX8_soonest_28 rfl rfl (fun c28 => ?_) (fun c28 => ?_)
    · simp (disch := omega) only [nI_leI, nI_ltI, nI_eq, nI_lt0, nI_ge0, nI_gt0, nI_le0, nI_eq0] at c28
      have e : qSoon S (nI j) = (0, nI (gWt (stm (gWd S j)) 1000 ((S.1 4).getD j 0) ((S.1 2).getD j 0) (gWh (S.1 11) j).isSome)) := by simp only [qSoon, if_neg e4, nI_c7 (show j < 2 ^ 31 by omega), if_neg c28]
      rw [e] at hQ
      refine r_aload_n (q := 42) dX8_soonest_41 rfl rfl ?_
      refine r_get (q := 45) (kk := 0) h.x rfl wi_RX8 (by decide) rfl fk_X8_12 rfl dX8_soonest_42 rfl ?_
      refine r_iload_n (q := 46) dX8_soonest_45 rfl rfl ?_
      refine r_cV (q := 49) (As := [.int _]) wc_X8_241 rfl im_X5_hoursToWait se_X5_hoursToWait (h.st (by decide)) rfl rfl (Nat.le_of_ble_eq_true rfl) (Nat.le_of_eq (Nat.zero_add _)) (Nat.le_of_eq (Nat.zero_add _)) dX8_soonest_46 rfl rfl (s_X5_hoursToWait h (by decide) (hs 2 (by decide)) hw hj ?_)
      refine r_iret dX8_soonest_49 ?_
      exact hQ rfl
    · simp (disch := omega) only [nI_leI, nI_ltI, nI_eq, nI_lt0, nI_ge0, nI_gt0, nI_le0, nI_eq0] at c28
      have e : qSoon S (nI j) = (2, 0) := by simp only [qSoon, if_neg e4, nI_c7 (show j < 2 ^ 31 by omega), if_pos c28]
      exact r_throwN (names := nm_NoSuchElementException) (j := 21) rfl neB_0 neB_1 neB_2 neB_5 (by decide +kernel) (by decide +kernel) ck_X8_205 ini_NoSuchElementException rfl at_X8_209 og_X8_209 (by decide) (by omega) (Nat.le_of_ble_eq_true rfl) (Nat.le_refl _) (Nat.le_refl _) dX8_soonest_31 dX8_soonest_34 dX8_soonest_35 dX8_soonest_37 dX8_soonest_40 (hX _ (by rw [e]; rfl))
  · have e : qSoon S l = (1, 0) := if_pos (bI_eq0.mp c4)
    exact r_throw (names := nm_IndexOutOfBoundsException) (j := 13) (by decide +kernel) (by decide +kernel) ck_X8_123 ini_IndexOutOfBoundsException rfl at_X8_127 og_X8_127 (by decide) (by omega) (Nat.le_of_ble_eq_true rfl) (Nat.le_refl _) (Nat.le_refl _) dX8_soonest_7 dX8_soonest_10 dX8_soonest_11 dX8_soonest_13 dX8_soonest_16 (hX _ (by rw [e]; rfl))
theorem s_X8_numberAhead (hw : RW G Λ a b L M) (hL : ∀ x ∈ L, x < 2 ^ 30) {l : Nat} (hl : l < 7) (hQ : Q (some (.int (nI (gAhead L l)))) M)  : MS G yX8_numberAhead cX8_numberAhead 5 (some .int) (d + 1) 0 0 [.ref (Λ (2, a, b)), .int (nI l)] M Q QX := by
  have loop : ∀ (m : Nat) o u, m = 7 - o → o ≤ 7 → AW G (wX G yX8_numberAhead cX8_numberAhead 5 (some .int) 0 0 Q QX) (d + 1) 0 0 4 [some (.ref (Λ (2, a, b))), some (.int (nI l)), some (.int (nI ((List.range o).countP (gAheadP L l)))), some (.int (nI o)), u] [] M := by
    intro m
    induction m using Nat.strongRecOn with
    | _ m ih =>
    intro o u hm ho
    subst hm
    refine r_iload_n (q := 5) dX8_numberAhead_4 rfl rfl ?_
    refine r_bipush (v := nI 7) (q := 7) dX8_numberAhead_5 (by decide) rfl ?_
    refine r_icmp_ge (t := 47) (q := 10) dX8_numberAhead_7 rfl rfl (fun c7 => ?_) (fun c7 => ?_)
    · simp (disch := omega) only [nI_leI, nI_ltI, nI_eq, nI_lt0, nI_ge0, nI_gt0, nI_le0, nI_eq0] at c7
      obtain rfl : o = 7 := by omega
      refine r_iload_n (q := 48) dX8_numberAhead_47 rfl rfl ?_
      refine r_iret dX8_numberAhead_48 ?_
      exact hQ
    · simp (disch := omega) only [nI_leI, nI_ltI, nI_eq, nI_lt0, nI_ge0, nI_gt0, nI_le0, nI_eq0] at c7
      have h1 : L.getD o 0 < 2 ^ 30 := getD_all (by decide) hL o
      have h2 : L.getD l 0 < 2 ^ 30 := getD_all (by decide) hL l
      refine r_aload_n (q := 11) dX8_numberAhead_10 rfl rfl ?_
      refine r_iload_n (q := 12) dX8_numberAhead_11 rfl rfl ?_
      refine r_cV (q := 15) (As := [.int _]) wc_X8_215 rfl im_X2_at se_X2_at hw.1 rfl rfl (Nat.le_of_ble_eq_true rfl) (Nat.le_of_eq (Nat.zero_add _)) (Nat.le_of_eq (Nat.zero_add _)) dX8_numberAhead_12 rfl rfl (s_atN hw (by omega) ?_)
      refine r_aload_n (q := 16) dX8_numberAhead_15 rfl rfl ?_
      refine r_iload_n (q := 17) dX8_numberAhead_16 rfl rfl ?_
      refine r_cV (q := 20) (As := [.int _]) wc_X8_215 rfl im_X2_at se_X2_at hw.1 rfl rfl (Nat.le_of_ble_eq_true rfl) (Nat.le_of_eq (Nat.zero_add _)) (Nat.le_of_eq (Nat.zero_add _)) dX8_numberAhead_17 rfl rfl (s_atN hw (by omega) ?_)
      refine r_isub (q := 21) dX8_numberAhead_20 rfl ?_
      refine r_istore (q := 23) dX8_numberAhead_21 (Nat.le_of_ble_eq_true rfl) rfl rfl ?_
      show AW _ (_, _, _, _, _, _, _, _, _) _ _ _ _ [some _, some _, some _, some _, some _] _ _
      refine r_iload (q := 25) dX8_numberAhead_23 rfl rfl ?_
      refine r_if_gt (t := 38) (q := 28) dX8_numberAhead_25 rfl rfl (fun c25 => ?_) (fun c25 => ?_)
      · rw [sub_gt0 h1 h2] at c25
        have hz : gAheadP L l o = true := gAP_t (by omega)
        refine r_inc1 (q := 41) dX8_numberAhead_38 rfl (Nat.le_of_ble_eq_true rfl) rfl rfl ?_
        show AW _ (_, _, _, _, _, _, _, _, _) _ _ _ _ [some _, some _, some _, some _, some _] _ _
        rw [show nI (((List.range o).countP (gAheadP L l)) + 1) = nI ((List.range (o + 1)).countP (gAheadP L l)) by rw [range_count_succ, hz]; rfl]
        refine r_inc1 (q := 44) dX8_numberAhead_41 rfl (Nat.le_of_ble_eq_true rfl) rfl rfl ?_
        show AW _ (_, _, _, _, _, _, _, _, _) _ _ _ _ [some _, some _, some _, some _, some _] _ _
        refine r_goto (t := 4) dX8_numberAhead_44 rfl ?_
        exact ih (7 - (o + 1)) (by omega) (o + 1) _ rfl (by omega)
      · rw [sub_gt0 h1 h2] at c25
        refine r_iload (q := 30) dX8_numberAhead_28 rfl rfl ?_
        refine r_if_ne (t := 41) (q := 33) dX8_numberAhead_30 rfl rfl (fun c30 => ?_) (fun c30 => ?_)
        · rw [sub_eq0 h1 h2] at c30
          have hz : gAheadP L l o = false := gAP_f (by omega)
          rw [show nI ((List.range o).countP (gAheadP L l)) = nI ((List.range (o + 1)).countP (gAheadP L l)) by rw [range_count_succ, hz]; rfl]
          refine r_inc1 (q := 44) dX8_numberAhead_41 rfl (Nat.le_of_ble_eq_true rfl) rfl rfl ?_
          show AW _ (_, _, _, _, _, _, _, _, _) _ _ _ _ [some _, some _, some _, some _, some _] _ _
          refine r_goto (t := 4) dX8_numberAhead_44 rfl ?_
          exact ih (7 - (o + 1)) (by omega) (o + 1) _ rfl (by omega)
        · rw [sub_eq0 h1 h2] at c30
          refine r_iload_n (q := 34) dX8_numberAhead_33 rfl rfl ?_
          refine r_iload_n (q := 35) dX8_numberAhead_34 rfl rfl ?_
          refine r_icmp_ge (t := 41) (q := 38) dX8_numberAhead_35 rfl rfl (fun c35 => ?_) (fun c35 => ?_)
          · simp (disch := omega) only [nI_leI, nI_ltI, nI_eq, nI_lt0, nI_ge0, nI_gt0, nI_le0, nI_eq0] at c35
            have hz : gAheadP L l o = false := gAP_f (by omega)
            rw [show nI ((List.range o).countP (gAheadP L l)) = nI ((List.range (o + 1)).countP (gAheadP L l)) by rw [range_count_succ, hz]; rfl]
            refine r_inc1 (q := 44) dX8_numberAhead_41 rfl (Nat.le_of_ble_eq_true rfl) rfl rfl ?_
            show AW _ (_, _, _, _, _, _, _, _, _) _ _ _ _ [some _, some _, some _, some _, some _] _ _
            refine r_goto (t := 4) dX8_numberAhead_44 rfl ?_
            exact ih (7 - (o + 1)) (by omega) (o + 1) _ rfl (by omega)
          · simp (disch := omega) only [nI_leI, nI_ltI, nI_eq, nI_lt0, nI_ge0, nI_gt0, nI_le0, nI_eq0] at c35
            have hz : gAheadP L l o = true := gAP_t (by omega)
            refine r_inc1 (q := 41) dX8_numberAhead_38 rfl (Nat.le_of_ble_eq_true rfl) rfl rfl ?_
            show AW _ (_, _, _, _, _, _, _, _, _) _ _ _ _ [some _, some _, some _, some _, some _] _ _
            rw [show nI (((List.range o).countP (gAheadP L l)) + 1) = nI ((List.range (o + 1)).countP (gAheadP L l)) by rw [range_count_succ, hz]; rfl]
            refine r_inc1 (q := 44) dX8_numberAhead_41 rfl (Nat.le_of_ble_eq_true rfl) rfl rfl ?_
            show AW _ (_, _, _, _, _, _, _, _, _) _ _ _ _ [some _, some _, some _, some _, some _] _ _
            refine r_goto (t := 4) dX8_numberAhead_44 rfl ?_
            exact ih (7 - (o + 1)) (by omega) (o + 1) _ rfl (by omega)
  refine MS.of (by decide) (by simp [Value.category]) (Nat.le_of_ble_eq_true rfl) ?_
  show AW _ (_, _, _, _, _, _, _, _, _) _ _ _ _ [some _, some _, _, _, _] _ _
  refine r_iconst (v := nI 0) (q := 1) dX8_numberAhead_0 (by decide) rfl ?_
  refine r_istore_n (q := 2) dX8_numberAhead_1 (Nat.le_of_ble_eq_true rfl) rfl rfl ?_
  show AW _ (_, _, _, _, _, _, _, _, _) _ _ _ _ [some _, some _, some _, _, _] _ _
  refine r_iconst (v := nI 0) (q := 3) dX8_numberAhead_2 (by decide) rfl ?_
  refine r_istore_n (q := 4) dX8_numberAhead_3 (Nat.le_of_ble_eq_true rfl) rfl rfl ?_
  show AW _ (_, _, _, _, _, _, _, _, _) _ _ _ _ [some _, some _, some _, some _, _] _ _
  exact loop _ 0 _ rfl (by omega)
theorem s_X8_lineRanked (hw : RW G Λ a b L M) (hL : ∀ x ∈ L, x < 2 ^ 30) {p : Nat} (hp : p < 7) (hQ : Q (some (.int (gRk L p))) M)  : MS G yX8_lineRanked cX8_lineRanked 4 (some .int) (d + 2) 0 0 [.ref (Λ (2, a, b)), .int (nI p)] M Q QX := by
  have loop : ∀ (m : Nat) j, m = 7 - j → j ≤ 7 → AW G (wX G yX8_lineRanked cX8_lineRanked 4 (some .int) 0 0 Q QX) (d + 2) 0 0 4 [some (.ref (Λ (2, a, b))), some (.int (nI p)), some (.int ((List.range j).foldl (gRkS L p) (-1))), some (.int (nI j))] [] M := by
    intro m
    induction m using Nat.strongRecOn with
    | _ m ih =>
    intro j hm hj
    subst hm
    refine r_iload_n (q := 5) dX8_lineRanked_4 rfl rfl ?_
    refine r_bipush (v := nI 7) (q := 7) dX8_lineRanked_5 (by decide) rfl ?_
    refine r_icmp_ge (t := 27) (q := 10) dX8_lineRanked_7 rfl rfl (fun c7 => ?_) (fun c7 => ?_)
    · simp (disch := omega) only [nI_leI, nI_ltI, nI_eq, nI_lt0, nI_ge0, nI_gt0, nI_le0, nI_eq0] at c7
      obtain rfl : j = 7 := by omega
      refine r_iload_n (q := 28) dX8_lineRanked_27 rfl rfl ?_
      refine r_iret dX8_lineRanked_28 ?_
      exact hQ
    · simp (disch := omega) only [nI_leI, nI_ltI, nI_eq, nI_lt0, nI_ge0, nI_gt0, nI_le0, nI_eq0] at c7
      have hg := gAhead_le L j
      refine r_aload_n (q := 11) dX8_lineRanked_10 rfl rfl ?_
      refine r_iload_n (q := 12) dX8_lineRanked_11 rfl rfl ?_
      refine r_cS (q := 15) (As := [.ref _, .int _]) wc_X8_434 st_X8_numberAhead rfl (Nat.le_of_ble_eq_true rfl) (Nat.le_of_eq (Nat.zero_add _)) (Nat.le_of_eq (Nat.zero_add _)) dX8_lineRanked_12 rfl rfl (s_X8_numberAhead hw hL (by omega) ?_)
      refine r_iload_n (q := 16) dX8_lineRanked_15 rfl rfl ?_
      refine r_icmp_ne (t := 21) (q := 19) dX8_lineRanked_16 rfl rfl (fun c16 => ?_) (fun c16 => ?_)
      · simp (disch := omega) only [nI_leI, nI_ltI, nI_eq, nI_lt0, nI_ge0, nI_gt0, nI_le0, nI_eq0] at c16
        have hz : (List.range (j + 1)).foldl (gRkS L p) (-1) = ((List.range j).foldl (gRkS L p) (-1)) := by rw [gRk_s, gRkS, if_neg c16]
        refine r_inc1 (q := 24) dX8_lineRanked_21 rfl (Nat.le_of_ble_eq_true rfl) rfl rfl ?_
        show AW _ (_, _, _, _, _, _, _, _, _) _ _ _ _ [some _, some _, some _, some _] _ _
        refine r_goto (t := 4) dX8_lineRanked_24 rfl ?_
        have h9 := ih (7 - (j + 1)) (by omega) (j + 1) rfl (by omega)
        rw [hz] at h9
        exact h9
      · simp (disch := omega) only [nI_leI, nI_ltI, nI_eq, nI_lt0, nI_ge0, nI_gt0, nI_le0, nI_eq0] at c16
        have hz : (List.range (j + 1)).foldl (gRkS L p) (-1) = nI j := by rw [gRk_s, gRkS, if_pos c16]
        refine r_iload_n (q := 20) dX8_lineRanked_19 rfl rfl ?_
        refine r_istore_n (q := 21) dX8_lineRanked_20 (Nat.le_of_ble_eq_true rfl) rfl rfl ?_
        show AW _ (_, _, _, _, _, _, _, _, _) _ _ _ _ [some _, some _, some _, some _] _ _
        refine r_inc1 (q := 24) dX8_lineRanked_21 rfl (Nat.le_of_ble_eq_true rfl) rfl rfl ?_
        show AW _ (_, _, _, _, _, _, _, _, _) _ _ _ _ [some _, some _, some _, some _] _ _
        refine r_goto (t := 4) dX8_lineRanked_24 rfl ?_
        have h9 := ih (7 - (j + 1)) (by omega) (j + 1) rfl (by omega)
        rw [hz] at h9
        exact h9
  refine MS.of (by decide) (by simp [Value.category]) (Nat.le_of_ble_eq_true rfl) ?_
  show AW _ (_, _, _, _, _, _, _, _, _) _ _ _ _ [some _, some _, _, _] _ _
  refine r_iconst (v := (-1)) (q := 1) dX8_lineRanked_0 (by decide) rfl ?_
  refine r_istore_n (q := 2) dX8_lineRanked_1 (Nat.le_of_ble_eq_true rfl) rfl rfl ?_
  show AW _ (_, _, _, _, _, _, _, _, _) _ _ _ _ [some _, some _, some _, _] _ _
  refine r_iconst (v := nI 0) (q := 3) dX8_lineRanked_2 (by decide) rfl ?_
  refine r_istore_n (q := 4) dX8_lineRanked_3 (Nat.le_of_ble_eq_true rfl) rfl rfl ?_
  show AW _ (_, _, _, _, _, _, _, _, _) _ _ _ _ [some _, some _, some _, some _] _ _
  exact loop _ 0 rfl (by omega)
end W37
