/-! THE CONSTANT STRINGS; THE HISTORY -/
section W29
variable {G : En} {Λ : Ob → Nat} {ρ : Me} {σ : Sg} {M : Me} {X : Fx} {d k n pc q : Nat} {lv : List (Option Value)} {st : List Value} {Q : Option Value → Me → Prop} {QX : String → Me → Prop}
theorem r_getK {ix i a : Nat} {C f ds : String} {v : Value} (hF : ∀ s : State, wEnv G s s.heap → va_OF C f ds v a (wA G) s s.heap) (hlk : lw_tbl[i]? = some (.fieldLink X.1 ix C f ds)) (dg : decode X.2.1 pc = .ok (.getfield ix, 3)) (hq : pc + 3 = q) (k1 : AW G X d k n q lv (v :: st) M) : AW G X d k n pc lv (.ref a :: st) M := by
  intro p e R s m args below meth c H locs cells slots ls cx hl hm hS hk hn
  subst hq
  exact vk_getf cx.1 cx.2.1 (hF s cx.2.2.2.2.2.2.2.2.2.1) hS cx.own (cx.ts hlk rfl) (fun _ h => h) dg (k1 p e R s m args below meth c H locs cells slots ls cx hl hm hS hk hn)
theorem r_tlen {ty : FieldType} {t N : Nat} {f : Nat → Value} {v : Int32} (hT : ∀ s : State, wEnv G s s.heap → va_T ty t N f (wA G) s s.heap) (hv : Int32.ofNat N = v) (dg : decode X.2.1 pc = .ok (.arraylength, 1)) (hq : pc + 1 = q) (k1 : AW G X d k n q lv (.int v :: st) M) : AW G X d k n pc lv (.ref t :: st) M := by
  intro p e R s m args below meth c H locs cells slots ls cx hl hm hS hk hn
  subst hq
  exact va_tlen cx.1 cx.2.1 (hT s cx.2.2.2.2.2.2.2.2.2.1) hS hv dg (k1 p e R s m args below meth c H locs cells slots ls cx hl hm hS hk hn)
theorem r_tb {t N : Nat} {f : Nat → Value} {i : Int32} {v : Value} (hT : ∀ s : State, wEnv G s s.heap → va_T .byte t N f (wA G) s s.heap) (hin : vp_in i N) (hv : f i.toNatClampNeg = v) (dg : decode X.2.1 pc = .ok (.baload, 1)) (hq : pc + 1 = q) (k1 : AW G X d k n q lv (v :: st) M) : AW G X d k n pc lv (.int i :: .ref t :: st) M := by
  intro p e R s m args below meth c H locs cells slots ls cx hl hm hS hk hn
  subst hq
  exact va_tb cx.1 cx.2.1 (hT s cx.2.2.2.2.2.2.2.2.2.1) hS hin hv dg (k1 p e R s m args below meth c H locs cells slots ls cx hl hm hS hk hn)
theorem r_ti {t N : Nat} {f : Nat → Value} {i : Int32} {v : Value} (hT : ∀ s : State, wEnv G s s.heap → va_T .int t N f (wA G) s s.heap) (hin : vp_in i N) (hv : f i.toNatClampNeg = v) (dg : decode X.2.1 pc = .ok (.iaload, 1)) (hq : pc + 1 = q) (k1 : AW G X d k n q lv (v :: st) M) : AW G X d k n pc lv (.int i :: .ref t :: st) M := by
  intro p e R s m args below meth c H locs cells slots ls cx hl hm hS hk hn
  subst hq
  exact va_ti cx.1 cx.2.1 (hT s cx.2.2.2.2.2.2.2.2.2.1) hS hin hv dg (k1 p e R s m args below meth c H locs cells slots ls cx hl hm hS hk hn)
theorem r_getsq {ix i : Nat} {C f ds : String} (hZ : ∀ s : State, wEnv G s s.heap → va_Zq C f ds (wA G) s s.heap) (hlk : lw_tbl[i]? = some (.fieldLink X.1 ix C f ds)) (dg : decode X.2.1 pc = .ok (.getstatic ix, 3)) (hq : pc + 3 = q) (k1 : ∀ v : Value, v.category = 1 → AW G X d k n q lv (v :: st) M) : AW G X d k n pc lv st M := by
  intro p e R s m args below meth c H locs cells slots ls cx hl hm hS hk hn
  subst hq
  rcases hZ s cx.2.2.2.2.2.2.2.2.2.1 with h | ⟨t, h⟩
  · exact va_gets cx.1 cx.2.1 h hS cx.own (cx.ts hlk rfl) (fun _ h => h) dg (k1 _ rfl p e R s m args below meth c H locs cells slots ls cx hl hm hS hk hn)
  · exact va_gets cx.1 cx.2.1 h hS cx.own (cx.ts hlk rfl) (fun _ h => h) dg (k1 _ rfl p e R s m args below meth c H locs cells slots ls cx hl hm hS hk hn)
theorem r_invK {ix i1 i2 j : Nat} {y : MethodName} {b : ByteArray} {mL np k' n' k2 n2 : Nat} {rt : Option FieldType} {As : List Value} (hj : j < 10) (hw : wCall X.1 ix y b mL rt np) (hyC : y.cls = "java/lang/String") (h1 : lw_tbl[i1]? = some (.instanceMethod y)) (h2 : lw_tbl[i2]? = some (.selects "java/lang/String" y y)) (hn0 : As.length = np) (hst : (st.map fun v => v.category).sum ≤ 8) (hk2 : k' + k2 ≤ k) (hn2 : n' + n2 ≤ n) (dg : decode X.2.1 pc = .ok (.invokevirtual ix, 3)) (hq : pc + 3 = q) {stk : List Value} (hstk : stk = As.reverse ++ .ref (G.2.2.2.2.1 j) :: st)
    (ms : MS G y b mL rt d k' n' (.ref (G.2.2.2.2.1 j) :: As) M (fun v M' => AW G X (d + 1) k2 n2 q lv (wCons v st) M') (fun _ _ => False)) : AW G X (d + 1) k n pc lv stk M := by
  intro p e R s m args below meth c H locs cells slots ls cx hl hm hS hk hn
  subst hq; subst hstk
  have hRc := cx.2.2.2.2.2.2.2.2.2.2.2.2.2.1
  have hRs := cx.2.2.2.2.2.2.2.2.2.2.2.2.2.2
  obtain ⟨cell, g1, g2, g3, -⟩ := ((cx.2.2.2.2.2.2.2.2.2.1.2.2.2.2.2.2.2.2.2.2.1.1 j hj).1).kept hS.2.1
  refine aw_run (vx_runV (Ts := wG) (own := X.1) (C := "java/lang/String") (b := G.2.2.2.2.1 j) (As := As) (rest := st) ⟨cx.1, cx.2.1, cx.2.2.1, cx.own, cx.2.2.2.2.2.2.2.2.1⟩ ms ⟨wCallB cx hw, cx.ts h1 rfl, cx.ts h2 rfl⟩ ⟨wPc_blind, ⟨cell, g1, g2, g3⟩, wPre cx hm hS⟩ rfl hn0 hl.1 rfl (lv_room hst) dg ⟨by omega, by omega⟩) hS (fun v M' H' locs' hq hm' hS' => ?_) (fun E M' q9 ce H' locs' hq => hq.elim)
  exact hq p e R s m args below meth c H' locs' _ _ ls cx hl hm' hS' (by omega) (by omega)
def kLen (i : Nat) : Nat := wSl.getD i 0
theorem kLen_lt : ∀ i : Nat, i < 10 → kLen i < 8 := by decide
def kCh (i j : Nat) : Nat := ((wSb.getD i []).getD j 0).toNatClampNeg
theorem kCh_ok : ∀ i : Nat, i < 10 → ∀ j : Nat, j < kLen i → (wSb.getD i []).getD j 0 = nI (kCh i j) ∧ kCh i j < 128 := by decide
theorem and255 : ∀ x : Nat, x < 256 → nI x &&& nI 255 = nI x := fun x hx => by rw [n_and (by omega) 255 8 (by decide), Nat.mod_eq_of_lt hx]
theorem i2c_n {x : Nat} (hx : x < 65536) : ((nI x).toUInt32 % 65536).toInt32 = nI x := by
  rw [pk_char, pk_tn (by omega), Nat.mod_eq_of_lt hx]
theorem s_J0_coder_7d493 {i : Nat} (hi : i < 10) (hQ : Q (some (.int (nI 0))) M)  : MS G yJ0_coder_7d493 cJ0_coder_7d493 1 (some .byte) d 0 0 [.ref (G.2.2.2.2.1 i)] M Q QX := by
  refine MS.of (by decide) (by simp [Value.category]) (Nat.le_of_ble_eq_true rfl) ?_
  show AW _ (_, _, _, _, _, _, _, _, _) _ _ _ _ [some _] _ _
  refine r_gets (q := 3) (fun s hE => hE.2.2.2.2.1) fk_J0_38 dJ0_coder_7d493_0 rfl ?_
  refine r_if_eq (t := 13) (q := 6) dJ0_coder_7d493_3 rfl rfl (fun c3 => ?_) (fun c3 => ?_)
  · exact absurd c3 (by decide)
  · refine r_aload_n (q := 7) dJ0_coder_7d493_6 rfl rfl ?_
    refine r_getK (q := 10) (fun s hE => (hE.2.2.2.2.2.2.2.2.2.2.1.1 i hi).2.1) fk_J0_15 dJ0_coder_7d493_7 rfl ?_
    refine r_goto (t := 14) dJ0_coder_7d493_10 rfl ?_
    refine r_zret dJ0_coder_7d493_14 rfl ?_
    exact hQ
theorem s_J0_isLatin1_aae02 {i : Nat} (hi : i < 10) (hQ : Q (some (.int (nI 1))) M)  : MS G yJ0_isLatin1_aae02 cJ0_isLatin1_aae02 1 (some .boolean) d 0 0 [.ref (G.2.2.2.2.1 i)] M Q QX := by
  refine MS.of (by decide) (by simp [Value.category]) (Nat.le_of_ble_eq_true rfl) ?_
  show AW _ (_, _, _, _, _, _, _, _, _) _ _ _ _ [some _] _ _
  refine r_gets (q := 3) (fun s hE => hE.2.2.2.2.1) fk_J0_38 dJ0_isLatin1_aae02_0 rfl ?_
  refine r_if_eq (t := 17) (q := 6) dJ0_isLatin1_aae02_3 rfl rfl (fun c3 => ?_) (fun c3 => ?_)
  · exact absurd c3 (by decide)
  · refine r_aload_n (q := 7) dJ0_isLatin1_aae02_6 rfl rfl ?_
    refine r_getK (q := 10) (fun s hE => (hE.2.2.2.2.2.2.2.2.2.2.1.1 i hi).2.1) fk_J0_15 dJ0_isLatin1_aae02_7 rfl ?_
    refine r_if_ne (t := 17) (q := 13) dJ0_isLatin1_aae02_10 rfl rfl (fun c10 => ?_) (fun c10 => ?_)
    · exact absurd rfl c10
    · refine r_iconst (v := nI 1) (q := 14) dJ0_isLatin1_aae02_13 (by decide) rfl ?_
      refine r_goto (t := 18) dJ0_isLatin1_aae02_14 rfl ?_
      refine r_zret dJ0_isLatin1_aae02_18 rfl ?_
      exact hQ
theorem s_J0_length_8abf5 {i : Nat} (hi : i < 10) (hQ : Q (some (.int (nI (kLen i)))) M)  : MS G yJ0_length_8abf5 cJ0_length_8abf5 1 (some .int) (d + 1) 0 0 [.ref (G.2.2.2.2.1 i)] M Q QX := by
  refine MS.of (by decide) (by simp [Value.category]) (Nat.le_of_ble_eq_true rfl) ?_
  show AW _ (_, _, _, _, _, _, _, _, _) _ _ _ _ [some _] _ _
  refine r_aload_n (q := 1) dJ0_length_8abf5_0 rfl rfl ?_
  refine r_getK (q := 4) (fun s hE => (hE.2.2.2.2.2.2.2.2.2.2.1.1 i hi).2.2.1) fk_J0_9 dJ0_length_8abf5_1 rfl ?_
  refine r_tlen (q := 5) (fun s hE => (hE.2.2.2.2.2.2.2.2.2.2.1.1 i hi).2.2.2) (v := nI (kLen i)) rfl dJ0_length_8abf5_4 rfl ?_
  refine r_aload_n (q := 6) dJ0_length_8abf5_5 rfl rfl ?_
  refine r_invK (q := 9) (As := []) hi wc_J0_335 rfl im_J0_coder_7d493 se_J0_coder_7d493 rfl (Nat.le_of_ble_eq_true rfl) (Nat.le_of_eq (Nat.zero_add _)) (Nat.le_of_eq (Nat.zero_add _)) dJ0_length_8abf5_6 rfl rfl (s_J0_coder_7d493 hi ?_)
  refine r_ishr (q := 10) dJ0_length_8abf5_9 rfl ?_
  rw [n_shr (w := kLen i) (k := 0) (by have := kLen_lt i hi; omega) (by decide), Nat.pow_zero, Nat.div_one]
  refine r_iret dJ0_length_8abf5_10 ?_
  exact hQ
theorem s_J0_isEmpty_aae02 {i : Nat} (hi : i < 10) (hQ : Q (some (.int (bI (decide (kLen i = 0))))) M)  : MS G yJ0_isEmpty_aae02 cJ0_isEmpty_aae02 1 (some .boolean) d 0 0 [.ref (G.2.2.2.2.1 i)] M Q QX := by
  have hkl := kLen_lt i hi
  refine MS.of (by decide) (by simp [Value.category]) (Nat.le_of_ble_eq_true rfl) ?_
  show AW _ (_, _, _, _, _, _, _, _, _) _ _ _ _ [some _] _ _
  refine r_aload_n (q := 1) dJ0_isEmpty_aae02_0 rfl rfl ?_
  refine r_getK (q := 4) (fun s hE => (hE.2.2.2.2.2.2.2.2.2.2.1.1 i hi).2.2.1) fk_J0_9 dJ0_isEmpty_aae02_1 rfl ?_
  refine r_tlen (q := 5) (fun s hE => (hE.2.2.2.2.2.2.2.2.2.2.1.1 i hi).2.2.2) (v := nI (kLen i)) rfl dJ0_isEmpty_aae02_4 rfl ?_
  refine r_if_ne (t := 12) (q := 8) dJ0_isEmpty_aae02_5 rfl rfl (fun c5 => ?_) (fun c5 => ?_)
  · simp (disch := omega) only [nI_leI, nI_ltI, nI_eq, nI_lt0, nI_ge0, nI_gt0, nI_le0, nI_eq0] at c5
    rw [decide_eq_false c5] at hQ
    refine r_iconst (v := nI 0) (q := 13) dJ0_isEmpty_aae02_12 (by decide) rfl ?_
    refine r_zret dJ0_isEmpty_aae02_13 rfl ?_
    exact hQ
  · simp (disch := omega) only [nI_leI, nI_ltI, nI_eq, nI_lt0, nI_ge0, nI_gt0, nI_le0, nI_eq0] at c5
    rw [decide_eq_true c5] at hQ
    refine r_iconst (v := nI 1) (q := 9) dJ0_isEmpty_aae02_8 (by decide) rfl ?_
    refine r_goto (t := 13) dJ0_isEmpty_aae02_9 rfl ?_
    refine r_zret dJ0_isEmpty_aae02_13 rfl ?_
    exact hQ
theorem s_J3_checkIndex_8e157 {i n : Nat} {v : Value} (hv : v.category = 1) (hi : i < n) (hn : n < 2 ^ 31) (hQ : Q (some (.int (nI i))) M)  : MS G yJ3_checkIndex_8e157 cJ3_checkIndex_8e157 3 (some .int) d 0 0 [.int (nI i), .int (nI n), v] M Q QX := by
  refine MS.of (by decide) (by intro w hw; simp only [List.mem_cons, List.not_mem_nil, or_false] at hw; rcases hw with rfl | rfl | rfl <;> first | rfl | exact hv) (Nat.le_of_ble_eq_true rfl) ?_
  show AW _ (_, _, _, _, _, _, _, _, _) _ _ _ _ [some _, some _, some _] _ _
  refine r_iload_n (q := 1) dJ3_checkIndex_8e157_0 rfl rfl ?_
  refine r_if_lt (t := 9) (q := 4) dJ3_checkIndex_8e157_1 rfl rfl (fun c1 => ?_) (fun c1 => ?_)
  · exact absurd c1 (nI_pos (by omega))
  · simp (disch := omega) only [nI_leI, nI_ltI, nI_eq, nI_lt0, nI_ge0, nI_gt0, nI_le0, nI_eq0] at c1
    refine r_iload_n (q := 5) dJ3_checkIndex_8e157_4 rfl rfl ?_
    refine r_iload_n (q := 6) dJ3_checkIndex_8e157_5 rfl rfl ?_
    refine r_icmp_lt (t := 16) (q := 9) dJ3_checkIndex_8e157_6 rfl rfl (fun c6 => ?_) (fun c6 => ?_)
    · simp (disch := omega) only [nI_leI, nI_ltI, nI_eq, nI_lt0, nI_ge0, nI_gt0, nI_le0, nI_eq0] at c6
      refine r_iload_n (q := 17) dJ3_checkIndex_8e157_16 rfl rfl ?_
      refine r_iret dJ3_checkIndex_8e157_17 ?_
      exact hQ
    · simp (disch := omega) only [nI_leI, nI_ltI, nI_eq, nI_lt0, nI_ge0, nI_gt0, nI_le0, nI_eq0] at c6
      exact absurd hi c6
theorem s_J0_checkIndex_df160 {i n : Nat} (hi : i < n) (hn : n < 2 ^ 31) (hQ : Q none M)  : MS G yJ0_checkIndex_df160 cJ0_checkIndex_df160 2 none (d + 1) 0 0 [.int (nI i), .int (nI n)] M Q QX := by
  refine MS.of (by decide) (by simp [Value.category]) (Nat.le_of_ble_eq_true rfl) ?_
  show AW _ (_, _, _, _, _, _, _, _, _) _ _ _ _ [some _, some _] _ _
  refine r_iload_n (q := 1) dJ0_checkIndex_df160_0 rfl rfl ?_
  refine r_iload_n (q := 2) dJ0_checkIndex_df160_1 rfl rfl ?_
  refine r_getsq (q := 5) (fun s hE => hE.2.2.2.2.2.2.2.2.2.2.1.2.1.1) fk_J0_1053 dJ0_checkIndex_df160_2 rfl fun v hv => ?_
  refine r_cS (q := 8) (As := [.int _, .int _, v]) wc_J0_1059 st_J3_checkIndex_8e157 rfl (Nat.le_of_ble_eq_true rfl) (Nat.le_of_eq (Nat.zero_add _)) (Nat.le_of_eq (Nat.zero_add _)) dJ0_checkIndex_df160_5 rfl rfl (s_J3_checkIndex_8e157 hv hi hn ?_)
  refine r_pop (q := 9) dJ0_checkIndex_df160_8 rfl rfl ?_
  refine r_vret dJ0_checkIndex_df160_9 ?_
  exact hQ
theorem s_J1_charAt_3b067 {i : Nat} (hi : i < 10) {j : Nat} (hj : j < kLen i) (hQ : Q (some (.int (nI (kCh i j)))) M)  : MS G yJ1_charAt_3b067 cJ1_charAt_3b067 2 (some .char) (d + 2) 0 0 [.ref (G.2.2.2.2.2.1 i), .int (nI j)] M Q QX := by
  have hkl := kLen_lt i hi
  have hch := (kCh_ok i hi j hj).2
  refine MS.of (by decide) (by simp [Value.category]) (Nat.le_of_ble_eq_true rfl) ?_
  show AW _ (_, _, _, _, _, _, _, _, _) _ _ _ _ [some _, some _] _ _
  refine r_iload_n (q := 1) dJ1_charAt_3b067_0 rfl rfl ?_
  refine r_aload_n (q := 2) dJ1_charAt_3b067_1 rfl rfl ?_
  refine r_tlen (q := 3) (fun s hE => (hE.2.2.2.2.2.2.2.2.2.2.1.1 i hi).2.2.2) (v := nI (kLen i)) rfl dJ1_charAt_3b067_2 rfl ?_
  refine r_cS (q := 6) (As := [.int _, .int _]) wc_J1_9 st_J0_checkIndex_df160 rfl (Nat.le_of_ble_eq_true rfl) (Nat.le_of_eq (Nat.zero_add _)) (Nat.le_of_eq (Nat.zero_add _)) dJ1_charAt_3b067_3 rfl rfl (s_J0_checkIndex_df160 hj (by omega) ?_)
  refine r_aload_n (q := 7) dJ1_charAt_3b067_6 rfl rfl ?_
  refine r_iload_n (q := 8) dJ1_charAt_3b067_7 rfl rfl ?_
  refine r_tb (q := 9) (fun s hE => (hE.2.2.2.2.2.2.2.2.2.2.1.1 i hi).2.2.2) (vp_in_nI hj (Nat.lt_trans (kLen_lt i hi) (by decide))) (v := .int (nI (kCh i j))) (by rw [nI_clamp (by omega), (kCh_ok i hi j hj).1]) dJ1_charAt_3b067_8 rfl ?_
  refine r_sipush (v := nI 255) (q := 12) dJ1_charAt_3b067_9 (by decide) rfl ?_
  refine r_iand (q := 13) dJ1_charAt_3b067_12 rfl ?_
  rw [and255 _ (by omega)]
  refine r_i2c (q := 14) dJ1_charAt_3b067_13 rfl ?_
  rw [i2c_n (by omega)]
  refine r_zret dJ1_charAt_3b067_14 (pk_charN (by omega)).1 ?_
  exact hQ
theorem s_J0_charAt_5068e {i : Nat} (hi : i < 10) {j : Nat} (hj : j < kLen i) (hQ : Q (some (.int (nI (kCh i j)))) M)  : MS G yJ0_charAt_5068e cJ0_charAt_5068e 2 (some .char) (d + 3) 0 0 [.ref (G.2.2.2.2.1 i), .int (nI j)] M Q QX := by
  have hch := (kCh_ok i hi j hj).2
  refine MS.of (by decide) (by simp [Value.category]) (Nat.le_of_ble_eq_true rfl) ?_
  show AW _ (_, _, _, _, _, _, _, _, _) _ _ _ _ [some _, some _] _ _
  refine r_aload_n (q := 1) dJ0_charAt_5068e_0 rfl rfl ?_
  refine r_invK (q := 4) (As := []) hi wc_J0_492 rfl im_J0_isLatin1_aae02 se_J0_isLatin1_aae02 rfl (Nat.le_of_ble_eq_true rfl) (Nat.le_of_eq (Nat.zero_add _)) (Nat.le_of_eq (Nat.zero_add _)) dJ0_charAt_5068e_1 rfl rfl (s_J0_isLatin1_aae02 hi ?_)
  refine r_if_eq (t := 16) (q := 7) dJ0_charAt_5068e_4 rfl rfl (fun c4 => ?_) (fun c4 => ?_)
  · exact absurd c4 (by decide)
  · refine r_aload_n (q := 8) dJ0_charAt_5068e_7 rfl rfl ?_
    refine r_getK (q := 11) (fun s hE => (hE.2.2.2.2.2.2.2.2.2.2.1.1 i hi).2.2.1) fk_J0_9 dJ0_charAt_5068e_8 rfl ?_
    refine r_iload_n (q := 12) dJ0_charAt_5068e_11 rfl rfl ?_
    refine r_cS (q := 15) (As := [.ref _, .int _]) wc_J0_495 st_J1_charAt_3b067 rfl (Nat.le_of_ble_eq_true rfl) (Nat.le_of_eq (Nat.zero_add _)) (Nat.le_of_eq (Nat.zero_add _)) dJ0_charAt_5068e_12 rfl rfl (s_J1_charAt_3b067 hi hj ?_)
    refine r_zret dJ0_charAt_5068e_15 (pk_charN (by omega)).1 ?_
    exact hQ
theorem s_X0_size (h : RX G Λ ρ σ M) (hQ : Q (some (.int (gM σ 6))) M)  : MS G yX0_size cX0_size 1 (some .int) d 0 0 [.ref (Λ (4, 0, 0))] M Q QX := by
  refine MS.of (by decide) (by simp [Value.category]) (Nat.le_of_ble_eq_true rfl) ?_
  show AW _ (_, _, _, _, _, _, _, _, _) _ _ _ _ [some _] _ _
  refine r_aload_n (q := 1) dX0_size_0 rfl rfl ?_
  refine r_get (q := 4) (kk := 2) h.hi rfl wi_RX0 (by decide) rfl fk_X0_21 rfl dX0_size_1 rfl ?_
  refine r_iret dX0_size_4 ?_
  exact hQ
theorem s_X0_forget (h : RX G Λ ρ σ M) (hQ : ∀ M', RX G Λ ρ (sM σ 6 (nI 0)) M' → Q none M')  : MS G yX0_forget cX0_forget 1 none d 0 0 [.ref (Λ (4, 0, 0))] M Q QX := by
  refine MS.of (by decide) (by simp [Value.category]) (Nat.le_of_ble_eq_true rfl) ?_
  show AW _ (_, _, _, _, _, _, _, _, _) _ _ _ _ [some _] _ _
  refine r_aload_n (q := 1) dX0_forget_0 rfl rfl ?_
  refine r_iconst (v := nI 0) (q := 2) dX0_forget_1 (by decide) rfl ?_
  refine r_p0 (q := 5) (kk := 2) (j := 6) h (by decide) rfl fk_X0_21 dX0_forget_2 rfl fun M_2 h_2 => ?_
  refine r_vret dX0_forget_5 ?_
  exact hQ _ h_2
theorem rem8 {a : Nat} (ha : a < 2 ^ 31) : nI a - nI a / nI 8 * nI 8 = nI (a % 8) := fa_rem (k := 3) ha (by decide)
theorem s_X0_slotAt (h : RX G Λ ρ σ M) {o p : Nat} (ho : gM σ 5 = nI o) (ho8 : o < 8) (hp : p < 9) (hQ : Q (some (.ref (Λ (1, 3 + (o + p) % 8, 0)))) M)  : MS G yX0_slotAt cX0_slotAt 3 (some (.object "WhistleJunction$State")) d 0 0 [.ref (Λ (4, 0, 0)), .int (nI p)] M Q QX := by
  obtain ⟨f, hf, hfv⟩ := h.2.2.2.2.1
  have hm : (o + p) % 8 < 8 := Nat.mod_lt _ (by decide)
  refine MS.of (by decide) (by simp [Value.category]) (Nat.le_of_ble_eq_true rfl) ?_
  show AW _ (_, _, _, _, _, _, _, _, _) _ _ _ _ [some _, some _, _] _ _
  refine r_aload_n (q := 1) dX0_slotAt_0 rfl rfl ?_
  refine r_get (q := 4) (kk := 1) h.hi rfl wi_RX0 (by decide) rfl fk_X0_17 rfl dX0_slotAt_1 rfl ?_
  rw [ho]
  refine r_iload_n (q := 5) dX0_slotAt_4 rfl rfl ?_
  refine r_iadd (q := 6) dX0_slotAt_5 rfl ?_
  rw [n_add]
  refine r_bipush (v := nI 8) (q := 8) dX0_slotAt_6 (by decide) rfl ?_
  refine r_irem (q := 9) dX0_slotAt_8 (by decide) rfl ?_
  rw [rem8 (by omega)]
  refine r_istore_n (q := 10) dX0_slotAt_9 (Nat.le_of_ble_eq_true rfl) rfl rfl ?_
  show AW _ (_, _, _, _, _, _, _, _, _) _ _ _ _ [some _, some _, some _] _ _
  refine r_iload_n (q := 11) dX0_slotAt_10 rfl rfl ?_
  refine r_if_lt (t := 32) (q := 14) dX0_slotAt_11 rfl rfl (fun c11 => ?_) (fun c11 => ?_)
  · exact absurd c11 (nI_pos (by omega))
  · simp (disch := omega) only [nI_leI, nI_ltI, nI_eq, nI_lt0, nI_ge0, nI_gt0, nI_le0, nI_eq0] at c11
    refine r_iload_n (q := 15) dX0_slotAt_14 rfl rfl ?_
    refine r_aload_n (q := 16) dX0_slotAt_15 rfl rfl ?_
    refine r_get (q := 19) (kk := 0) h.hi rfl wi_RX0 (by decide) rfl fk_X0_11 rfl dX0_slotAt_16 rfl ?_
    refine r_alen (q := 20) hf (t := 4) (v := nI 8) rfl rfl dX0_slotAt_19 rfl ?_
    refine r_icmp_ge (t := 32) (q := 23) dX0_slotAt_20 rfl rfl (fun c20 => ?_) (fun c20 => ?_)
    · simp (disch := omega) only [nI_leI, nI_ltI, nI_eq, nI_lt0, nI_ge0, nI_gt0, nI_le0, nI_eq0] at c20
      exact absurd c20 (by omega)
    · simp (disch := omega) only [nI_leI, nI_ltI, nI_eq, nI_lt0, nI_ge0, nI_gt0, nI_le0, nI_eq0] at c20
      refine r_aload_n (q := 24) dX0_slotAt_23 rfl rfl ?_
      refine r_get (q := 27) (kk := 0) h.hi rfl wi_RX0 (by decide) rfl fk_X0_11 rfl dX0_slotAt_24 rfl ?_
      refine r_iload_n (q := 28) dX0_slotAt_27 rfl rfl ?_
      refine r_aald (q := 29) hf (vp_in_nI hm (by decide)) dX0_slotAt_28 rfl ?_
      rw [nI_clamp (by omega), hfv _ hm]
      refine r_goto (t := 33) dX0_slotAt_29 rfl ?_
      refine r_aret dX0_slotAt_33 (Or.inl ⟨_, rfl⟩) (Or.inr ⟨_, rfl⟩) ?_
      exact hQ
def hPush (σ : Sg) (o z : Nat) (a : Nat) : Sg := if z = 8 then sM (sS (sM (sM σ 5 (nI ((o + 1) % 8))) 6 (nI 7)) (3 + ((o + 1) % 8 + 7) % 8) (gS σ a)) 6 (nI 8) else sM (sS σ (3 + (o + z) % 8) (gS σ a)) 6 (nI (z + 1))
def hPop (σ : Sg) (o z : Nat) (a : Nat) : Sg := sM (sS σ a (gS σ (3 + (o + (z - 1)) % 8))) 6 (nI (z - 1))
theorem s_X0_push (h : RX G Λ ρ σ M) {o z : Nat} (ho : gM σ 5 = nI o) (ho8 : o < 8) (hz : gM σ 6 = nI z) (hz8 : z ≤ 8) {a : Nat} (ha : a < 3) (hQ : ∀ M', RX G Λ ρ (hPush σ o z a) M' → Q none M')  : MS G yX0_push cX0_push 3 none (d + 3) 0 0 [.ref (Λ (4, 0, 0)), .ref (Λ (1, a, 0))] M Q QX := by
  have join : ∀ (σ : Sg) (M1 : Me) (o z : Nat) (u : Option Value), RX G Λ ρ σ M1 → gM σ 5 = nI o → o < 8 → gM σ 6 = nI z → z < 8 → (∀ M', RX G Λ ρ (sM (sS σ (3 + (o + z) % 8) (gS σ a)) 6 (nI (z + 1))) M' → Q none M') → AW G (wX G yX0_push cX0_push 3 none 0 0 Q QX) (d + 3) 0 0 32 [some (.ref (Λ (4, 0, 0))), some (.ref (Λ (1, a, 0))), u] [] M1 := by
    intro σ M1 o z u h ho ho8 hz hz8 hq
    refine r_aload_n (q := 33) dX0_push_32 rfl rfl ?_
    refine r_aload_n (q := 34) dX0_push_33 rfl rfl ?_
    refine r_get (q := 37) (kk := 2) h.hi rfl wi_RX0 (by decide) rfl fk_X0_21 rfl dX0_push_34 rfl ?_
    rw [hz]
    refine r_cV (q := 40) (As := [.int _]) wc_X0_25 rfl im_X0_slotAt se_X0_slotAt h.hi rfl rfl (Nat.le_of_ble_eq_true rfl) (Nat.le_of_eq (Nat.zero_add _)) (Nat.le_of_eq (Nat.zero_add _)) dX0_push_37 rfl rfl (s_X0_slotAt h (o := o) (p := z) ho (by omega) (by omega) ?_)
    refine r_astore_n (q := 41) dX0_push_40 (Nat.le_of_ble_eq_true rfl) rfl rfl ?_
    show AW _ (_, _, _, _, _, _, _, _, _) _ _ _ _ [some _, some _, some _] _ _
    refine r_aload_n (q := 42) dX0_push_41 rfl rfl ?_
    refine r_ifnull (q := 45) dX0_push_42 rfl ?_
    refine r_aload_n (q := 46) dX0_push_45 rfl rfl ?_
    refine r_aload_n (q := 47) dX0_push_46 rfl rfl ?_
    refine r_cV (q := 50) (As := [.ref _]) wc_X0_29 rfl im_X5_copyFrom se_X5_copyFrom (h.st (by omega)) rfl rfl (Nat.le_of_ble_eq_true rfl) (Nat.le_of_eq (Nat.zero_add _)) (Nat.le_of_eq (Nat.zero_add _)) dX0_push_47 rfl rfl (s_X5_copyFrom (h.toS (3 + (o + z) % 8)) (by omega) (by omega) (by omega) fun M_47 h_47 => ?_)
    refine r_aload_n (q := 51) dX0_push_50 rfl rfl ?_
    refine r_dup (q := 52) dX0_push_51 rfl rfl ?_
    refine r_get (q := 55) (kk := 2) h_47.hi rfl wi_RX0 (by decide) rfl fk_X0_21 rfl dX0_push_52 rfl ?_
    rw [show gM (sS σ (3 + (o + z) % 8) (gS σ a)) 6 = nI z from hz]
    refine r_iconst (v := nI 1) (q := 56) dX0_push_55 (by decide) rfl ?_
    refine r_iadd (q := 57) dX0_push_56 rfl ?_
    rw [n_add]
    refine r_p0 (q := 60) (kk := 2) (j := 6) h_47 (by decide) rfl fk_X0_21 dX0_push_57 rfl fun M_57 h_57 => ?_
    refine r_vret dX0_push_60 ?_
    exact hq _ h_57
  refine MS.of (by decide) (by simp [Value.category]) (Nat.le_of_ble_eq_true rfl) ?_
  show AW _ (_, _, _, _, _, _, _, _, _) _ _ _ _ [some _, some _, _] _ _
  refine r_aload_n (q := 1) dX0_push_0 rfl rfl ?_
  refine r_get (q := 4) (kk := 2) h.hi rfl wi_RX0 (by decide) rfl fk_X0_21 rfl dX0_push_1 rfl ?_
  rw [hz]
  refine r_bipush (v := nI 8) (q := 6) dX0_push_4 (by decide) rfl ?_
  refine r_icmp_ne (t := 32) (q := 9) dX0_push_6 rfl rfl (fun c6 => ?_) (fun c6 => ?_)
  · simp (disch := omega) only [nI_leI, nI_ltI, nI_eq, nI_lt0, nI_ge0, nI_gt0, nI_le0, nI_eq0] at c6
    refine join σ M o z _ h ho ho8 hz (by omega) fun M1 h1 => hQ M1 ?_
    rw [hPush, if_neg c6]
    exact h1
  · simp (disch := omega) only [nI_leI, nI_ltI, nI_eq, nI_lt0, nI_ge0, nI_gt0, nI_le0, nI_eq0] at c6
    refine r_aload_n (q := 10) dX0_push_9 rfl rfl ?_
    refine r_aload_n (q := 11) dX0_push_10 rfl rfl ?_
    refine r_get (q := 14) (kk := 1) h.hi rfl wi_RX0 (by decide) rfl fk_X0_17 rfl dX0_push_11 rfl ?_
    rw [ho]
    refine r_iconst (v := nI 1) (q := 15) dX0_push_14 (by decide) rfl ?_
    refine r_iadd (q := 16) dX0_push_15 rfl ?_
    rw [n_add]
    refine r_bipush (v := nI 8) (q := 18) dX0_push_16 (by decide) rfl ?_
    refine r_irem (q := 19) dX0_push_18 (by decide) rfl ?_
    rw [rem8 (by omega)]
    refine r_p0 (q := 22) (kk := 1) (j := 5) h (by decide) rfl fk_X0_17 dX0_push_19 rfl fun M_19 h_19 => ?_
    refine r_aload_n (q := 23) dX0_push_22 rfl rfl ?_
    refine r_dup (q := 24) dX0_push_23 rfl rfl ?_
    refine r_get (q := 27) (kk := 2) h_19.hi rfl wi_RX0 (by decide) rfl fk_X0_21 rfl dX0_push_24 rfl ?_
    rw [show gM (sM σ 5 (nI ((o + 1) % 8))) 6 = nI z from hz]
    refine r_iconst (v := nI 1) (q := 28) dX0_push_27 (by decide) rfl ?_
    refine r_isub (q := 29) dX0_push_28 rfl ?_
    rw [c6, n_sub (by decide)]
    refine r_p0 (q := 32) (kk := 2) (j := 6) h_19 (by decide) rfl fk_X0_21 dX0_push_29 rfl fun M_29 h_29 => ?_
    refine join _ _ ((o + 1) % 8) 7 _ h_29 rfl (Nat.mod_lt _ (by decide)) rfl (by decide) fun M1 h1 => hQ M1 ?_
    rw [hPush, if_pos c6]
    exact h1
theorem s_X0_pop (h : RX G Λ ρ σ M) {o z : Nat} (ho : gM σ 5 = nI o) (ho8 : o < 8) (hz : gM σ 6 = nI z) (hz8 : z ≤ 8) (hz1 : 0 < z) {a : Nat} (ha : a < 3) (hQ : ∀ M', RX G Λ ρ (hPop σ o z a) M' → Q none M')  : MS G yX0_pop cX0_pop 3 none (d + 3) 0 0 [.ref (Λ (4, 0, 0)), .ref (Λ (1, a, 0))] M Q QX := by
  refine MS.of (by decide) (by simp [Value.category]) (Nat.le_of_ble_eq_true rfl) ?_
  show AW _ (_, _, _, _, _, _, _, _, _) _ _ _ _ [some _, some _, _] _ _
  refine r_aload_n (q := 1) dX0_pop_0 rfl rfl ?_
  refine r_aload_n (q := 2) dX0_pop_1 rfl rfl ?_
  refine r_get (q := 5) (kk := 2) h.hi rfl wi_RX0 (by decide) rfl fk_X0_21 rfl dX0_pop_2 rfl ?_
  rw [hz]
  refine r_iconst (v := nI 1) (q := 6) dX0_pop_5 (by decide) rfl ?_
  refine r_isub (q := 7) dX0_pop_6 rfl ?_
  rw [n_sub (by omega)]
  refine r_cV (q := 10) (As := [.int _]) wc_X0_25 rfl im_X0_slotAt se_X0_slotAt h.hi rfl rfl (Nat.le_of_ble_eq_true rfl) (Nat.le_of_eq (Nat.zero_add _)) (Nat.le_of_eq (Nat.zero_add _)) dX0_pop_7 rfl rfl (s_X0_slotAt h (o := o) (p := z - 1) ho (by omega) (by omega) ?_)
  refine r_astore_n (q := 11) dX0_pop_10 (Nat.le_of_ble_eq_true rfl) rfl rfl ?_
  show AW _ (_, _, _, _, _, _, _, _, _) _ _ _ _ [some _, some _, some _] _ _
  refine r_aload_n (q := 12) dX0_pop_11 rfl rfl ?_
  refine r_ifnull (q := 15) dX0_pop_12 rfl ?_
  refine r_aload_n (q := 16) dX0_pop_15 rfl rfl ?_
  refine r_aload_n (q := 17) dX0_pop_16 rfl rfl ?_
  refine r_cV (q := 20) (As := [.ref _]) wc_X0_29 rfl im_X5_copyFrom se_X5_copyFrom (h.st (by omega)) rfl rfl (Nat.le_of_ble_eq_true rfl) (Nat.le_of_eq (Nat.zero_add _)) (Nat.le_of_eq (Nat.zero_add _)) dX0_pop_17 rfl rfl (s_X5_copyFrom (h.toS a) (by omega) (by omega) (by omega) fun M_17 h_17 => ?_)
  refine r_aload_n (q := 21) dX0_pop_20 rfl rfl ?_
  refine r_dup (q := 22) dX0_pop_21 rfl rfl ?_
  refine r_get (q := 25) (kk := 2) h_17.hi rfl wi_RX0 (by decide) rfl fk_X0_21 rfl dX0_pop_22 rfl ?_
  rw [show gM (sS σ a (gS σ (3 + (o + (z - 1)) % 8))) 6 = nI z from hz]
  refine r_iconst (v := nI 1) (q := 26) dX0_pop_25 (by decide) rfl ?_
  refine r_isub (q := 27) dX0_pop_26 rfl ?_
  rw [n_sub (by omega)]
  refine r_p0 (q := 30) (kk := 2) (j := 6) h_17 (by decide) rfl fk_X0_21 dX0_pop_27 rfl fun M_27 h_27 => ?_
  refine r_vret dX0_pop_30 ?_
  exact hQ _ h_27
end W29
