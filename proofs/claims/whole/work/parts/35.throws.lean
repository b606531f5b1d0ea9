/-! THROWS: what each needs of the tables -/
section W35
variable {G : En} {X : Fx} {d k n pc q : Nat} {lv : List (Option Value)} {st : List Value} {M : Me}
/-- the same with a wide text -/
theorem r_throwW {own : String} {cc : ByteArray} {nL : Nat} {ret : Option FieldType} {nm : String} {k0 n0 : Nat} {Q0 : Option Value → Me → Prop} {QX0 : String → Me → Prop} {ik is ic i1 i2 j : Nat} {cls text : String} {names : List String} (hcls : Bundle.fit cls = true) (hnames : ∀ x ∈ names, Bundle.fit x = true) (h1 : lw_tbl[i1]? = some (.classLink own ik cls)) (h2 : lw_tbl[i2]? = some (.initialized cls)) (h3 : wTx[j]? = some (own, is, text)) (hat : (vx_atS own ic cls names).all (fun w => decide (w ∈ lw_tbl) && (goodWord w || wNw w)) = true) (hgood : (Cond.classLink own ik cls :: Cond.initialized cls :: vx_atS own ic cls names).all vx_ot = true) (hnl : names.length ≤ 4) (hd : 8 ≤ d) (hst : (st.map fun v => v.category).sum ≤ 8) (h4 : 1 ≤ k) (h5 : 6 ≤ n)
    (d0 : decode cc pc = .ok (.new ik, 3)) (d3 : decode cc (pc + 3) = .ok (.dup, 1)) (d4 : decode cc (pc + 4) = .ok (.ldc_w is, 3)) (d6 : decode cc (pc + 7) = .ok (.invokespecial ic, 3)) (d9 : decode cc (pc + 10) = .ok (.athrow, 1)) (hQ : QX0 cls M) : AW G (own, cc, nL, ret, [], nm, k0, n0, wFin G Q0 QX0 k0 n0) d k n pc lv st M := by
  intro p e R s m args below meth c H locs cells slots ls cx hl hm hS hk hn
  have hRc := cx.2.2.2.2.2.2.2.2.2.2.2.2.2.1
  have hRs := cx.2.2.2.2.2.2.2.2.2.2.2.2.2.2
  have hF := cx.2.2.2.2.2.2.2.2.2.2.2.1
  have hL := cx.2.2.2.2.2.2.2.2.2.2.2.2.1
  have hE := cx.2.2.2.2.2.2.2.2.2.1
  dsimp only at hRc hRs hk hn
  refine vx_throwSW (names := names) (A := wA G) cx.1 cx.2.1 hE.2.2.2.2.2.2.2.2.2.2.2 cx.own hcls hnames (cx.ts h1 rfl) (cx.ts h2 rfl) (hE.2.2.2.2.2.2.2.2.2.1 j _ h3) (fun w hw => ?_) (fun w hw => List.all_eq_true.mp hgood w hw) hE.2.2.1 hE.2.2.2.1 hS (hl.1.trans cx.2.2.1.symm) d0 d3 d4 d6 d9 (fun x hx => by rw [cx.2.2.2.2.2.2.1] at hx; cases hx) (by omega) (by omega) (by omega) (by omega) cx.2.2.2.2.1 (fun t hal hz hp => ?_) hS.2.2 (by omega) (by omega)
  · have h9 := List.all_eq_true.mp hat w hw
    simp only [Bool.and_eq_true, decide_eq_true_eq, Bool.or_eq_true] at h9
    rcases h9.2 with hg | hg
    · exact cx.2.2.2.2.2.2.2.2.1 w (wG_mem h9.1 hg)
    · have h8 := hE.1 w h9.1 hg
      cases w <;> first | (simp [wNw] at hg; done) | exact va_Nw.use rfl h8
  · refine ⟨⟨M, hQ, ?_⟩, ?_, ?_⟩
    · refine wMem.moved (u := s) hal ⟨hm.1, fun o a9 e9 ho => ⟨(hm.2.1 o a9 e9 ho).1.kept (hp a9 (hm.2.1 o a9 e9 ho).1.lt), (hm.2.1 o a9 e9 ho).2⟩, hm.2.2⟩
    · exact Nat.le_trans hS.1 hz
    · exact fun x h8 h9 => (hp x (Nat.lt_of_lt_of_le h8 hS.1)).trans (hS.2.1 x h8 h9)
def nm_ArithmeticException : List String := ["java/lang/RuntimeException", "java/lang/Exception"]
theorem ini_ArithmeticException : lw_tbl[123]? = some (.initialized "java/lang/ArithmeticException") := by decide +kernel
theorem ck_X8_303 : lw_tbl[1435]? = some (.classLink RX8 303 "java/lang/ArithmeticException") := by decide +kernel
theorem at_X8_307 : (vx_atS RX8 307 "java/lang/ArithmeticException" nm_ArithmeticException).all (fun w => decide (w ∈ lw_tbl) && (goodWord w || wNw w)) = true := by decide +kernel
theorem og_X8_307 : (Cond.classLink RX8 303 "java/lang/ArithmeticException" :: Cond.initialized "java/lang/ArithmeticException" :: vx_atS RX8 307 "java/lang/ArithmeticException" nm_ArithmeticException).all vx_ot = true := by decide +kernel
def nm_IllegalArgumentException : List String := ["java/lang/RuntimeException", "java/lang/Exception"]
theorem ini_IllegalArgumentException : lw_tbl[110]? = some (.initialized "java/lang/IllegalArgumentException") := by decide +kernel
theorem ck_X8_130 : lw_tbl[484]? = some (.classLink RX8 130 "java/lang/IllegalArgumentException") := by decide +kernel
theorem at_X8_134 : (vx_atS RX8 134 "java/lang/IllegalArgumentException" nm_IllegalArgumentException).all (fun w => decide (w ∈ lw_tbl) && (goodWord w || wNw w)) = true := by decide +kernel
theorem og_X8_134 : (Cond.classLink RX8 130 "java/lang/IllegalArgumentException" :: Cond.initialized "java/lang/IllegalArgumentException" :: vx_atS RX8 134 "java/lang/IllegalArgumentException" nm_IllegalArgumentException).all vx_ot = true := by decide +kernel
def nm_IllegalStateException : List String := ["java/lang/RuntimeException", "java/lang/Exception"]
theorem ini_IllegalStateException : lw_tbl[122]? = some (.initialized "java/lang/IllegalStateException") := by decide +kernel
theorem ck_X8_291 : lw_tbl[1367]? = some (.classLink RX8 291 "java/lang/IllegalStateException") := by decide +kernel
theorem at_X8_295 : (vx_atS RX8 295 "java/lang/IllegalStateException" nm_IllegalStateException).all (fun w => decide (w ∈ lw_tbl) && (goodWord w || wNw w)) = true := by decide +kernel
theorem og_X8_295 : (Cond.classLink RX8 291 "java/lang/IllegalStateException" :: Cond.initialized "java/lang/IllegalStateException" :: vx_atS RX8 295 "java/lang/IllegalStateException" nm_IllegalStateException).all vx_ot = true := by decide +kernel
def nm_IndexOutOfBoundsException : List String := ["java/lang/RuntimeException", "java/lang/Exception"]
theorem ini_IndexOutOfBoundsException : lw_tbl[107]? = some (.initialized "java/lang/IndexOutOfBoundsException") := by decide +kernel
theorem ck_X8_123 : lw_tbl[412]? = some (.classLink RX8 123 "java/lang/IndexOutOfBoundsException") := by decide +kernel
theorem at_X8_127 : (vx_atS RX8 127 "java/lang/IndexOutOfBoundsException" nm_IndexOutOfBoundsException).all (fun w => decide (w ∈ lw_tbl) && (goodWord w || wNw w)) = true := by decide +kernel
theorem og_X8_127 : (Cond.classLink RX8 123 "java/lang/IndexOutOfBoundsException" :: Cond.initialized "java/lang/IndexOutOfBoundsException" :: vx_atS RX8 127 "java/lang/IndexOutOfBoundsException" nm_IndexOutOfBoundsException).all vx_ot = true := by decide +kernel
def nm_UnsupportedOperationException : List String := ["java/lang/RuntimeException", "java/lang/Exception"]
theorem ini_UnsupportedOperationException : lw_tbl[111]? = some (.initialized "java/lang/UnsupportedOperationException") := by decide +kernel
theorem ck_X8_350 : lw_tbl[500]? = some (.classLink RX8 350 "java/lang/UnsupportedOperationException") := by decide +kernel
theorem at_X8_354 : (vx_atS RX8 354 "java/lang/UnsupportedOperationException" nm_UnsupportedOperationException).all (fun w => decide (w ∈ lw_tbl) && (goodWord w || wNw w)) = true := by decide +kernel
theorem og_X8_354 : (Cond.classLink RX8 350 "java/lang/UnsupportedOperationException" :: Cond.initialized "java/lang/UnsupportedOperationException" :: vx_atS RX8 354 "java/lang/UnsupportedOperationException" nm_UnsupportedOperationException).all vx_ot = true := by decide +kernel
end W35
