/-! Rows over the desk. -/
section G10
variable {g : GG} {k : KK} {nL : Nat} {cc : ByteArray} {own : String} {rt : Option FieldType} {D mc ms : Nat} {Q : State → Prop} {cells slots pc : Nat} {lo : List (Nat × Value)} {st : List Value} {X : va_W} {T : TT} {I : II}
theorem r_dk {I0 : II} {b B N E : Nat} {w : Nat → Int32} {pm : Nat → Nat} {an : Int32} (h : DW I0 I b w B N E pm an) (kk : ∀ I', DW I0 I' b w B N E pm an → Go g k nL Q cells slots pc lo st X T I') : Go g k nL Q cells slots pc lo st X T I := kk I h
end G10
/-- it answers r, the desk at b holds w', nothing else has changed -/
def PD (I0 : II) (b : Nat) (X : va_W) (T : TT) (r0 : Option Value) (w : Nat → Int32) (B N E : Nat) (pm : Nat → Nat) (an : Int32) : PhiT := fun r X' T' I' => r = r0 ∧ X' = X ∧ T' = T ∧ DW I0 I' b w B N E pm an
def qupV (a d : Int32) : Int32 := if 0 < d then (a + d - nI 1) / d else nI 0
theorem qup_day {x : Int32} : qupV x (nI 1000) = (x + nI 999) / nI 1000 := by
  rw [qupV, if_pos (by decide), show x + nI 1000 - nI 1 = x + nI 999 by rw [show nI 1000 = nI 999 + nI 1 by decide]; grind]
theorem okK_lt {v : Int32} : (¬ v < 0 ∧ v < nI 4) ↔ okK v := by
  have e0 : (0 : Int32).toInt = 0 := by decide
  have e1 : (nI 0).toInt = 0 := by decide
  have e3 : (nI 3).toInt = 3 := by decide
  have e4 : (nI 4).toInt = 4 := by decide
  rw [okK, Int32.lt_iff_toInt_lt, Int32.lt_iff_toInt_lt, Int32.le_iff_toInt_le, Int32.le_iff_toInt_le]
  omega
def mnV (x y : Int32) : Int32 := if y < x then y else x
def mxV (x y : Int32) : Int32 := if x < y then y else x
/-- the order of loans by debt -/
def cbB (w : Nat → Int32) (a b : Nat) : Bool := if debtV w a = debtV w b then (if w (58 + 10 * a + 5) = w (58 + 10 * b + 5) then decide (w (58 + 10 * a + 0) < w (58 + 10 * b + 0)) else decide (w (58 + 10 * a + 5) < w (58 + 10 * b + 5))) else decide (debtV w b < debtV w a)
/-- how many come before the loan at s -/
def cbN (w : Nat → Int32) (N s : Nat) : Int32 := sm (fun r => bI (cbB w r s = true)) N 0 (nI 0)
def dlV (w : Nat → Int32) (s : Nat) : Int32 := if valV w s - debtV w s < 0 then nI 1 else if 0 < dayV w s then mnV (w (58 + 10 * s + 5) - w 0 + nI 1) ((valV w s - debtV w s) / dayV w s + nI 1) else w (58 + 10 * s + 5) - w 0 + nI 1
/-- the units of a kind as the class adds them up -/
def unitsC (w : Nat → Int32) (B N k : Nat) : Int32 := sm (fun s => w (58 + 10 * s + (6 + k))) N 0 (sm (fun n => w (22 + 6 * n + (2 + k))) B 0 (w (14 + k)))
def bsI (w : Nat → Int32) : Nat → Nat → Nat → Nat
  | 0, _, b => b
  | n + 1, k, b => bsI w n (k + 1) (if dlV w k < dlV w b then k else b)
theorem bsI_go {w : Nat → Int32} {N q b c : Nat} (h : q < N) (hc : (if dlV w q < dlV w b then q else b) = c) : bsI w (N - q) q b = bsI w (N - (q + 1)) (q + 1) c := by
  rw [show N - q = (N - (q + 1)) + 1 by omega, ← hc]; rfl
theorem bsI_end {w : Nat → Int32} {N q b : Nat} (h : N ≤ q) : bsI w (N - q) q b = b := by
  rw [show N - q = 0 by omega]; rfl
theorem sm_go0 {f : Nat → Int32} {N q : Nat} {a R : Int32} (h : q < N) (hR : sm f (N - q) q a = R) (hv : f q = nI 0) : sm f (N - (q + 1)) (q + 1) a = R := by
  have h1 := sm_go h hR hv
  rw [i_add0] at h1
  exact h1
theorem sm_go1 {f : Nat → Int32} {N q : Nat} {a R : Int32} (h : q < N) (hR : sm f (N - q) q a = R) (hv : f q = nI 1) : sm f (N - (q + 1)) (q + 1) (a + Int32.ofInt 1) = R := sm_go h hR hv
theorem okB_lt {B : Nat} {x : Int32} (hB : B ≤ 100) : (¬ x < 0 ∧ x < nI B) ↔ okN B x := by
  have e0 : (0 : Int32).toInt = 0 := by decide
  have e1 : (nI 0).toInt = 0 := by decide
  have e3 : (nI B).toInt = B := nI_toInt (by omega)
  have e4 : (nI B - nI 1).toInt = (B : Int) - 1 := by
    rcases Nat.eq_zero_or_pos B with rfl | h
    · decide
    · rw [pk_sub h, nI_toInt (by omega)]; omega
  rw [okN, Int32.lt_iff_toInt_lt, Int32.lt_iff_toInt_lt, Int32.le_iff_toInt_le, Int32.le_iff_toInt_le]
  omega
theorem DV.val {I : II} {b : Nat} {w : Nat → Int32} {B N E s : Nat} {pm : Nat → Nat} (h : DV I b w B N E pm) (hs : s < N) : val4 (I (b + 5 + 17 + 2 * pm s + 1)) (fun k => w (10 + k)) = valV w s := by
  simp only [valV, val4]
  rw [h.get (at_pledged hs (k := 0) (by decide)), h.get (at_pledged hs (k := 1) (by decide)), h.get (at_pledged hs (k := 2) (by decide)), h.get (at_pledged hs (k := 3) (by decide))]
section G11
variable {g : GG} {k : KK} {nL : Nat} {cc : ByteArray} {own : String} {rt : Option FieldType} {D mc ms : Nat} {Q : State → Prop} {cells slots pc : Nat} {lo : List (Nat × Value)} {st : List Value} {X : va_W} {T : TT} {I : II}
theorem r_astore_nN (C : Cx g k nL cc own rt D mc ms) {j : Fin 4} {i : Nat} {lo' : List (Nat × Value)} (d : decode cc pc = .ok (.astore_n j, 1)) (hi : (j : Nat) = i) (hn : i < nL) (hl : sl lo i .null = lo') (kk : Go g k nL Q cells slots (pc + 1) lo' st X T I) : Go g k nL Q cells slots pc lo (.null :: st) X T I :=
  fun ls H locs h1 h2 h3 => lv_astore_nN C.x C.b d hi h1 hn hl (fun ls' h1' => kk ls' H locs h1' h2 h3)
theorem r_astoreN (C : Cx g k nL cc own rt D mc ms) {i : Nat} {lo' : List (Nat × Value)} (d : decode cc pc = .ok (.astore i, 2)) (hn : i < nL) (hl : sl lo i .null = lo') (kk : Go g k nL Q cells slots (pc + 2) lo' st X T I) : Go g k nL Q cells slots pc lo (.null :: st) X T I :=
  fun ls H locs h1 h2 h3 => lv_astoreN C.x C.b d h1 hn hl (fun ls' h1' => kk ls' H locs h1' h2 h3)
theorem r_aloadN (C : Cx g k nL cc own rt D mc ms) {i : Nat} (q : Nat) (d : decode cc pc = .ok (.aload i, 2)) (hl : lo[q]? = some (i, .null)) (kk : Go g k nL Q cells slots (pc + 2) lo (.null :: st) X T I) : Go g k nL Q cells slots pc lo st X T I :=
  fun ls H locs h1 h2 h3 => lv_aloadN C.x C.b d (lv_at h1 q hl) (kk ls H locs h1 h2 h3)
theorem r_min {idx : Nat} {x y : Int32} (C : Cx g k nL cc own rt D mc ms) (L : LkS own idx yJ9_min_7cf53 cJ9_min_7cf53 2 (some .int) 2) (hw : (st.map fun v => v.category).sum ≤ 8) (hr : cells ≤ mc ∧ slots ≤ ms) (d : decode cc pc = .ok (.invokestatic idx, 3)) (kk : Go g k nL Q cells slots (pc + 3) lo (.int (mnV x y) :: st) X T I) : Go g k nL Q cells slots pc lo (.int y :: .int x :: st) X T I := by
  intro ls H locs h1 h2 h3
  exact va_mmin C.x C.b (C.ml.trans h1.1.symm) C.ow (C.ts _ L.1) (C.ts _ L.2.1) (C.ts _ L.2.2.1) (C.ts _ L.2.2.2.1) (by rw [C.R]; show 1 ≤ 4 * D + 8; omega) (by rw [C.R]; show _ ≤ 100 * D + 200; omega) (by rw [C.R]; exact hr.1) (by rw [C.R]; exact hr.2) d (kk ls H locs h1 h2 h3)
theorem r_max {idx : Nat} {x y : Int32} (C : Cx g k nL cc own rt D mc ms) (L : LkS own idx yJ9_max_7cf53 cJ9_max_7cf53 2 (some .int) 2) (hw : (st.map fun v => v.category).sum ≤ 8) (hr : cells ≤ mc ∧ slots ≤ ms) (d : decode cc pc = .ok (.invokestatic idx, 3)) (kk : Go g k nL Q cells slots (pc + 3) lo (.int (mxV x y) :: st) X T I) : Go g k nL Q cells slots pc lo (.int y :: .int x :: st) X T I := by
  intro ls H locs h1 h2 h3
  exact va_mmax C.x C.b (C.ml.trans h1.1.symm) C.ow (C.ts _ L.1) (C.ts _ L.2.1) (C.ts _ L.2.2.1) (C.ts _ L.2.2.2.1) (by rw [C.R]; show 1 ≤ 4 * D + 8; omega) (by rw [C.R]; show _ ≤ 100 * D + 200; omega) (by rw [C.R]; exact hr.1) (by rw [C.R]; exact hr.2) d (kk ls H locs h1 h2 h3)
end G11
