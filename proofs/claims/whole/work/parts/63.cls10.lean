section G63
variable {g : GG} {k : KK} {nL : Nat} {cc : ByteArray} {own : String} {rt : Option FieldType} {D mc ms : Nat} {Q : State → Prop} {cells slots pc : Nat} {lo : List (Nat × Value)} {st : List Value} {X : va_W} {T : TT} {I : II}
theorem r_acopyC {idx a0 a1 n0 n1 sp dp n : Nat} {rf0 rf1 : Nat → Option Nat} (C : Cx g k nL cc own rt D mc ms) (hl : LkA own idx) (h0 : T a0 = (3, n0, rf0)) (h1 : T a1 = (3, n1, rf1)) (hs : sp + n ≤ n0) (hd : dp + n ≤ n1) (hn0 : n0 < 2 ^ 31) (hn1 : n1 < 2 ^ 31) (hft : ∀ i, i < n → fits .char (.int (I a0 (sp + i))) = true) (hw : (st.map fun v => v.category).sum ≤ 8) (d : decode cc pc = .ok (.invokestatic idx, 3)) (kk : Go g k nL Q cells slots (pc + 3) lo st X T (sr I a1 (va_cpy (I a0) (I a1) sp dp n))) : Go g k nL Q cells slots pc lo (.int (nI n) :: .int (nI dp) :: .ref a1 :: .int (nI sp) :: .ref a0 :: st) X T I := by
  intro ls H locs b1 b2 b3
  obtain ⟨L, p1, p2, p3⟩ := id b2
  obtain ⟨l1, l2, l3, l4⟩ := hl
  obtain ⟨q0, e0⟩ := va_pl_get (X := X) (f := cellOf g T I) ((p1 a0).mpr (nz h0 (by decide)))
  obtain ⟨q1, e1⟩ := va_pl_get (X := X) (f := cellOf g T I) ((p1 a1).mpr (nz h1 (by decide)))
  have e0' : (X ++ va_pl L (cellOf g T I))[q0]? = some (a0, .inl (gA g 1, n0, .inl (I a0))) := by rw [e0]; simp [cellOf, h0]
  have e1' : (X ++ va_pl L (cellOf g T I))[q1]? = some (a1, .inl (gA g 1, n1, .inl (I a1))) := by rw [e1]; simp [cellOf, h1]
  refine va_copyi C.x C.b (C.ml.trans b1.1.symm) C.ow (C.ts _ l1) (C.ts _ l2) (C.ts _ l3) (C.ts _ l4) C.K p2 p3 b3 q0 q1 1 1 e0' e1' rfl rfl rfl (nI_pos (by omega)) (nI_pos (by omega)) (nI_pos (by omega)) ?_ ?_ ?_ ?_ ?_ d (fun H1 locs1 f1 f2 f3 => ?_)
  · rw [nI_clamp (by omega), nI_clamp (by omega)]; exact hs
  · rw [nI_clamp (by omega), nI_clamp (by omega)]; exact hd
  · rw [nI_clamp (by omega), nI_clamp (by omega)]; exact hft
  · rw [C.R]; show 1 ≤ 4 * D + 8; omega
  · rw [C.R]; show _ + (5 + 2 + 11) ≤ 100 * D + 200; omega
  · rw [nI_clamp (by omega), nI_clamp (by omega), nI_clamp (by omega)] at f1 f2
    exact kk ls H1 locs1 b1 (Go.arr (Or.inr (Or.inl rfl)) h1 p1 p3 e1 f1 f2) f3
end G63
/-- the text of n letters taken into the reader -/
def opI (I : II) (r bf n : Nat) : II := u2 (sr (u2 I r 4 (nI n)) (r + 2) (va_cpy (u2 I r 4 (nI n) bf) (u2 I r 4 (nI n) (r + 2)) 0 0 n)) r 0 (nI 0)
theorem opI_R {I : II} {r bf n : Nat} {c : Nat → Nat} (h1 : bf ≠ r) (hn : n ≤ 60) (hc : ∀ j, j < n → I bf j = nI (c j)) (hc2 : ∀ j, j < n → c j < 128) : Rdr (opI I r bf n) r n c := by
  refine ⟨?_, hn, fun j hj => ?_, hc2⟩
  · rw [opI, u2_o (by decide), sr_n (by omega), u2_g]
  · rw [opI, u2_r (by omega), sr_s, cp_v hj, u2_r h1]; exact hc j hj
theorem opI_0 {I : II} {r bf n : Nat} : opI I r bf n r 0 = nI 0 := u2_g
theorem opI_1 {I : II} {r bf n : Nat} : opI I r bf n r 1 = I r 1 := by rw [opI, u2_o (by decide), sr_n (by omega), u2_o (by decide)]
theorem opI_o {I : II} {r bf n b : Nat} (h0 : b ≠ r) (h2 : b ≠ r + 2) : opI I r bf n b = I b := by rw [opI, u2_r h0, sr_n h2, u2_r h0]
theorem mnV_n {x y : Nat} (h : x ≤ y) (hy : y < 2 ^ 31) : mnV (nI x) (nI y) = nI x := if_neg (nI_nlt h (by omega))
set_option maxHeartbeats 1000000 in
theorem c_cmd0__s {g : GG} {X : va_W} {T : TT} {I : II} {r L : Nat} {c : Nat → Nat} (hr : isRd T r) (hR : Rdr I r L c) {v : Nat} {nm : Nat → Int32} (hv9 : v < 9)  {i : Nat} (hi : i < 9) (hv : vbv c L 0 9 0 = some i) : Mc g yX2_readCommand cX2_readCommand 1 (some .boolean) 6 0 0 [.ref r] X T (rI I r 0 v nm) (RC I r (cmV c L 0) X T) := by
  have hL := hR.2.1
  have hcm : cmV c L 0 = ((agv c L (shL i) (0 + (kwL i).length)).1, (agv c L (shL i) (0 + (kwL i).length)).2.1, i, (agv c L (shL i) (0 + (kwL i).length)).2.2) := by unfold cmV; rw [hv]
  refine Mc.of (by decide) (Nat.le_of_ble_eq_true rfl) (fun k hfl C => ?_)
  refine r_lo (lo' := [(0, _)]) rfl ?_
  refine r_aload_n (pc := 0) C 0 dX2_readCommand_0 rfl rfl ?_
  refine r_get9I (pc := 1) C f_X2_9 hr.1 (Or.inl rfl) dX2_readCommand_1 ?_
  refine r_t (y := nI 0) rI_0 ?_
  refine r_ifleN (pc := 4) (tgt := 18) C dX2_readCommand_4 rfl (by omega) (fun c_4 => ?_) (fun c_4 => False.elim (by omega))
  refine r_aload_n (pc := 18) C 0 dX2_readCommand_18 rfl rfl ?_
  refine r_callV9 (pc := 19) C hfl k_X2_54 (c_readVerb hr hR (p := 0) (by omega)) hr.1 ca_X2 rfl rfl (Nat.le_of_ble_eq_true rfl) (by decide) (by decide) dX2_readCommand_19 (fun r2 X2 T2 I2 h2 => ?_)
  obtain ⟨rfl, rfl, h2⟩ := h2
  obtain ⟨rfl, q1, rfl⟩ : r2 = some (.int (nI 1)) ∧ 0 + (kwL i).length ≤ L ∧ I2 = rI I r (0 + (kwL i).length) i nm := by
      rcases h2 with ⟨i2, e1, e2, e3, e4, e5⟩ | ⟨e1, -, -⟩
      · rw [hv] at e1; obtain rfl := Option.some.inj e1; exact ⟨e3, e4, e5⟩
      · rw [hv] at e1; cases e1
  refine r_st (st' := [.int (nI 1)]) rfl ?_
  refine r_ifeqN (pc := 22) (tgt := 36) C dX2_readCommand_22 rfl (by omega) (fun c_22 => False.elim (by omega)) (fun c_22 => ?_)
  refine r_aload_n (pc := 25) C 0 dX2_readCommand_25 rfl rfl ?_
  refine r_callV9 (pc := 26) C hfl k_X2_58 (c_args hr hR (p := (0 + (kwL i).length)) q1 hi) hr.1 ca_X2 rfl rfl (Nat.le_of_ble_eq_true rfl) (by decide) (by decide) dX2_readCommand_26 (fun r3 X3 T3 I3 h3 => ?_)
  obtain ⟨rfl, rfl, rfl, nm2, rfl, hok⟩ := h3
  refine r_st (st' := [.int _]) rfl ?_
  refine r_ifeqB (pc := 29) (tgt := 36) C dX2_readCommand_29 rfl (fun c_29 => ?_) (fun c_29 => ?_)
  · skip
    refine r_iconst (pc := 36) (v := 0) C dX2_readCommand_36 rfl ?_
    exact r_zret (pc := 37) C rfl dX2_readCommand_37 (by show RC I r (cmV c L 0) _ _ _ _ _ _; rw [hcm]; exact ⟨rfl, rfl, congrArg (fun z => some (Value.int z)) (bI_f c_29).symm, i, nm2, hi, rfl, fun h => absurd h c_29⟩) (by decide)
  · skip
    refine r_iconst (pc := 32) (v := 1) C dX2_readCommand_32 rfl ?_
    refine r_goto (pc := 33) (tgt := 37) C dX2_readCommand_33 rfl ?_
    exact r_zret (pc := 37) C rfl dX2_readCommand_37 (by show RC I r (cmV c L 0) _ _ _ _ _ _; rw [hcm]; exact ⟨rfl, rfl, congrArg (fun z => some (Value.int z)) (bI_t c_29).symm, i, nm2, hi, rfl, fun h => ⟨rfl, hok h⟩⟩) (by decide)

set_option maxHeartbeats 1000000 in
theorem c_cmd0__n {g : GG} {X : va_W} {T : TT} {I : II} {r L : Nat} {c : Nat → Nat} (hr : isRd T r) (hR : Rdr I r L c) {v : Nat} {nm : Nat → Int32} (hv9 : v < 9)  (hv : vbv c L 0 9 0 = none) : Mc g yX2_readCommand cX2_readCommand 1 (some .boolean) 6 0 0 [.ref r] X T (rI I r 0 v nm) (RC I r (cmV c L 0) X T) := by
  have hL := hR.2.1
  have hcm : cmV c L 0 = (false, 0 + fur c L 0 9 0 0, 9, []) := by unfold cmV; rw [hv]
  refine Mc.of (by decide) (Nat.le_of_ble_eq_true rfl) (fun k hfl C => ?_)
  refine r_lo (lo' := [(0, _)]) rfl ?_
  refine r_aload_n (pc := 0) C 0 dX2_readCommand_0 rfl rfl ?_
  refine r_get9I (pc := 1) C f_X2_9 hr.1 (Or.inl rfl) dX2_readCommand_1 ?_
  refine r_t (y := nI 0) rI_0 ?_
  refine r_ifleN (pc := 4) (tgt := 18) C dX2_readCommand_4 rfl (by omega) (fun c_4 => ?_) (fun c_4 => False.elim (by omega))
  refine r_aload_n (pc := 18) C 0 dX2_readCommand_18 rfl rfl ?_
  refine r_callV9 (pc := 19) C hfl k_X2_54 (c_readVerb hr hR (p := 0) (by omega)) hr.1 ca_X2 rfl rfl (Nat.le_of_ble_eq_true rfl) (by decide) (by decide) dX2_readCommand_19 (fun r2 X2 T2 I2 h2 => ?_)
  obtain ⟨rfl, rfl, h2⟩ := h2
  obtain ⟨rfl, rfl⟩ : r2 = some (.int (nI 0)) ∧ I2 = rI I r (0 + fur c L 0 9 0 0) v nm := by
      rcases h2 with ⟨i2, e1, e2, e3, e4, e5⟩ | ⟨-, e2, e3⟩
      · rw [hv] at e1; cases e1
      · exact ⟨e2, e3⟩
  refine r_st (st' := [.int (nI 0)]) rfl ?_
  refine r_ifeqN (pc := 22) (tgt := 36) C dX2_readCommand_22 rfl (by omega) (fun c_22 => ?_) (fun c_22 => False.elim (by omega))
  refine r_iconst (pc := 36) (v := 0) C dX2_readCommand_36 rfl ?_
  exact r_zret (pc := 37) C rfl dX2_readCommand_37 (by show RC I r (cmV c L 0) _ _ _ _ _ _; rw [hcm]; exact ⟨rfl, rfl, congrArg (fun z => some (Value.int z)) (bI_f Bool.false_ne_true).symm, v, nm, hv9, rfl, fun h => absurd h Bool.false_ne_true⟩) (by decide)

theorem c_cmd0 {g : GG} {X : va_W} {T : TT} {I : II} {r L : Nat} {c : Nat → Nat} (hr : isRd T r) (hR : Rdr I r L c) {v : Nat} {nm : Nat → Int32} (hv9 : v < 9)  : Mc g yX2_readCommand cX2_readCommand 1 (some .boolean) 6 0 0 [.ref r] X T (rI I r 0 v nm) (RC I r (cmV c L 0) X T) := by
  cases hv : vbv c L 0 9 0 with
  | none => exact c_cmd0__n hr hR hv9 hv
  | some i => exact c_cmd0__s hr hR hv9 (by have := (vbv_at _ _ _ hv).2.2; omega) hv

set_option maxHeartbeats 1000000 in
theorem c_cmd1__s {g : GG} {X : va_W} {T : TT} {I : II} {r L : Nat} {c : Nat → Nat} (hr : isRd T r) (hR : Rdr I r L c) {v : Nat} {nm : Nat → Int32} (hv9 : v < 9) {p0 : Nat} (h0 : 0 < p0) (hs : has c L p0 59) {i : Nat} (hi : i < 9) (hv : vbv c L (p0 + 1) 9 0 = some i) : Mc g yX2_readCommand cX2_readCommand 1 (some .boolean) 6 0 0 [.ref r] X T (rI I r p0 v nm) (RC I r (cmV c L (p0 + 1)) X T) := by
  have hL := hR.2.1
  have hs1 := hs.1
  have hcm : cmV c L (p0 + 1) = ((agv c L (shL i) ((p0 + 1) + (kwL i).length)).1, (agv c L (shL i) ((p0 + 1) + (kwL i).length)).2.1, i, (agv c L (shL i) ((p0 + 1) + (kwL i).length)).2.2) := by unfold cmV; rw [hv]
  refine Mc.of (by decide) (Nat.le_of_ble_eq_true rfl) (fun k hfl C => ?_)
  refine r_lo (lo' := [(0, _)]) rfl ?_
  refine r_aload_n (pc := 0) C 0 dX2_readCommand_0 rfl rfl ?_
  refine r_get9I (pc := 1) C f_X2_9 hr.1 (Or.inl rfl) dX2_readCommand_1 ?_
  refine r_t (y := nI p0) rI_0 ?_
  refine r_ifleN (pc := 4) (tgt := 18) C dX2_readCommand_4 rfl (by omega) (fun c_4 => False.elim (by omega)) (fun c_4 => ?_)
  refine r_aload_n (pc := 7) C 0 dX2_readCommand_7 rfl rfl ?_
  refine r_bipush (pc := 8) (v := 59) C dX2_readCommand_8 rfl ?_
  refine r_c9i (pc := 10) C hfl k_X2_50 (c_sign (x := 59) hr hR (p := p0) (by omega) (by decide)) hr.1 ca_X2 rfl rfl (Nat.le_of_ble_eq_true rfl) (by decide) (by decide) dX2_readCommand_10 ?_
  refine r_ifneB (pc := 13) (tgt := 18) C dX2_readCommand_13 rfl (fun c_13 => ?_) (fun c_13 => False.elim (by exact c_13 hs))
  refine r_I (I' := rI I r (p0 + 1) v nm) (by rw [if_pos c_13]) ?_
  refine r_aload_n (pc := 18) C 0 dX2_readCommand_18 rfl rfl ?_
  refine r_callV9 (pc := 19) C hfl k_X2_54 (c_readVerb hr hR (p := (p0 + 1)) (by omega)) hr.1 ca_X2 rfl rfl (Nat.le_of_ble_eq_true rfl) (by decide) (by decide) dX2_readCommand_19 (fun r2 X2 T2 I2 h2 => ?_)
  obtain ⟨rfl, rfl, h2⟩ := h2
  obtain ⟨rfl, q1, rfl⟩ : r2 = some (.int (nI 1)) ∧ (p0 + 1) + (kwL i).length ≤ L ∧ I2 = rI I r ((p0 + 1) + (kwL i).length) i nm := by
      rcases h2 with ⟨i2, e1, e2, e3, e4, e5⟩ | ⟨e1, -, -⟩
      · rw [hv] at e1; obtain rfl := Option.some.inj e1; exact ⟨e3, e4, e5⟩
      · rw [hv] at e1; cases e1
  refine r_st (st' := [.int (nI 1)]) rfl ?_
  refine r_ifeqN (pc := 22) (tgt := 36) C dX2_readCommand_22 rfl (by omega) (fun c_22 => False.elim (by omega)) (fun c_22 => ?_)
  refine r_aload_n (pc := 25) C 0 dX2_readCommand_25 rfl rfl ?_
  refine r_callV9 (pc := 26) C hfl k_X2_58 (c_args hr hR (p := ((p0 + 1) + (kwL i).length)) q1 hi) hr.1 ca_X2 rfl rfl (Nat.le_of_ble_eq_true rfl) (by decide) (by decide) dX2_readCommand_26 (fun r3 X3 T3 I3 h3 => ?_)
  obtain ⟨rfl, rfl, rfl, nm2, rfl, hok⟩ := h3
  refine r_st (st' := [.int _]) rfl ?_
  refine r_ifeqB (pc := 29) (tgt := 36) C dX2_readCommand_29 rfl (fun c_29 => ?_) (fun c_29 => ?_)
  · skip
    refine r_iconst (pc := 36) (v := 0) C dX2_readCommand_36 rfl ?_
    exact r_zret (pc := 37) C rfl dX2_readCommand_37 (by show RC I r (cmV c L (p0 + 1)) _ _ _ _ _ _; rw [hcm]; exact ⟨rfl, rfl, congrArg (fun z => some (Value.int z)) (bI_f c_29).symm, i, nm2, hi, rfl, fun h => absurd h c_29⟩) (by decide)
  · skip
    refine r_iconst (pc := 32) (v := 1) C dX2_readCommand_32 rfl ?_
    refine r_goto (pc := 33) (tgt := 37) C dX2_readCommand_33 rfl ?_
    exact r_zret (pc := 37) C rfl dX2_readCommand_37 (by show RC I r (cmV c L (p0 + 1)) _ _ _ _ _ _; rw [hcm]; exact ⟨rfl, rfl, congrArg (fun z => some (Value.int z)) (bI_t c_29).symm, i, nm2, hi, rfl, fun h => ⟨rfl, hok h⟩⟩) (by decide)

set_option maxHeartbeats 1000000 in
theorem c_cmd1__n {g : GG} {X : va_W} {T : TT} {I : II} {r L : Nat} {c : Nat → Nat} (hr : isRd T r) (hR : Rdr I r L c) {v : Nat} {nm : Nat → Int32} (hv9 : v < 9) {p0 : Nat} (h0 : 0 < p0) (hs : has c L p0 59) (hv : vbv c L (p0 + 1) 9 0 = none) : Mc g yX2_readCommand cX2_readCommand 1 (some .boolean) 6 0 0 [.ref r] X T (rI I r p0 v nm) (RC I r (cmV c L (p0 + 1)) X T) := by
  have hL := hR.2.1
  have hs1 := hs.1
  have hcm : cmV c L (p0 + 1) = (false, (p0 + 1) + fur c L (p0 + 1) 9 0 0, 9, []) := by unfold cmV; rw [hv]
  refine Mc.of (by decide) (Nat.le_of_ble_eq_true rfl) (fun k hfl C => ?_)
  refine r_lo (lo' := [(0, _)]) rfl ?_
  refine r_aload_n (pc := 0) C 0 dX2_readCommand_0 rfl rfl ?_
  refine r_get9I (pc := 1) C f_X2_9 hr.1 (Or.inl rfl) dX2_readCommand_1 ?_
  refine r_t (y := nI p0) rI_0 ?_
  refine r_ifleN (pc := 4) (tgt := 18) C dX2_readCommand_4 rfl (by omega) (fun c_4 => False.elim (by omega)) (fun c_4 => ?_)
  refine r_aload_n (pc := 7) C 0 dX2_readCommand_7 rfl rfl ?_
  refine r_bipush (pc := 8) (v := 59) C dX2_readCommand_8 rfl ?_
  refine r_c9i (pc := 10) C hfl k_X2_50 (c_sign (x := 59) hr hR (p := p0) (by omega) (by decide)) hr.1 ca_X2 rfl rfl (Nat.le_of_ble_eq_true rfl) (by decide) (by decide) dX2_readCommand_10 ?_
  refine r_ifneB (pc := 13) (tgt := 18) C dX2_readCommand_13 rfl (fun c_13 => ?_) (fun c_13 => False.elim (by exact c_13 hs))
  refine r_I (I' := rI I r (p0 + 1) v nm) (by rw [if_pos c_13]) ?_
  refine r_aload_n (pc := 18) C 0 dX2_readCommand_18 rfl rfl ?_
  refine r_callV9 (pc := 19) C hfl k_X2_54 (c_readVerb hr hR (p := (p0 + 1)) (by omega)) hr.1 ca_X2 rfl rfl (Nat.le_of_ble_eq_true rfl) (by decide) (by decide) dX2_readCommand_19 (fun r2 X2 T2 I2 h2 => ?_)
  obtain ⟨rfl, rfl, h2⟩ := h2
  obtain ⟨rfl, rfl⟩ : r2 = some (.int (nI 0)) ∧ I2 = rI I r ((p0 + 1) + fur c L (p0 + 1) 9 0 0) v nm := by
      rcases h2 with ⟨i2, e1, e2, e3, e4, e5⟩ | ⟨-, e2, e3⟩
      · rw [hv] at e1; cases e1
      · exact ⟨e2, e3⟩
  refine r_st (st' := [.int (nI 0)]) rfl ?_
  refine r_ifeqN (pc := 22) (tgt := 36) C dX2_readCommand_22 rfl (by omega) (fun c_22 => ?_) (fun c_22 => False.elim (by omega))
  refine r_iconst (pc := 36) (v := 0) C dX2_readCommand_36 rfl ?_
  exact r_zret (pc := 37) C rfl dX2_readCommand_37 (by show RC I r (cmV c L (p0 + 1)) _ _ _ _ _ _; rw [hcm]; exact ⟨rfl, rfl, congrArg (fun z => some (Value.int z)) (bI_f Bool.false_ne_true).symm, v, nm, hv9, rfl, fun h => absurd h Bool.false_ne_true⟩) (by decide)

theorem c_cmd1 {g : GG} {X : va_W} {T : TT} {I : II} {r L : Nat} {c : Nat → Nat} (hr : isRd T r) (hR : Rdr I r L c) {v : Nat} {nm : Nat → Int32} (hv9 : v < 9) {p0 : Nat} (h0 : 0 < p0) (hs : has c L p0 59) : Mc g yX2_readCommand cX2_readCommand 1 (some .boolean) 6 0 0 [.ref r] X T (rI I r p0 v nm) (RC I r (cmV c L (p0 + 1)) X T) := by
  cases hv : vbv c L (p0 + 1) 9 0 with
  | none => exact c_cmd1__n hr hR hv9 h0 hs hv
  | some i => exact c_cmd1__s hr hR hv9 h0 hs (by have := (vbv_at _ _ _ hv).2.2; omega) hv

set_option maxHeartbeats 1000000 in
theorem c_cmdx {g : GG} {X : va_W} {T : TT} {I : II} {r L : Nat} {c : Nat → Nat} (hr : isRd T r) (hR : Rdr I r L c) {v : Nat} {nm : Nat → Int32} {p0 : Nat} (h0 : 0 < p0) (hp : p0 ≤ L) (hs : ¬ has c L p0 59)  : Mc g yX2_readCommand cX2_readCommand 1 (some .boolean) 6 0 0 [.ref r] X T (rI I r p0 v nm) (Ex (some (.int (nI 0))) X T (rI I r p0 v nm)) := by
  have hL := hR.2.1
  refine Mc.of (by decide) (Nat.le_of_ble_eq_true rfl) (fun k hfl C => ?_)
  refine r_lo (lo' := [(0, _)]) rfl ?_
  refine r_aload_n (pc := 0) C 0 dX2_readCommand_0 rfl rfl ?_
  refine r_get9I (pc := 1) C f_X2_9 hr.1 (Or.inl rfl) dX2_readCommand_1 ?_
  refine r_t (y := nI p0) rI_0 ?_
  refine r_ifleN (pc := 4) (tgt := 18) C dX2_readCommand_4 rfl (by omega) (fun c_4 => False.elim (by omega)) (fun c_4 => ?_)
  refine r_aload_n (pc := 7) C 0 dX2_readCommand_7 rfl rfl ?_
  refine r_bipush (pc := 8) (v := 59) C dX2_readCommand_8 rfl ?_
  refine r_c9i (pc := 10) C hfl k_X2_50 (c_sign (x := 59) hr hR (p := p0) (by omega) (by decide)) hr.1 ca_X2 rfl rfl (Nat.le_of_ble_eq_true rfl) (by decide) (by decide) dX2_readCommand_10 ?_
  refine r_ifneB (pc := 13) (tgt := 18) C dX2_readCommand_13 rfl (fun c_13 => False.elim (by exact hs c_13)) (fun c_13 => ?_)
  refine r_I (I' := rI I r p0 v nm) (by rw [if_neg c_13]) ?_
  refine r_iconst (pc := 16) (v := 0) C dX2_readCommand_16 rfl ?_
  exact r_zret (pc := 17) C rfl dX2_readCommand_17 ⟨rfl, rfl, rfl, rfl⟩ (by decide)

set_option maxHeartbeats 1000000 in
theorem c_open {g : GG} {X : va_W} {T : TT} {I : II} {r bf n : Nat} {c : Nat → Nat} (hr : isRd T r) (hbf : T bf = (3, 60, nr)) (hne : bf ≠ r) (hn : n ≤ 60) (hc : ∀ j, j < n → I bf j = nI (c j)) (hc2 : ∀ j, j < n → c j < 128)  : Mc g yX2_open cX2_open 3 none 1 0 0 [.ref r, .ref bf, .int (nI n)] X T I (Ex none X T (opI I r bf n)) := by
  refine Mc.of (by decide) (Nat.le_of_ble_eq_true rfl) (fun k hfl C => ?_)
  refine r_lo (lo' := [(0, _), (1, _), (2, _)]) rfl ?_
  refine r_aload_n (pc := 0) C 0 dX2_open_0 rfl rfl ?_
  refine r_iconst (pc := 1) (v := 0) C dX2_open_1 rfl ?_
  refine r_iload_n (pc := 2) C 2 dX2_open_2 rfl rfl ?_
  refine r_aload_n (pc := 3) C 1 dX2_open_3 rfl rfl ?_
  refine r_alen (pc := 4) C hbf (by decide) dX2_open_4 ?_
  refine r_bipush (pc := 5) (v := 60) C dX2_open_5 rfl ?_
  refine r_min (pc := 7) C k_X2_35 (Nat.le_of_ble_eq_true rfl) (by decide) dX2_open_7 ?_
  refine r_t (y := nI 60) (mnV_n (by decide) (by decide)) ?_
  refine r_min (pc := 10) C k_X2_35 (Nat.le_of_ble_eq_true rfl) (by decide) dX2_open_10 ?_
  refine r_t (y := nI n) (mnV_n (by omega) (by decide)) ?_
  refine r_max (pc := 13) C k_X2_41 (Nat.le_of_ble_eq_true rfl) (by decide) dX2_open_13 ?_
  refine r_t (y := nI n) ((mxV_n (by decide) (by omega)).trans (congrArg nI (by split <;> omega))) ?_
  refine r_put9I (pc := 16) C f_X2_32 hr.1 (Or.inr rfl) dX2_open_16 ?_
  refine r_aload_n (pc := 19) C 1 dX2_open_19 rfl rfl ?_
  refine r_iconst (pc := 20) (v := 0) C dX2_open_20 rfl ?_
  refine r_aload_n (pc := 21) C 0 dX2_open_21 rfl rfl ?_
  refine r_get9R (pc := 22) (x := r + 2) C f_X2_28 hr.1 (Or.inr rfl) rfl dX2_open_22 ?_
  refine r_iconst (pc := 25) (v := 0) C dX2_open_25 rfl ?_
  refine r_aload_n (pc := 26) C 0 dX2_open_26 rfl rfl ?_
  refine r_get9I (pc := 27) C f_X2_32 hr.1 (Or.inr rfl) dX2_open_27 ?_
  refine r_t (y := nI n) u2_g ?_
  refine r_acopyC (pc := 30) C ka_X2_44 hbf hr.2.2 (by omega) (by omega) (by decide) (by decide) (fun i hi => by rw [Nat.zero_add, u2_r hne, hc i hi]; exact (pk_charN (by have := hc2 i hi; omega)).2) (Nat.le_of_ble_eq_true rfl) dX2_open_30 ?_
  refine r_aload_n (pc := 33) C 0 dX2_open_33 rfl rfl ?_
  refine r_iconst (pc := 34) (v := 0) C dX2_open_34 rfl ?_
  refine r_put9I (pc := 35) C f_X2_9 hr.1 (Or.inl rfl) dX2_open_35 ?_
  exact r_vret (pc := 38) C dX2_open_38 ⟨rfl, rfl, rfl, rfl⟩ (by decide)
