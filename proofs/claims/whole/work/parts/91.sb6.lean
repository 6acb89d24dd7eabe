/-! The builder's public methods; the class's line. -/
section G91
variable {g : GG} {k : KK} {nL : Nat} {cc : ByteArray} {own : String} {rt : Option FieldType} {D mc ms : Nat} {Q : State → Prop} {cells slots pc : Nat} {lo : List (Nat × Value)} {st : List Value} {X : va_W} {T : TT} {I : II}
theorem r_ldcW {is sa : Nat} {tx : String} (C : Cx g k nL cc RX9 rt D mc ms) (hL : (is, tx, sa) ∈ ldcs) (d : decode cc pc = .ok (.ldc_w is, 3)) (kk : Go g k nL Q cells slots (pc + 3) lo (.ref (ga g sa) :: st) X T I) : Go g k nL Q cells slots pc lo st X T I := by
  intro ls H locs h1 h2 h3 T0 hT X0
  obtain ⟨t, a1, b1⟩ := kk ls H locs h1 h2 h3 T0 hT X0
  have hZ := C.Z.2.2.2.2.2.1 _ hL
  exact ⟨t, X0.ldcStringW C.x C.ow (text := tx) (a := ga g sa) hZ.1 hZ.2 (g := F0 (km k) pc ls st) rfl (by rw [C.b]; exact d) t a1, b1⟩
end G91

set_option maxHeartbeats 1000000 in
theorem c_sbC {g : GG} {X : va_W} {T : TT} {I : II} {s y m : Nat} {l : List Nat} (h : SB T I s y m l) {c : Nat} (hc : c < 128) (hl : l.length + 1 ≤ 142) : Mc g yJ4_append_cf468 cJ4_append_cf468 2 (some (.object "java/lang/StringBuilder")) 5 1 142 [.ref s, .int (nI c)] X T I (PSB s X T I (l ++ [c]) (some (.ref s))) := by
  refine Mc.of (by decide) (Nat.le_of_ble_eq_true rfl) (fun k hfl C => ?_)
  refine r_lo (lo' := [(0, _), (1, _)]) rfl ?_
  refine r_aload_n (pc := 0) C 0 dJ4_append_cf468_0 rfl rfl ?_
  refine r_iload_n (pc := 1) C 1 dJ4_append_cf468_1 rfl rfl ?_
  refine r_callP (pc := 2) C hfl kP_50 (c_appC h hc hl) h.1 rfl rfl (Nat.le_of_ble_eq_true rfl) (by decide) (by decide) dJ4_append_cf468_2 (fun r1 X1 T1 I1 e => ?_)
  obtain ⟨e1, e2, y1, m1, h1, hE⟩ := e
  subst r1
  subst X1
  refine r_st (st' := [.ref s]) rfl ?_
  refine r_pop (pc := 5) C dJ4_append_cf468_5 rfl ?_
  refine r_aload_n (pc := 6) C 0 dJ4_append_cf468_6 rfl rfl ?_
  exact r_aret (pc := 7) C (Or.inl ⟨_, rfl⟩) (Or.inr ⟨_, rfl⟩) dJ4_append_cf468_7 ⟨rfl, rfl, y1, m1, h1, hE⟩ (by decide)

set_option maxHeartbeats 1000000 in
theorem c_sbI {g : GG} {X : va_W} {T : TT} {I : II} {s y m : Nat} {l : List Nat} (h : SB T I s y m l) {v : Nat} (hv : v < 2 ^ 31) (hl : l.length + sb_dg v ≤ 142) : Mc g yJ4_append_bf812 cJ4_append_bf812 2 (some (.object "java/lang/StringBuilder")) 5 1 142 [.ref s, .int (nI v)] X T I (PSB s X T I (l ++ dl v) (some (.ref s))) := by
  refine Mc.of (by decide) (Nat.le_of_ble_eq_true rfl) (fun k hfl C => ?_)
  refine r_lo (lo' := [(0, _), (1, _)]) rfl ?_
  refine r_aload_n (pc := 0) C 0 dJ4_append_bf812_0 rfl rfl ?_
  refine r_iload_n (pc := 1) C 1 dJ4_append_bf812_1 rfl rfl ?_
  refine r_callP (pc := 2) C hfl kP_53 (c_appI h hv hl) h.1 rfl rfl (Nat.le_of_ble_eq_true rfl) (by decide) (by decide) dJ4_append_bf812_2 (fun r1 X1 T1 I1 e => ?_)
  obtain ⟨e1, e2, y1, m1, h1, hE⟩ := e
  subst r1
  subst X1
  refine r_st (st' := [.ref s]) rfl ?_
  refine r_pop (pc := 5) C dJ4_append_bf812_5 rfl ?_
  refine r_aload_n (pc := 6) C 0 dJ4_append_bf812_6 rfl rfl ?_
  exact r_aret (pc := 7) C (Or.inl ⟨_, rfl⟩) (Or.inr ⟨_, rfl⟩) dJ4_append_bf812_7 ⟨rfl, rfl, y1, m1, h1, hE⟩ (by decide)

set_option maxHeartbeats 1000000 in
theorem c_sbS {g : GG} {X : va_W} {T : TT} {I : II} {s y m : Nat} {l : List Nat} (h : SB T I s y m l) {i : Nat} (hi : i < 18) (hl : l.length + sln i ≤ 142) : Mc g yJ4_append_15ec4 cJ4_append_15ec4 2 (some (.object "java/lang/StringBuilder")) 5 1 142 [.ref s, .ref (ga g (100 + i))] X T I (PSB s X T I (l ++ sl_ i) (some (.ref s))) := by
  refine Mc.of (by decide) (Nat.le_of_ble_eq_true rfl) (fun k hfl C => ?_)
  refine r_lo (lo' := [(0, _), (1, _)]) rfl ?_
  refine r_aload_n (pc := 0) C 0 dJ4_append_15ec4_0 rfl rfl ?_
  refine r_aload_n (pc := 1) C 1 dJ4_append_15ec4_1 rfl rfl ?_
  refine r_callP (pc := 2) C hfl kP_29 (c_appS h hi hl) h.1 rfl rfl (Nat.le_of_ble_eq_true rfl) (by decide) (by decide) dJ4_append_15ec4_2 (fun r1 X1 T1 I1 e => ?_)
  obtain ⟨e1, e2, y1, m1, h1, hE⟩ := e
  subst r1
  subst X1
  refine r_st (st' := [.ref s]) rfl ?_
  refine r_pop (pc := 5) C dJ4_append_15ec4_5 rfl ?_
  refine r_aload_n (pc := 6) C 0 dJ4_append_15ec4_6 rfl rfl ?_
  exact r_aret (pc := 7) C (Or.inl ⟨_, rfl⟩) (Or.inr ⟨_, rfl⟩) dJ4_append_15ec4_7 ⟨rfl, rfl, y1, m1, h1, hE⟩ (by decide)

set_option maxHeartbeats 1000000 in
theorem c_setLen0 {g : GG} {X : va_W} {T : TT} {I : II} {s y m : Nat} {l : List Nat} (h : SB T I s y m l)  : Mc g yJ5_setLength_d00df cJ5_setLength_d00df 2 none 4 1 142 [.ref s, .int (nI 0)] X T I (PSB s X T I [] none) := by
  have hm := h.mm
  obtain ⟨a1, a2, a3, a4, a5, a6, a7, a8⟩ := id h
  refine Mc.of (by decide) (Nat.le_of_ble_eq_true rfl) (fun k hfl C => ?_)
  refine r_lo (lo' := [(0, _), (1, _)]) rfl ?_
  refine r_iload_n (pc := 0) C 1 dJ5_setLength_d00df_0 rfl rfl ?_
  refine r_ifgeN (pc := 1) (tgt := 13) C dJ5_setLength_d00df_1 rfl (by omega) ?_
  refine r_aload_n (pc := 13) C 0 dJ5_setLength_d00df_13 rfl rfl ?_
  refine r_iload_n (pc := 14) C 1 dJ5_setLength_d00df_14 rfl rfl ?_
  refine r_callU (pc := 15) C hfl kU_J5_100 (c_ensure h (q := 0) (by omega) (by omega)) a1 rfl rfl (Nat.le_of_ble_eq_true rfl) (by decide) (by decide) dJ5_setLength_d00df_15 (fun r1 X1 T1 I1 e => ?_)
  obtain ⟨e1, e2, y1, m1, h1, hq, hE⟩ := e
  subst r1
  subst X1
  obtain ⟨b1, b2, b3, b4, b5, b6, b7, b8⟩ := id h1
  have hne := h1.ne
  refine r_st (st' := []) rfl ?_
  refine r_aload_n (pc := 18) C 0 dJ5_setLength_d00df_18 rfl rfl ?_
  refine r_getBI (pc := 19) C f_J5_79 b1 rfl dJ5_setLength_d00df_19 ?_
  refine r_t (y := nI l.length) b4 ?_
  refine r_iload_n (pc := 22) C 1 dJ5_setLength_d00df_22 rfl rfl ?_
  refine r_cgeN (pc := 23) (tgt := 63) C dJ5_setLength_d00df_23 rfl (by omega) (by omega) (fun _ => ?_) (fun c => False.elim (by omega))
  refine r_aload_n (pc := 63) C 0 dJ5_setLength_d00df_63 rfl rfl ?_
  refine r_getBI (pc := 64) C f_J5_79 b1 rfl dJ5_setLength_d00df_64 ?_
  refine r_t (y := nI l.length) b4 ?_
  refine r_iload_n (pc := 67) C 1 dJ5_setLength_d00df_67 rfl rfl ?_
  refine r_cleN (pc := 68) (tgt := 76) C dJ5_setLength_d00df_68 rfl (by omega) (by omega) (fun c => ?_) (fun c => ?_)
  · refine r_aload_n (pc := 76) C 0 dJ5_setLength_d00df_76 rfl rfl ?_
    refine r_iload_n (pc := 77) C 1 dJ5_setLength_d00df_77 rfl rfl ?_
    refine r_putBI (pc := 78) C f_J5_79 b1 rfl rfl rfl dJ5_setLength_d00df_78 ?_
    exact r_vret (pc := 81) C dJ5_setLength_d00df_81 ⟨rfl, rfl, y1, m1, ⟨b1, b2, (u2_o (by decide)).trans b3, u2_g, by show 0 ≤ m1; omega, b6, fun j hj => absurd hj (Nat.not_lt_zero _), by rw [u2_r (Ne.symm hne)]; exact b8⟩, hE.u (fun q hq1 _ => u2_r hq1)⟩ (by decide)
  · refine r_aload_n (pc := 71) C 0 dJ5_setLength_d00df_71 rfl rfl ?_
    refine r_iconst (pc := 72) (v := 1) C dJ5_setLength_d00df_72 rfl ?_
    refine r_putBI (pc := 73) C f_J5_73 b1 rfl rfl rfl dJ5_setLength_d00df_73 ?_
    refine r_aload_n (pc := 76) C 0 dJ5_setLength_d00df_76 rfl rfl ?_
    refine r_iload_n (pc := 77) C 1 dJ5_setLength_d00df_77 rfl rfl ?_
    refine r_putBI (pc := 78) C f_J5_79 b1 rfl rfl rfl dJ5_setLength_d00df_78 ?_
    exact r_vret (pc := 81) C dJ5_setLength_d00df_81 ⟨rfl, rfl, y1, m1, ⟨b1, b2, (u2_o (by decide)).trans ((u2_o (by decide)).trans b3), u2_g, by show 0 ≤ m1; omega, b6, fun j hj => absurd hj (Nat.not_lt_zero _), by rw [u2_r (Ne.symm hne), u2_r (Ne.symm hne)]; exact b8⟩, hE.u (fun q hq1 _ => (u2_r hq1).trans (u2_r hq1))⟩ (by decide)

set_option maxHeartbeats 1000000 in
theorem c_sbZ {g : GG} {X : va_W} {T : TT} {I : II} {s y m : Nat} {l : List Nat} (h : SB T I s y m l)  : Mc g yJ4_setLength_d00df cJ4_setLength_d00df 2 none 5 1 142 [.ref s, .int (nI 0)] X T I (PSB s X T I [] none) := by
  refine Mc.of (by decide) (Nat.le_of_ble_eq_true rfl) (fun k hfl C => ?_)
  refine r_lo (lo' := [(0, _), (1, _)]) rfl ?_
  refine r_aload_n (pc := 0) C 0 dJ4_setLength_d00df_0 rfl rfl ?_
  refine r_iload_n (pc := 1) C 1 dJ4_setLength_d00df_1 rfl rfl ?_
  refine r_callP (pc := 2) C hfl kP_333 (c_setLen0 h) h.1 rfl rfl (Nat.le_of_ble_eq_true rfl) (by decide) (by decide) dJ4_setLength_d00df_2 (fun r1 X1 T1 I1 e => ?_)
  obtain ⟨e1, e2, y1, m1, h1, hE⟩ := e
  subst r1
  subst X1
  refine r_st (st' := []) rfl ?_
  exact r_vret (pc := 5) C dJ4_setLength_d00df_5 ⟨rfl, rfl, y1, m1, h1, hE⟩ (by decide)

set_option maxHeartbeats 1000000 in
theorem c_sbLen {g : GG} {X : va_W} {T : TT} {I : II} {s y m : Nat} {l : List Nat} (h : SB T I s y m l)  : Mc g yJ5_length_8abf5 cJ5_length_8abf5 1 (some .int) 0 0 0 [.ref s] X T I (Ex (some (.int (nI l.length))) X T I) := by
  refine Mc.of (by decide) (Nat.le_of_ble_eq_true rfl) (fun k hfl C => ?_)
  refine r_lo (lo' := [(0, _)]) rfl ?_
  refine r_aload_n (pc := 0) C 0 dJ5_length_8abf5_0 rfl rfl ?_
  refine r_getBI (pc := 1) C f_J5_79 h.1 rfl dJ5_length_8abf5_1 ?_
  refine r_t (y := nI l.length) h.2.2.2.1 ?_
  exact r_iret (pc := 4) C dJ5_length_8abf5_4 ⟨rfl, rfl, rfl, rfl⟩ (by decide)

set_option maxHeartbeats 1000000 in
theorem c_sbN {g : GG} {X : va_W} {T : TT} {I : II} {s y m : Nat} {l : List Nat} (h : SB T I s y m l)  : Mc g yJ4_length_8abf5 cJ4_length_8abf5 1 (some .int) 4 0 0 [.ref s] X T I (Ex (some (.int (nI l.length))) X T I) := by
  refine Mc.of (by decide) (Nat.le_of_ble_eq_true rfl) (fun k hfl C => ?_)
  refine r_lo (lo' := [(0, _)]) rfl ?_
  refine r_aload_n (pc := 0) C 0 dJ4_length_8abf5_0 rfl rfl ?_
  refine r_callP (pc := 1) C hfl kP_343 (c_sbLen h) h.1 rfl rfl (Nat.le_of_ble_eq_true rfl) (by decide) (by decide) dJ4_length_8abf5_1 (fun r1 X1 T1 I1 e => ?_)
  obtain ⟨e1, e2, e3, e4⟩ := e
  subst r1
  subst X1
  subst T1
  subst I1
  refine r_st (st' := [.int (nI l.length)]) rfl ?_
  exact r_iret (pc := 4) C dJ4_length_8abf5_4 ⟨rfl, rfl, rfl, rfl⟩ (by decide)

set_option maxHeartbeats 1000000 in
theorem c_sbAt {g : GG} {X : va_W} {T : TT} {I : II} {s y m : Nat} {l : List Nat} (h : SB T I s y m l) {i : Nat} (hi : i < l.length) : Mc g yJ5_charAt_5068e cJ5_charAt_5068e 5 (some .char) 3 0 0 [.ref s, .int (nI i)] X T I (Ex (some (.int (nI (tx l i)))) X T I) := by
  have hm := h.mm
  obtain ⟨a1, a2, a3, a4, a5, a6, a7, a8⟩ := id h
  obtain ⟨t1, t2⟩ := a7 i hi
  obtain ⟨t3, t4, -⟩ := sb_byte _ t1
  refine Mc.of (by decide) (Nat.le_of_ble_eq_true rfl) (fun k hfl C => ?_)
  refine r_lo (lo' := [(0, _), (1, _)]) rfl ?_
  refine r_aload_n (pc := 0) C 0 dJ5_charAt_5068e_0 rfl rfl ?_
  refine r_getBI (pc := 1) C f_J5_22 a1 rfl dJ5_charAt_5068e_1 ?_
  refine r_t (y := 0) a3 ?_
  refine r_istore_n (pc := 4) (lo' := [(2, _), (0, _), (1, _)]) C dJ5_charAt_5068e_4 rfl (by decide) rfl ?_
  refine r_aload_n (pc := 5) C 1 dJ5_charAt_5068e_5 rfl rfl ?_
  refine r_getB (pc := 6) (v := .ref y) C f_J5_15 a1 rfl rfl dJ5_charAt_5068e_6 ?_
  refine r_astore_n (pc := 9) (lo' := [(3, _), (2, _), (0, _), (1, _)]) C dJ5_charAt_5068e_9 rfl (by decide) rfl ?_
  refine r_aload_n (pc := 10) C 2 dJ5_charAt_5068e_10 rfl rfl ?_
  refine r_getBI (pc := 11) C f_J5_79 a1 rfl dJ5_charAt_5068e_11 ?_
  refine r_t (y := nI l.length) a4 ?_
  refine r_aload_n (pc := 14) C 0 dJ5_charAt_5068e_14 rfl rfl ?_
  refine r_alen (pc := 15) C a2 (Or.inr (Or.inr rfl)) dJ5_charAt_5068e_15 ?_
  refine r_iload_n (pc := 16) C 1 dJ5_charAt_5068e_16 rfl rfl ?_
  refine r_ishr (pc := 17) C dJ5_charAt_5068e_17 ?_
  refine r_t (y := nI m) (sb_shr0 _) ?_
  refine r_min (pc := 18) C k_J5_138 (Nat.le_of_ble_eq_true rfl) (by decide) dJ5_charAt_5068e_18 ?_
  refine r_t (y := nI l.length) (mn_lt a5 (by omega)) ?_
  refine r_istore (pc := 21) (lo' := [(4, _), (3, _), (2, _), (0, _), (1, _)]) C dJ5_charAt_5068e_21 (by decide) rfl ?_
  refine r_iload_n (pc := 23) C 4 dJ5_charAt_5068e_23 rfl rfl ?_
  refine r_iload (pc := 24) C 0 dJ5_charAt_5068e_24 rfl ?_
  refine r_cSv (pc := 26) C hfl k_J5_144 (c_sChk hi (by omega)) rfl rfl (Nat.le_of_ble_eq_true rfl) (by decide) (by decide) dJ5_charAt_5068e_26 ?_
  refine r_iload_n (pc := 29) C 2 dJ5_charAt_5068e_29 rfl rfl ?_
  refine r_ifne (pc := 30) (tgt := 42) C dJ5_charAt_5068e_30 rfl (fun c => absurd rfl c) (fun _ => ?_)
  refine r_aload_n (pc := 33) C 1 dJ5_charAt_5068e_33 rfl rfl ?_
  refine r_iload_n (pc := 34) C 4 dJ5_charAt_5068e_34 rfl rfl ?_
  refine r_bald (pc := 35) (x := i) C a2 rfl (by omega) (by omega) dJ5_charAt_5068e_35 ?_
  refine r_sipush (pc := 36) (v := 255) C dJ5_charAt_5068e_36 rfl ?_
  refine r_iand (pc := 39) C dJ5_charAt_5068e_39 ?_
  refine r_t (y := nI (tx l i)) (by rw [t2]; exact t3) ?_
  refine r_i2c (pc := 40) C dJ5_charAt_5068e_40 t4 ?_
  exact r_zret (pc := 41) C (pk_charN (by omega)).1 dJ5_charAt_5068e_41 ⟨rfl, rfl, rfl, rfl⟩ (by decide)

set_option maxHeartbeats 1000000 in
theorem c_sbA {g : GG} {X : va_W} {T : TT} {I : II} {s y m : Nat} {l : List Nat} (h : SB T I s y m l) {i : Nat} (hi : i < l.length) : Mc g yJ4_charAt_5068e cJ4_charAt_5068e 2 (some .char) 4 0 0 [.ref s, .int (nI i)] X T I (Ex (some (.int (nI (tx l i)))) X T I) := by
  refine Mc.of (by decide) (Nat.le_of_ble_eq_true rfl) (fun k hfl C => ?_)
  refine r_lo (lo' := [(0, _), (1, _)]) rfl ?_
  refine r_aload_n (pc := 0) C 0 dJ4_charAt_5068e_0 rfl rfl ?_
  refine r_iload_n (pc := 1) C 1 dJ4_charAt_5068e_1 rfl rfl ?_
  refine r_callP (pc := 2) C hfl kP_329 (c_sbAt h hi) h.1 rfl rfl (Nat.le_of_ble_eq_true rfl) (by decide) (by decide) dJ4_charAt_5068e_2 (fun r1 X1 T1 I1 e => ?_)
  obtain ⟨e1, e2, e3, e4⟩ := e
  subst r1
  subst X1
  subst T1
  subst I1
  refine r_st (st' := [.int (nI (tx l i))]) rfl ?_
  exact r_zret (pc := 5) C (pk_charN (by have := (h.2.2.2.2.2.2.1 i hi).1; omega)).1 dJ4_charAt_5068e_5 ⟨rfl, rfl, rfl, rfl⟩ (by decide)
