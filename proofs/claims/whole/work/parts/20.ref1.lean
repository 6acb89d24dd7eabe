set_option maxHeartbeats 1000000 in
theorem c_isBetween {g : GG} {X : va_W} {T : TT} {I : II} (v lo hi : Int32) : Mc g yX10_isBetween cX10_isBetween 3 (some .boolean) 1 0 0 [.int v, .int lo, .int hi] X T I (Ex (some (.int (bI (lo ≤ v ∧ v ≤ hi)))) X T I) := by
  refine Mc.of (by decide) (Nat.le_of_ble_eq_true rfl) (fun k hfl C => ?_)
  refine r_lo (lo' := [(0, _), (1, _), (2, _)]) rfl ?_
  refine r_iload_n (pc := 0) C 1 dX10_isBetween_0 rfl rfl ?_
  refine r_iload_n (pc := 1) C 0 dX10_isBetween_1 rfl rfl ?_
  refine r_cgt (pc := 2) (tgt := 14) C dX10_isBetween_2 rfl (fun c_2 => ?_) (fun c_2 => ?_)
  · skip
    refine r_iconst (pc := 14) (v := 0) C dX10_isBetween_14 rfl ?_
    exact r_zret (pc := 15) C rfl dX10_isBetween_15 ⟨congrArg (fun z => some (Value.int z)) (bI_f (fun z => absurd z.1 (Int32.not_le.mpr c_2))).symm, rfl, rfl, rfl⟩ (by decide)
  · skip
    refine r_iload_n (pc := 5) C 0 dX10_isBetween_5 rfl rfl ?_
    refine r_iload_n (pc := 6) C 2 dX10_isBetween_6 rfl rfl ?_
    refine r_cgt (pc := 7) (tgt := 14) C dX10_isBetween_7 rfl (fun c_7 => ?_) (fun c_7 => ?_)
    · skip
      refine r_iconst (pc := 14) (v := 0) C dX10_isBetween_14 rfl ?_
      exact r_zret (pc := 15) C rfl dX10_isBetween_15 ⟨congrArg (fun z => some (Value.int z)) (bI_f (fun z => absurd z.2 (Int32.not_le.mpr c_7))).symm, rfl, rfl, rfl⟩ (by decide)
    · skip
      refine r_iconst (pc := 10) (v := 1) C dX10_isBetween_10 rfl ?_
      refine r_goto (pc := 11) (tgt := 15) C dX10_isBetween_11 rfl ?_
      exact r_zret (pc := 15) C rfl dX10_isBetween_15 ⟨congrArg (fun z => some (Value.int z)) (bI_t ⟨Int32.not_lt.mp c_2, Int32.not_lt.mp c_7⟩).symm, rfl, rfl, rfl⟩ (by decide)

set_option maxHeartbeats 1000000 in
theorem c_isKind {g : GG} {X : va_W} {T : TT} {I : II} (v : Int32) : Mc g yX10_isKind cX10_isKind 1 (some .boolean) 2 0 0 [.int v] X T I (Ex (some (.int (bI (nI 0 ≤ v ∧ v ≤ nI 3)))) X T I) := by
  refine Mc.of (by decide) (Nat.le_of_ble_eq_true rfl) (fun k hfl C => ?_)
  refine r_lo (lo' := [(0, _)]) rfl ?_
  refine r_iload_n (pc := 0) C 0 dX10_isKind_0 rfl rfl ?_
  refine r_iconst (pc := 1) (v := 0) C dX10_isKind_1 rfl ?_
  refine r_iconst (pc := 2) (v := 3) C dX10_isKind_2 rfl ?_
  refine r_cSi (pc := 3) C hfl k_X10_54 (c_isBetween _ _ _) rfl rfl (Nat.le_of_ble_eq_true rfl) (by decide) (by decide) dX10_isKind_3 ?_
  exact r_zret (pc := 6) C bI_n dX10_isKind_6 ⟨rfl, rfl, rfl, rfl⟩ (by decide)

set_option maxHeartbeats 1000000 in
theorem c_of {g : GG} {X : va_W} {T : TT} {I : II} {M : Nat} {w : Nat → Int32} (hm : isMd T M) {b j : Nat} (hb : b < 16) (hj : j < 10) : Mc g yX10_of cX10_of 3 (some .int) 1 0 0 [.ref M, .int (nI b), .int (nI j)] X T (sr I (M + 1) w) (Ex (some (.int (w (22 + 6 * b + j)))) X T (sr I (M + 1) w)) := by
  refine Mc.of (by decide) (Nat.le_of_ble_eq_true rfl) (fun k hfl C => ?_)
  refine r_lo (lo' := [(0, _), (1, _), (2, _)]) rfl ?_
  refine r_aload_n (pc := 0) C 0 dX10_of_0 rfl rfl ?_
  refine r_getR (pc := 1) (x := M + 1) C f_X10_13 hm.1 rfl rfl dX10_of_1 ?_
  refine r_bipush (pc := 4) (v := 22) C dX10_of_4 rfl ?_
  refine r_bipush (pc := 6) (v := 6) C dX10_of_6 rfl ?_
  refine r_iload_n (pc := 8) C 1 dX10_of_8 rfl rfl ?_
  refine r_imulN (pc := 9) C dX10_of_9 ?_
  refine r_iaddN (pc := 10) C dX10_of_10 ?_
  refine r_iload_n (pc := 11) C 2 dX10_of_11 rfl rfl ?_
  refine r_iaddN (pc := 12) C dX10_of_12 ?_
  refine r_wld (pc := 13) (x := (22 + (6 * b)) + j) C hm.2.1 rfl (by omega) (by decide) dX10_of_13 ?_
  exact r_iret (pc := 14) C dX10_of_14 ⟨rfl, rfl, rfl, rfl⟩ (by decide)

set_option maxHeartbeats 1000000 in
theorem c_is {g : GG} {X : va_W} {T : TT} {I : II} {M : Nat} {w : Nat → Int32} (hm : isMd T M) {b j : Nat} (hb : b < 15) (hj : j < 10) : Mc g yX10_is cX10_is 3 (some .int) 1 0 0 [.ref M, .int (nI b), .int (nI j)] X T (sr I (M + 1) w) (Ex (some (.int (w (58 + 10 * b + j)))) X T (sr I (M + 1) w)) := by
  refine Mc.of (by decide) (Nat.le_of_ble_eq_true rfl) (fun k hfl C => ?_)
  refine r_lo (lo' := [(0, _), (1, _), (2, _)]) rfl ?_
  refine r_aload_n (pc := 0) C 0 dX10_is_0 rfl rfl ?_
  refine r_getR (pc := 1) (x := M + 1) C f_X10_13 hm.1 rfl rfl dX10_is_1 ?_
  refine r_bipush (pc := 4) (v := 58) C dX10_is_4 rfl ?_
  refine r_bipush (pc := 6) (v := 10) C dX10_is_6 rfl ?_
  refine r_iload_n (pc := 8) C 1 dX10_is_8 rfl rfl ?_
  refine r_imulN (pc := 9) C dX10_is_9 ?_
  refine r_iaddN (pc := 10) C dX10_is_10 ?_
  refine r_iload_n (pc := 11) C 2 dX10_is_11 rfl rfl ?_
  refine r_iaddN (pc := 12) C dX10_is_12 ?_
  refine r_wld (pc := 13) (x := (58 + (10 * b)) + j) C hm.2.1 rfl (by omega) (by decide) dX10_is_13 ?_
  exact r_iret (pc := 14) C dX10_is_14 ⟨rfl, rfl, rfl, rfl⟩ (by decide)

set_option maxHeartbeats 1000000 in
theorem c_adds {g : GG} {X : va_W} {T : TT} {I : II} {M : Nat} {w : Nat → Int32} (hm : isMd T M) {b j : Nat} {v : Int32} (hb : b < 16) (hj : j < 10) : Mc g yX10_adds cX10_adds 4 none 1 0 0 [.ref M, .int (nI b), .int (nI j), .int v] X T (sr I (M + 1) w) (Ex none X T (sr I (M + 1) (upd w (22 + 6 * b + j) (w (22 + 6 * b + j) + v)))) := by
  refine Mc.of (by decide) (Nat.le_of_ble_eq_true rfl) (fun k hfl C => ?_)
  refine r_lo (lo' := [(0, _), (1, _), (2, _), (3, _)]) rfl ?_
  refine r_aload_n (pc := 0) C 0 dX10_adds_0 rfl rfl ?_
  refine r_getR (pc := 1) (x := M + 1) C f_X10_13 hm.1 rfl rfl dX10_adds_1 ?_
  refine r_bipush (pc := 4) (v := 22) C dX10_adds_4 rfl ?_
  refine r_bipush (pc := 6) (v := 6) C dX10_adds_6 rfl ?_
  refine r_iload_n (pc := 8) C 1 dX10_adds_8 rfl rfl ?_
  refine r_imulN (pc := 9) C dX10_adds_9 ?_
  refine r_iaddN (pc := 10) C dX10_adds_10 ?_
  refine r_iload_n (pc := 11) C 2 dX10_adds_11 rfl rfl ?_
  refine r_iaddN (pc := 12) C dX10_adds_12 ?_
  refine r_dup2 (pc := 13) C dX10_adds_13 rfl rfl ?_
  refine r_wld (pc := 14) (x := (22 + (6 * b)) + j) C hm.2.1 rfl (by omega) (by decide) dX10_adds_14 ?_
  refine r_iload_n (pc := 15) C 3 dX10_adds_15 rfl rfl ?_
  refine r_iadd (pc := 16) C dX10_adds_16 ?_
  refine r_wst (pc := 17) (x := (22 + (6 * b)) + j) C hm.2.1 rfl (by omega) (by decide) dX10_adds_17 ?_
  exact r_vret (pc := 18) C dX10_adds_18 ⟨rfl, rfl, rfl, rfl⟩ (by decide)

set_option maxHeartbeats 1000000 in
theorem c_puts {g : GG} {X : va_W} {T : TT} {I : II} {M : Nat} {w : Nat → Int32} (hm : isMd T M) {b j : Nat} {v : Int32} (hb : b < 15) (hj : j < 10) : Mc g yX10_puts cX10_puts 4 none 1 0 0 [.ref M, .int (nI b), .int (nI j), .int v] X T (sr I (M + 1) w) (Ex none X T (sr I (M + 1) (upd w (58 + 10 * b + j) v))) := by
  refine Mc.of (by decide) (Nat.le_of_ble_eq_true rfl) (fun k hfl C => ?_)
  refine r_lo (lo' := [(0, _), (1, _), (2, _), (3, _)]) rfl ?_
  refine r_aload_n (pc := 0) C 0 dX10_puts_0 rfl rfl ?_
  refine r_getR (pc := 1) (x := M + 1) C f_X10_13 hm.1 rfl rfl dX10_puts_1 ?_
  refine r_bipush (pc := 4) (v := 58) C dX10_puts_4 rfl ?_
  refine r_bipush (pc := 6) (v := 10) C dX10_puts_6 rfl ?_
  refine r_iload_n (pc := 8) C 1 dX10_puts_8 rfl rfl ?_
  refine r_imulN (pc := 9) C dX10_puts_9 ?_
  refine r_iaddN (pc := 10) C dX10_puts_10 ?_
  refine r_iload_n (pc := 11) C 2 dX10_puts_11 rfl rfl ?_
  refine r_iaddN (pc := 12) C dX10_puts_12 ?_
  refine r_iload_n (pc := 13) C 3 dX10_puts_13 rfl rfl ?_
  refine r_wst (pc := 14) (x := (58 + (10 * b)) + j) C hm.2.1 rfl (by omega) (by decide) dX10_puts_14 ?_
  exact r_vret (pc := 15) C dX10_puts_15 ⟨rfl, rfl, rfl, rfl⟩ (by decide)

set_option maxHeartbeats 1000000 in
theorem c_fails {g : GG} {X : va_W} {T : TT} {I : II} {M : Nat} {w : Nat → Int32} (hm : isMd T M) {c : Int32} : Mc g yX10_fails cX10_fails 2 (some .int) 1 0 0 [.ref M, .int c] X T (sr I (M + 1) w) (Ex (some (.int (nI 0))) X T (sr (u2 I M 0 c) (M + 1) w)) := by
  refine Mc.of (by decide) (Nat.le_of_ble_eq_true rfl) (fun k hfl C => ?_)
  refine r_lo (lo' := [(0, _), (1, _)]) rfl ?_
  refine r_aload_n (pc := 0) C 0 dX10_fails_0 rfl rfl ?_
  refine r_iload_n (pc := 1) C 1 dX10_fails_1 rfl rfl ?_
  refine r_wput (pc := 2) (by omega) C f_X10_1 hm.1 rfl rfl rfl dX10_fails_2 ?_
  refine r_iconst (pc := 5) (v := 0) C dX10_fails_5 rfl ?_
  exact r_iret (pc := 6) C dX10_fails_6 ⟨rfl, rfl, rfl, rfl⟩ (by decide)

set_option maxHeartbeats 1000000 in
theorem c_thrown {g : GG} {X : va_W} {T : TT} {I : II} {M : Nat} {w : Nat → Int32} (hm : isMd T M)  : Mc g yX10_thrown cX10_thrown 1 (some .int) 1 0 0 [.ref M] X T (sr I (M + 1) w) (Ex (some (.int (I M 0))) X T (sr I (M + 1) w)) := by
  refine Mc.of (by decide) (Nat.le_of_ble_eq_true rfl) (fun k hfl C => ?_)
  refine r_lo (lo' := [(0, _)]) rfl ?_
  refine r_aload_n (pc := 0) C 0 dX10_thrown_0 rfl rfl ?_
  refine r_wget (pc := 1) (by omega) C f_X10_1 hm.1 rfl dX10_thrown_1 ?_
  exact r_iret (pc := 4) C dX10_thrown_4 ⟨rfl, rfl, rfl, rfl⟩ (by decide)

set_option maxHeartbeats 1000000 in
theorem c_debtAt {g : GG} {X : va_W} {T : TT} {I : II} {M : Nat} {w : Nat → Int32} (hm : isMd T M) {s : Nat} (hs : s < 15) : Mc g yX10_debtAt cX10_debtAt 2 (some .int) 2 0 0 [.ref M, .int (nI s)] X T (sr I (M + 1) w) (Ex (some (.int (debtV w s))) X T (sr I (M + 1) w)) := by
  refine Mc.of (by decide) (Nat.le_of_ble_eq_true rfl) (fun k hfl C => ?_)
  refine r_lo (lo' := [(0, _), (1, _)]) rfl ?_
  refine r_aload_n (pc := 0) C 0 dX10_debtAt_0 rfl rfl ?_
  refine r_iload_n (pc := 1) C 1 dX10_debtAt_1 rfl rfl ?_
  refine r_iconst (pc := 2) (v := 2) C dX10_debtAt_2 rfl ?_
  refine r_cVi (pc := 3) C hfl k_X10_58 (c_is hm (by omega) (by omega)) hm.1 ca_X10 rfl rfl (Nat.le_of_ble_eq_true rfl) (by decide) (by decide) dX10_debtAt_3 ?_
  refine r_aload_n (pc := 6) C 0 dX10_debtAt_6 rfl rfl ?_
  refine r_iload_n (pc := 7) C 1 dX10_debtAt_7 rfl rfl ?_
  refine r_iconst (pc := 8) (v := 3) C dX10_debtAt_8 rfl ?_
  refine r_cVi (pc := 9) C hfl k_X10_58 (c_is hm (by omega) (by omega)) hm.1 ca_X10 rfl rfl (Nat.le_of_ble_eq_true rfl) (by decide) (by decide) dX10_debtAt_9 ?_
  refine r_iadd (pc := 12) C dX10_debtAt_12 ?_
  exact r_iret (pc := 13) C dX10_debtAt_13 ⟨by rw [debtV, show 60 + 10 * s = 58 + 10 * s + 2 by omega, show 61 + 10 * s = 58 + 10 * s + 3 by omega], rfl, rfl, rfl⟩ (by decide)
