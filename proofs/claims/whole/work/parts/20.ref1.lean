set_option maxHeartbeats 1000000 in
theorem c_isBetween {g : GG} {X : va_W} {T : TT} {I : II} (v lo hi : Int32) : Mc g yX10_isBetween cX10_isBetween 3 (some .boolean) 1 0 0 [.int v, .int lo, .int hi] X T I (Ex (some (.int (bI (lo ≤ v ∧ v ≤ hi)))) X T I) := by
  refine Mc.of (by decide) (Nat.le_of_ble_eq_true rfl) (fun k hfl C => ?_)
  refine r_lo (lo' := [(0, _), (1, _), (2, _)]) rfl ?_
  refine r_iload_n (pc := 0) C 1 dX10_isBetween_0 rfl rfl ?_
  refine r_iload_n (pc := 1) C 0 dX10_isBetween_1 rfl rfl ?_
  refine r_cgt (pc := 2) (tgt := 14) C dX10_isBetween_2 rfl (fun c_2 => ?_) (fun c_2 => ?_)
  · skip
    refine r_iconst (pc := 14) (v := 0) C dX10_isBetween_14 rfl ?_
    exact r_zret (pc := 15) C rfl dX10_isBetween_15 ⟨congrArg (fun z => some (Value.int z)) (bI_f (fun z => absurd z.1 (Int32.not_le.mpr c_2))).symm, rfl, rfl, rfl⟩ (by decide)
  · skip
    refine r_iload_n (pc := 5) C 0 dX10_isBetween_5 rfl rfl ?_
    refine r_iload_n (pc := 6) C 2 dX10_isBetween_6 rfl rfl ?_
    refine r_cgt (pc := 7) (tgt := 14) C dX10_isBetween_7 rfl (fun c_7 => ?_) (fun c_7 => ?_)
    · skip
      refine r_iconst (pc := 14) (v := 0) C dX10_isBetween_14 rfl ?_
      exact r_zret (pc := 15) C rfl dX10_isBetween_15 ⟨congrArg (fun z => some (Value.int z)) (bI_f (fun z => absurd z.2 (Int32.not_le.mpr c_7))).symm, rfl, rfl, rfl⟩ (by decide)
    · skip
      refine r_iconst (pc := 10) (v := 1) C dX10_isBetween_10 rfl ?_
      refine r_goto (pc := 11) (tgt := 15) C dX10_isBetween_11 rfl ?_
      exact r_zret (pc := 15) C rfl dX10_isBetween_15 ⟨congrArg (fun z => some (Value.int z)) (bI_t ⟨Int32.not_lt.mp c_2, Int32.not_lt.mp c_7⟩).symm, rfl, rfl, rfl⟩ (by decide)

set_option maxHeartbeats 1000000 in
theorem c_isKind {g : GG} {X : va_W} {T : TT} {I : II} (v : Int32) : Mc g yX10_isKind cX10_isKind 1 (some .boolean) 2 0 0 [.int v] X T I (Ex (some (.int (bI (nI 0 ≤ v ∧ v ≤ nI 3)))) X T I) := by
  refine Mc.of (by decide) (Nat.le_of_ble_eq_true rfl) (fun k hfl C => ?_)
  refine r_lo (lo' := [(0, _)]) rfl ?_
  refine r_iload_n (pc := 0) C 0 dX10_isKind_0 rfl rfl ?_
  refine r_iconst (pc := 1) (v := 0) C dX10_isKind_1 rfl ?_
  refine r_iconst (pc := 2) (v := 3) C dX10_isKind_2 rfl ?_
  refine r_cSi (pc := 3) C hfl k_X10_54 (c_isBetween _ _ _) rfl rfl (Nat.le_of_ble_eq_true rfl) (by decide) (by decide) dX10_isKind_3 ?_
  exact r_zret (pc := 6) C bI_n dX10_isKind_6 ⟨rfl, rfl, rfl, rfl⟩ (by decide)

set_option maxHeartbeats 1000000 in
theorem c_of {g : GG} {X : va_W} {T : TT} {I : II} {M : Nat} {w : Nat → Int32} (hm : isMd T M) {b j : Nat} (hb : b < 16) (hj : j < 10) : Mc g yX10_of cX10_of 3 (some .int) 1 0 0 [.ref M, .int (nI b), .int (nI j)] X T (sr I (M + 1) w) (Ex (some (.int (w (22 + 6 * b + j)))) X T (sr I (M + 1) w)) := by
  refine Mc.of (by decide) (Nat.le_of_ble_eq_true rfl) (fun k hfl C => ?_)
  refine r_lo (lo' := [(0, _), (1, _), (2, _)]) rfl ?_
  refine r_aload_n (pc := 0) C 0 dX10_of_0 rfl rfl ?_
  refine r_getR (pc := 1) (x := M + 1) C f_X10_13 hm.1 rfl rfl dX10_of_1 ?_
  refine r_bipush (pc := 4) (v := 22) C dX10_of_4 rfl ?_
  refine r_bipush (pc := 6) (v := 6) C dX10_of_6 rfl ?_
  refine r_iload_n (pc := 8) C 1 dX10_of_8 rfl rfl ?_
  refine r_imulN (pc := 9) C dX10_of_9 ?_
  refine r_iaddN (pc := 10) C dX10_of_10 ?_
  refine r_iload_n (pc := 11) C 2 dX10_of_11 rfl rfl ?_
  refine r_iaddN (pc := 12) C dX10_of_12 ?_
  refine r_wld (pc := 13) (x := (22 + (6 * b)) + j) C hm.2.1 rfl (by omega) (by decide) dX10_of_13 ?_
  exact r_iret (pc := 14) C dX10_of_14 ⟨rfl, rfl, rfl, rfl⟩ (by decide)

set_option maxHeartbeats 1000000 in
theorem c_is {g : GG} {X : va_W} {T : TT} {I : II} {M : Nat} {w : Nat → Int32} (hm : isMd T M) {b j : Nat} (hb : b < 15) (hj : j < 10) : Mc g yX10_is cX10_is 3 (some .int) 1 0 0 [.ref M, .int (nI b), .int (nI j)] X T (sr I (M + 1) w) (Ex (some (.int (w (58 + 10 * b + j)))) X T (sr I (M + 1) w)) := by
  refine Mc.of (by decide) (Nat.le_of_ble_eq_true rfl) (fun k hfl C => ?_)
  refine r_lo (lo' := [(0, _), (1, _), (2, _)]) rfl ?_
  refine r_aload_n (pc := 0) C 0 dX10_is_0 rfl rfl ?_
  refine r_getR (pc := 1) (x := M + 1) C f_X10_13 hm.1 rfl rfl dX10_is_1 ?_
  refine r_bipush (pc := 4) (v := 58) C dX10_is_4 rfl ?_
  refine r_bipush (pc := 6) (v := 10) C dX10_is_6 rfl ?_
  refine r_iload_n (pc := 8) C 1 dX10_is_8 rfl rfl ?_
  refine r_imulN (pc := 9) C dX10_is_9 ?_
  refine r_iaddN (pc := 10) C dX10_is_10 ?_
  refine r_iload_n (pc := 11) C 2 dX10_is_11 rfl rfl ?_
  refine r_iaddN (pc := 12) C dX10_is_12 ?_
  refine r_wld (pc := 13) (x := (58 + (10 * b)) + j) C hm.2.1 rfl (by omega) (by decide) dX10_is_13 ?_
  exact r_iret (pc := 14) C dX10_is_14 ⟨rfl, rfl, rfl, rfl⟩ (by decide)

set_option maxHeartbeats 1000000 in
theorem c_adds {g : GG} {X : va_W} {T : TT} {I : II} {M : Nat} {w : Nat → Int32} (hm : isMd T M) {b j : Nat} {v : Int32} (hb : b < 16) (hj : j < 10) : Mc g yX10_adds cX10_adds 4 none 1 0 0 [.ref M, .int (nI b), .int (nI j), .int v] X T (sr I (M + 1) w) (Ex none X T (sr I (M + 1) (ad w (22 + 6 * b + j) v))) := by
  refine Mc.of (by decide) (Nat.le_of_ble_eq_true rfl) (fun k hfl C => ?_)
  refine r_lo (lo' := [(0, _), (1, _), (2, _), (3, _)]) rfl ?_
  refine r_aload_n (pc := 0) C 0 dX10_adds_0 rfl rfl ?_
  refine r_getR (pc := 1) (x := M + 1) C f_X10_13 hm.1 rfl rfl dX10_adds_1 ?_
  refine r_bipush (pc := 4) (v := 22) C dX10_adds_4 rfl ?_
  refine r_bipush (pc := 6) (v := 6) C dX10_adds_6 rfl ?_
  refine r_iload_n (pc := 8) C 1 dX10_adds_8 rfl rfl ?_
  refine r_imulN (pc := 9) C dX10_adds_9 ?_
  refine r_iaddN (pc := 10) C dX10_adds_10 ?_
  refine r_iload_n (pc := 11) C 2 dX10_adds_11 rfl rfl ?_
  refine r_iaddN (pc := 12) C dX10_adds_12 ?_
  refine r_dup2 (pc := 13) C dX10_adds_13 rfl rfl ?_
  refine r_wld (pc := 14) (x := (22 + (6 * b)) + j) C hm.2.1 rfl (by omega) (by decide) dX10_adds_14 ?_
  refine r_iload_n (pc := 15) C 3 dX10_adds_15 rfl rfl ?_
  refine r_iadd (pc := 16) C dX10_adds_16 ?_
  refine r_wst (pc := 17) (x := (22 + (6 * b)) + j) C hm.2.1 rfl (by omega) (by decide) dX10_adds_17 ?_
  exact r_vret (pc := 18) C dX10_adds_18 ⟨rfl, rfl, rfl, rfl⟩ (by decide)

set_option maxHeartbeats 1000000 in
theorem c_puts {g : GG} {X : va_W} {T : TT} {I : II} {M : Nat} {w : Nat → Int32} (hm : isMd T M) {b j : Nat} {v : Int32} (hb : b < 15) (hj : j < 10) : Mc g yX10_puts cX10_puts 4 none 1 0 0 [.ref M, .int (nI b), .int (nI j), .int v] X T (sr I (M + 1) w) (Ex none X T (sr I (M + 1) (upd w (58 + 10 * b + j) v))) := by
  refine Mc.of (by decide) (Nat.le_of_ble_eq_true rfl) (fun k hfl C => ?_)
  refine r_lo (lo' := [(0, _), (1, _), (2, _), (3, _)]) rfl ?_
  refine r_aload_n (pc := 0) C 0 dX10_puts_0 rfl rfl ?_
  refine r_getR (pc := 1) (x := M + 1) C f_X10_13 hm.1 rfl rfl dX10_puts_1 ?_
  refine r_bipush (pc := 4) (v := 58) C dX10_puts_4 rfl ?_
  refine r_bipush (pc := 6) (v := 10) C dX10_puts_6 rfl ?_
  refine r_iload_n (pc := 8) C 1 dX10_puts_8 rfl rfl ?_
  refine r_imulN (pc := 9) C dX10_puts_9 ?_
  refine r_iaddN (pc := 10) C dX10_puts_10 ?_
  refine r_iload_n (pc := 11) C 2 dX10_puts_11 rfl rfl ?_
  refine r_iaddN (pc := 12) C dX10_puts_12 ?_
  refine r_iload_n (pc := 13) C 3 dX10_puts_13 rfl rfl ?_
  refine r_wst (pc := 14) (x := (58 + (10 * b)) + j) C hm.2.1 rfl (by omega) (by decide) dX10_puts_14 ?_
  exact r_vret (pc := 15) C dX10_puts_15 ⟨rfl, rfl, rfl, rfl⟩ (by decide)

set_option maxHeartbeats 1000000 in
theorem c_fails {g : GG} {X : va_W} {T : TT} {I : II} {M : Nat} {w : Nat → Int32} (hm : isMd T M) {c : Int32} : Mc g yX10_fails cX10_fails 2 (some .int) 1 0 0 [.ref M, .int c] X T (sr I (M + 1) w) (Ex (some (.int (nI 0))) X T (sr (u2 I M 0 c) (M + 1) w)) := by
  refine Mc.of (by decide) (Nat.le_of_ble_eq_true rfl) (fun k hfl C => ?_)
  refine r_lo (lo' := [(0, _), (1, _)]) rfl ?_
  refine r_aload_n (pc := 0) C 0 dX10_fails_0 rfl rfl ?_
  refine r_iload_n (pc := 1) C 1 dX10_fails_1 rfl rfl ?_
  refine r_wput (pc := 2) (by omega) C f_X10_1 hm.1 rfl rfl rfl dX10_fails_2 ?_
  refine r_iconst (pc := 5) (v := 0) C dX10_fails_5 rfl ?_
  exact r_iret (pc := 6) C dX10_fails_6 ⟨rfl, rfl, rfl, rfl⟩ (by decide)

set_option maxHeartbeats 1000000 in
theorem c_thrown {g : GG} {X : va_W} {T : TT} {I : II} {M : Nat} {w : Nat → Int32} (hm : isMd T M)  : Mc g yX10_thrown cX10_thrown 1 (some .int) 1 0 0 [.ref M] X T (sr I (M + 1) w) (Ex (some (.int (I M 0))) X T (sr I (M + 1) w)) := by
  refine Mc.of (by decide) (Nat.le_of_ble_eq_true rfl) (fun k hfl C => ?_)
  refine r_lo (lo' := [(0, _)]) rfl ?_
  refine r_aload_n (pc := 0) C 0 dX10_thrown_0 rfl rfl ?_
  refine r_wget (pc := 1) (by omega) C f_X10_1 hm.1 rfl dX10_thrown_1 ?_
  exact r_iret (pc := 4) C dX10_thrown_4 ⟨rfl, rfl, rfl, rfl⟩ (by decide)

set_option maxHeartbeats 1000000 in
theorem c_debtAt {g : GG} {X : va_W} {T : TT} {I : II} {M : Nat} {w : Nat → Int32} (hm : isMd T M) {s : Nat} (hs : s < 15) : Mc g yX10_debtAt cX10_debtAt 2 (some .int) 2 0 0 [.ref M, .int (nI s)] X T (sr I (M + 1) w) (Ex (some (.int (debtV w s))) X T (sr I (M + 1) w)) := by
  refine Mc.of (by decide) (Nat.le_of_ble_eq_true rfl) (fun k hfl C => ?_)
  refine r_lo (lo' := [(0, _), (1, _)]) rfl ?_
  refine r_aload_n (pc := 0) C 0 dX10_debtAt_0 rfl rfl ?_
  refine r_iload_n (pc := 1) C 1 dX10_debtAt_1 rfl rfl ?_
  refine r_iconst (pc := 2) (v := 2) C dX10_debtAt_2 rfl ?_
  refine r_cVi (pc := 3) C hfl k_X10_58 (c_is hm (by omega) (by omega)) hm.1 ca_X10 rfl rfl (Nat.le_of_ble_eq_true rfl) (by decide) (by decide) dX10_debtAt_3 ?_
  refine r_aload_n (pc := 6) C 0 dX10_debtAt_6 rfl rfl ?_
  refine r_iload_n (pc := 7) C 1 dX10_debtAt_7 rfl rfl ?_
  refine r_iconst (pc := 8) (v := 3) C dX10_debtAt_8 rfl ?_
  refine r_cVi (pc := 9) C hfl k_X10_58 (c_is hm (by omega) (by omega)) hm.1 ca_X10 rfl rfl (Nat.le_of_ble_eq_true rfl) (by decide) (by decide) dX10_debtAt_9 ?_
  refine r_iadd (pc := 12) C dX10_debtAt_12 ?_
  exact r_iret (pc := 13) C dX10_debtAt_13 ⟨rfl, rfl, rfl, rfl⟩ (by decide)

set_option maxHeartbeats 1000000 in
theorem c_valueAt {g : GG} {X : va_W} {T : TT} {I : II} {M : Nat} {w : Nat → Int32} (hm : isMd T M) {s : Nat} (hs : s < 15) : Mc g yX10_valueAt cX10_valueAt 4 (some .int) 2 0 0 [.ref M, .int (nI s)] X T (sr I (M + 1) w) (Ex (some (.int (valV w s))) X T (sr I (M + 1) w)) := by
  refine Mc.of (by decide) (Nat.le_of_ble_eq_true rfl) (fun k hfl C => ?_)
  refine r_lo (lo' := [(0, _), (1, _)]) rfl ?_
  refine r_iconst (pc := 0) (v := 0) C dX10_valueAt_0 rfl ?_
  refine r_istore_n (pc := 1) (lo' := [(2, _), (0, _), (1, _)]) C dX10_valueAt_1 rfl (by decide) rfl ?_
  refine r_iconst (pc := 2) (v := 0) C dX10_valueAt_2 rfl ?_
  refine r_istore_n (pc := 3) (lo' := [(3, _), (2, _), (0, _), (1, _)]) C dX10_valueAt_3 rfl (by decide) rfl ?_
  refine r_iload_n (pc := 4) C 0 dX10_valueAt_4 rfl rfl ?_
  refine r_iconst (pc := 5) (v := 4) C dX10_valueAt_5 rfl ?_
  refine r_cgeN (pc := 6) (tgt := 37) C dX10_valueAt_6 rfl (by omega) (by omega) (fun c_6 => False.elim (by omega)) (fun c_6 => ?_)
  refine r_iload_n (pc := 9) C 1 dX10_valueAt_9 rfl rfl ?_
  refine r_aload_n (pc := 10) C 2 dX10_valueAt_10 rfl rfl ?_
  refine r_iload_n (pc := 11) C 3 dX10_valueAt_11 rfl rfl ?_
  refine r_bipush (pc := 12) (v := 6) C dX10_valueAt_12 rfl ?_
  refine r_iload_n (pc := 14) C 0 dX10_valueAt_14 rfl rfl ?_
  refine r_iaddN (pc := 15) C dX10_valueAt_15 ?_
  refine r_cVi (pc := 16) C hfl k_X10_58 (c_is hm (by omega) (by omega)) hm.1 ca_X10 rfl rfl (Nat.le_of_ble_eq_true rfl) (by decide) (by decide) dX10_valueAt_16 ?_
  refine r_aload_n (pc := 19) C 2 dX10_valueAt_19 rfl rfl ?_
  refine r_getR (pc := 20) (x := M + 1) C f_X10_13 hm.1 rfl rfl dX10_valueAt_20 ?_
  refine r_bipush (pc := 23) (v := 10) C dX10_valueAt_23 rfl ?_
  refine r_iload_n (pc := 25) C 0 dX10_valueAt_25 rfl rfl ?_
  refine r_iaddN (pc := 26) C dX10_valueAt_26 ?_
  refine r_wld (pc := 27) (x := 10 + 0) C hm.2.1 rfl (by omega) (by decide) dX10_valueAt_27 ?_
  refine r_imul (pc := 28) C dX10_valueAt_28 ?_
  refine r_iadd (pc := 29) C dX10_valueAt_29 ?_
  refine r_istore_n (pc := 30) (lo' := [(2, _), (3, _), (0, _), (1, _)]) C dX10_valueAt_30 rfl (by decide) rfl ?_
  refine r_iincN (pc := 31) (m := 1) (lo' := [(3, _), (2, _), (0, _), (1, _)]) C 1 dX10_valueAt_31 rfl rfl (by decide) rfl ?_
  refine r_goto (pc := 34) (tgt := 4) C dX10_valueAt_34 rfl ?_
  refine r_iload_n (pc := 4) C 0 dX10_valueAt_4 rfl rfl ?_
  refine r_iconst (pc := 5) (v := 4) C dX10_valueAt_5 rfl ?_
  refine r_cgeN (pc := 6) (tgt := 37) C dX10_valueAt_6 rfl (by omega) (by omega) (fun c_6 => False.elim (by omega)) (fun c_6 => ?_)
  refine r_iload_n (pc := 9) C 1 dX10_valueAt_9 rfl rfl ?_
  refine r_aload_n (pc := 10) C 2 dX10_valueAt_10 rfl rfl ?_
  refine r_iload_n (pc := 11) C 3 dX10_valueAt_11 rfl rfl ?_
  refine r_bipush (pc := 12) (v := 6) C dX10_valueAt_12 rfl ?_
  refine r_iload_n (pc := 14) C 0 dX10_valueAt_14 rfl rfl ?_
  refine r_iaddN (pc := 15) C dX10_valueAt_15 ?_
  refine r_cVi (pc := 16) C hfl k_X10_58 (c_is hm (by omega) (by omega)) hm.1 ca_X10 rfl rfl (Nat.le_of_ble_eq_true rfl) (by decide) (by decide) dX10_valueAt_16 ?_
  refine r_aload_n (pc := 19) C 2 dX10_valueAt_19 rfl rfl ?_
  refine r_getR (pc := 20) (x := M + 1) C f_X10_13 hm.1 rfl rfl dX10_valueAt_20 ?_
  refine r_bipush (pc := 23) (v := 10) C dX10_valueAt_23 rfl ?_
  refine r_iload_n (pc := 25) C 0 dX10_valueAt_25 rfl rfl ?_
  refine r_iaddN (pc := 26) C dX10_valueAt_26 ?_
  refine r_wld (pc := 27) (x := 10 + (0 + 1)) C hm.2.1 rfl (by omega) (by decide) dX10_valueAt_27 ?_
  refine r_imul (pc := 28) C dX10_valueAt_28 ?_
  refine r_iadd (pc := 29) C dX10_valueAt_29 ?_
  refine r_istore_n (pc := 30) (lo' := [(2, _), (3, _), (0, _), (1, _)]) C dX10_valueAt_30 rfl (by decide) rfl ?_
  refine r_iincN (pc := 31) (m := 1) (lo' := [(3, _), (2, _), (0, _), (1, _)]) C 1 dX10_valueAt_31 rfl rfl (by decide) rfl ?_
  refine r_goto (pc := 34) (tgt := 4) C dX10_valueAt_34 rfl ?_
  refine r_iload_n (pc := 4) C 0 dX10_valueAt_4 rfl rfl ?_
  refine r_iconst (pc := 5) (v := 4) C dX10_valueAt_5 rfl ?_
  refine r_cgeN (pc := 6) (tgt := 37) C dX10_valueAt_6 rfl (by omega) (by omega) (fun c_6 => False.elim (by omega)) (fun c_6 => ?_)
  refine r_iload_n (pc := 9) C 1 dX10_valueAt_9 rfl rfl ?_
  refine r_aload_n (pc := 10) C 2 dX10_valueAt_10 rfl rfl ?_
  refine r_iload_n (pc := 11) C 3 dX10_valueAt_11 rfl rfl ?_
  refine r_bipush (pc := 12) (v := 6) C dX10_valueAt_12 rfl ?_
  refine r_iload_n (pc := 14) C 0 dX10_valueAt_14 rfl rfl ?_
  refine r_iaddN (pc := 15) C dX10_valueAt_15 ?_
  refine r_cVi (pc := 16) C hfl k_X10_58 (c_is hm (by omega) (by omega)) hm.1 ca_X10 rfl rfl (Nat.le_of_ble_eq_true rfl) (by decide) (by decide) dX10_valueAt_16 ?_
  refine r_aload_n (pc := 19) C 2 dX10_valueAt_19 rfl rfl ?_
  refine r_getR (pc := 20) (x := M + 1) C f_X10_13 hm.1 rfl rfl dX10_valueAt_20 ?_
  refine r_bipush (pc := 23) (v := 10) C dX10_valueAt_23 rfl ?_
  refine r_iload_n (pc := 25) C 0 dX10_valueAt_25 rfl rfl ?_
  refine r_iaddN (pc := 26) C dX10_valueAt_26 ?_
  refine r_wld (pc := 27) (x := 10 + (0 + 1 + 1)) C hm.2.1 rfl (by omega) (by decide) dX10_valueAt_27 ?_
  refine r_imul (pc := 28) C dX10_valueAt_28 ?_
  refine r_iadd (pc := 29) C dX10_valueAt_29 ?_
  refine r_istore_n (pc := 30) (lo' := [(2, _), (3, _), (0, _), (1, _)]) C dX10_valueAt_30 rfl (by decide) rfl ?_
  refine r_iincN (pc := 31) (m := 1) (lo' := [(3, _), (2, _), (0, _), (1, _)]) C 1 dX10_valueAt_31 rfl rfl (by decide) rfl ?_
  refine r_goto (pc := 34) (tgt := 4) C dX10_valueAt_34 rfl ?_
  refine r_iload_n (pc := 4) C 0 dX10_valueAt_4 rfl rfl ?_
  refine r_iconst (pc := 5) (v := 4) C dX10_valueAt_5 rfl ?_
  refine r_cgeN (pc := 6) (tgt := 37) C dX10_valueAt_6 rfl (by omega) (by omega) (fun c_6 => False.elim (by omega)) (fun c_6 => ?_)
  refine r_iload_n (pc := 9) C 1 dX10_valueAt_9 rfl rfl ?_
  refine r_aload_n (pc := 10) C 2 dX10_valueAt_10 rfl rfl ?_
  refine r_iload_n (pc := 11) C 3 dX10_valueAt_11 rfl rfl ?_
  refine r_bipush (pc := 12) (v := 6) C dX10_valueAt_12 rfl ?_
  refine r_iload_n (pc := 14) C 0 dX10_valueAt_14 rfl rfl ?_
  refine r_iaddN (pc := 15) C dX10_valueAt_15 ?_
  refine r_cVi (pc := 16) C hfl k_X10_58 (c_is hm (by omega) (by omega)) hm.1 ca_X10 rfl rfl (Nat.le_of_ble_eq_true rfl) (by decide) (by decide) dX10_valueAt_16 ?_
  refine r_aload_n (pc := 19) C 2 dX10_valueAt_19 rfl rfl ?_
  refine r_getR (pc := 20) (x := M + 1) C f_X10_13 hm.1 rfl rfl dX10_valueAt_20 ?_
  refine r_bipush (pc := 23) (v := 10) C dX10_valueAt_23 rfl ?_
  refine r_iload_n (pc := 25) C 0 dX10_valueAt_25 rfl rfl ?_
  refine r_iaddN (pc := 26) C dX10_valueAt_26 ?_
  refine r_wld (pc := 27) (x := 10 + (0 + 1 + 1 + 1)) C hm.2.1 rfl (by omega) (by decide) dX10_valueAt_27 ?_
  refine r_imul (pc := 28) C dX10_valueAt_28 ?_
  refine r_iadd (pc := 29) C dX10_valueAt_29 ?_
  refine r_istore_n (pc := 30) (lo' := [(2, _), (3, _), (0, _), (1, _)]) C dX10_valueAt_30 rfl (by decide) rfl ?_
  refine r_iincN (pc := 31) (m := 1) (lo' := [(3, _), (2, _), (0, _), (1, _)]) C 1 dX10_valueAt_31 rfl rfl (by decide) rfl ?_
  refine r_goto (pc := 34) (tgt := 4) C dX10_valueAt_34 rfl ?_
  refine r_iload_n (pc := 4) C 0 dX10_valueAt_4 rfl rfl ?_
  refine r_iconst (pc := 5) (v := 4) C dX10_valueAt_5 rfl ?_
  refine r_cgeN (pc := 6) (tgt := 37) C dX10_valueAt_6 rfl (by omega) (by omega) (fun c_6 => ?_) (fun c_6 => False.elim (by omega))
  refine r_iload_n (pc := 37) C 1 dX10_valueAt_37 rfl rfl ?_
  exact r_iret (pc := 38) C dX10_valueAt_38 ⟨rfl, rfl, rfl, rfl⟩ (by decide)

set_option maxHeartbeats 1000000 in
theorem c_isCoveredAt {g : GG} {X : va_W} {T : TT} {I : II} {M : Nat} {w : Nat → Int32} (hm : isMd T M) {s : Nat} (hs : s < 15) : Mc g yX10_isCoveredAt cX10_isCoveredAt 2 (some .boolean) 3 0 0 [.ref M, .int (nI s)] X T (sr I (M + 1) w) (Ex (some (.int (bI (nI 3 * debtV w s ≤ nI 2 * valV w s)))) X T (sr I (M + 1) w)) := by
  refine Mc.of (by decide) (Nat.le_of_ble_eq_true rfl) (fun k hfl C => ?_)
  refine r_lo (lo' := [(0, _), (1, _)]) rfl ?_
  refine r_iconst (pc := 0) (v := 3) C dX10_isCoveredAt_0 rfl ?_
  refine r_aload_n (pc := 1) C 0 dX10_isCoveredAt_1 rfl rfl ?_
  refine r_iload_n (pc := 2) C 1 dX10_isCoveredAt_2 rfl rfl ?_
  refine r_cVi (pc := 3) C hfl k_X10_62 (c_debtAt hm (by omega)) hm.1 ca_X10 rfl rfl (Nat.le_of_ble_eq_true rfl) (by decide) (by decide) dX10_isCoveredAt_3 ?_
  refine r_imul (pc := 6) C dX10_isCoveredAt_6 ?_
  refine r_iconst (pc := 7) (v := 2) C dX10_isCoveredAt_7 rfl ?_
  refine r_aload_n (pc := 8) C 0 dX10_isCoveredAt_8 rfl rfl ?_
  refine r_iload_n (pc := 9) C 1 dX10_isCoveredAt_9 rfl rfl ?_
  refine r_cVi (pc := 10) C hfl k_X10_66 (c_valueAt hm (by omega)) hm.1 ca_X10 rfl rfl (Nat.le_of_ble_eq_true rfl) (by decide) (by decide) dX10_isCoveredAt_10 ?_
  refine r_imul (pc := 13) C dX10_isCoveredAt_13 ?_
  refine r_cgt (pc := 14) (tgt := 21) C dX10_isCoveredAt_14 rfl (fun c_14 => ?_) (fun c_14 => ?_)
  · skip
    refine r_iconst (pc := 21) (v := 0) C dX10_isCoveredAt_21 rfl ?_
    exact r_zret (pc := 22) C rfl dX10_isCoveredAt_22 ⟨congrArg (fun z => some (Value.int z)) (bI_f (Int32.not_le.mpr c_14)).symm, rfl, rfl, rfl⟩ (by decide)
  · skip
    refine r_iconst (pc := 17) (v := 1) C dX10_isCoveredAt_17 rfl ?_
    refine r_goto (pc := 18) (tgt := 22) C dX10_isCoveredAt_18 rfl ?_
    exact r_zret (pc := 22) C rfl dX10_isCoveredAt_22 ⟨congrArg (fun z => some (Value.int z)) (bI_t (Int32.not_lt.mp c_14)).symm, rfl, rfl, rfl⟩ (by decide)

set_option maxHeartbeats 1000000 in
theorem c_slotOf {g : GG} {X : va_W} {T : TT} {I : II} {M : Nat} {w : Nat → Int32} (hm : isMd T M) {id r : Int32} {N : Nat} (hN : w 2 = nI N) (hN10 : N ≤ 10) (hr : atS w N id r) : Mc g yX10_slotOf cX10_slotOf 3 (some .int) 2 0 0 [.ref M, .int id] X T (sr I (M + 1) w) (Ex (some (.int r)) X T (sr I (M + 1) w)) := by
  refine Mc.of (by decide) (Nat.le_of_ble_eq_true rfl) (fun k hfl C => ?_)
  refine r_lo (lo' := [(0, _), (1, _)]) rfl ?_
  refine r_iconst (pc := 0) (v := 0) C dX10_slotOf_0 rfl ?_
  refine r_istore_n (pc := 1) (lo' := [(2, _), (0, _), (1, _)]) C dX10_slotOf_1 rfl (by decide) rfl ?_
  have loop_2 : ∀ (n_2 : Nat) (q : Nat), N - q < n_2 → (q ≤ N) → (∀ i, i < q → w (58 + 10 * i + 0) ≠ id) → Go g k 3 (Qm g k (Ex (some (.int r)) X T (sr I (M + 1) w)) 0 0) 0 0 2 [(0, .ref M), (1, .int id), (2, .int (nI q))] [] X T ((sr I (M + 1) w)) := by
    intro n_2
    induction n_2 with
    | zero => intro _ h_; exact absurd h_ (Nat.not_lt_zero _)
    | succ n_2 ih_2 =>
      intro q hq hqN hinv
      refine r_iload_n (pc := 2) C 2 dX10_slotOf_2 rfl rfl ?_
      refine r_aload_n (pc := 3) C 0 dX10_slotOf_3 rfl rfl ?_
      refine r_getR (pc := 4) (x := M + 1) C f_X10_13 hm.1 rfl rfl dX10_slotOf_4 ?_
      refine r_iconst (pc := 7) (v := 2) C dX10_slotOf_7 rfl ?_
      refine r_wld (pc := 8) (x := 2) C hm.2.1 rfl (by omega) (by decide) dX10_slotOf_8 ?_
      refine r_t (y := nI N) hN ?_
      refine r_cgeN (pc := 9) (tgt := 30) C dX10_slotOf_9 rfl (by omega) (by omega) (fun c_9 => ?_) (fun c_9 => ?_)
      · skip
        refine r_iconstm (pc := 30) C dX10_slotOf_30 rfl ?_
        exact r_iret (pc := 31) C dX10_slotOf_31 ⟨congrArg (fun z => some (Value.int z)) (atS_none hr (fun i hi => hinv i (by omega))), rfl, rfl, rfl⟩ (by decide)
      · skip
        refine r_aload_n (pc := 12) C 0 dX10_slotOf_12 rfl rfl ?_
        refine r_iload_n (pc := 13) C 2 dX10_slotOf_13 rfl rfl ?_
        refine r_iconst (pc := 14) (v := 0) C dX10_slotOf_14 rfl ?_
        refine r_cVi (pc := 15) C hfl k_X10_58 (c_is hm (by omega) (by omega)) hm.1 ca_X10 rfl rfl (Nat.le_of_ble_eq_true rfl) (by decide) (by decide) dX10_slotOf_15 ?_
        refine r_iload_n (pc := 18) C 1 dX10_slotOf_18 rfl rfl ?_
        refine r_cne (pc := 19) (tgt := 24) C dX10_slotOf_19 rfl (fun c_19 => ?_) (fun c_19 => ?_)
        · skip
          refine r_iincN (pc := 24) (m := 1) (lo' := [(2, _), (0, _), (1, _)]) C 2 dX10_slotOf_24 rfl rfl (by decide) rfl ?_
          refine r_goto (pc := 27) (tgt := 2) C dX10_slotOf_27 rfl ?_
          refine r_ls [1, 2, 0] rfl ?_
          exact ih_2 (q + 1) (by omega) (by omega) (lt_s hinv c_19)
        · skip
          refine r_iload_n (pc := 22) C 2 dX10_slotOf_22 rfl rfl ?_
          exact r_iret (pc := 23) C dX10_slotOf_23 ⟨congrArg (fun z => some (Value.int z)) (atS_found hr c_9 c_19 hinv), rfl, rfl, rfl⟩ (by decide)
  refine r_ls [1, 2, 0] rfl ?_
  exact loop_2 (N + 1) 0 (by omega) (by omega) (fun i h => absurd h (by omega))

set_option maxHeartbeats 1000000 in
theorem c_loansWith {g : GG} {X : va_W} {T : TT} {I : II} {M : Nat} {w : Nat → Int32} (hm : isMd T M) {b : Int32} {N : Nat} (hN : w 2 = nI N) (hN10 : N ≤ 10) : Mc g yX10_loansWith cX10_loansWith 4 (some .int) 2 0 0 [.ref M, .int b] X T (sr I (M + 1) w) (Ex (some (.int (withV w N b))) X T (sr I (M + 1) w)) := by
  refine Mc.of (by decide) (Nat.le_of_ble_eq_true rfl) (fun k hfl C => ?_)
  refine r_lo (lo' := [(0, _), (1, _)]) rfl ?_
  refine r_iconst (pc := 0) (v := 0) C dX10_loansWith_0 rfl ?_
  refine r_istore_n (pc := 1) (lo' := [(2, _), (0, _), (1, _)]) C dX10_loansWith_1 rfl (by decide) rfl ?_
  refine r_iconst (pc := 2) (v := 0) C dX10_loansWith_2 rfl ?_
  refine r_istore_n (pc := 3) (lo' := [(3, _), (2, _), (0, _), (1, _)]) C dX10_loansWith_3 rfl (by decide) rfl ?_
  have loop_4 : ∀ (n_4 : Nat) (q : Nat) (a : Int32), N - q < n_4 → (q ≤ N) → (sm (fWith w b) (N - q) q a = withV w N b) → Go g k 4 (Qm g k (Ex (some (.int (withV w N b))) X T (sr I (M + 1) w)) 0 0) 0 0 4 [(0, .ref M), (1, .int b), (2, .int a), (3, .int (nI q))] [] X T ((sr I (M + 1) w)) := by
    intro n_4
    induction n_4 with
    | zero => intro _ _ h_; exact absurd h_ (Nat.not_lt_zero _)
    | succ n_4 ih_4 =>
      intro q a hq hqN hinv
      refine r_iload_n (pc := 4) C 3 dX10_loansWith_4 rfl rfl ?_
      refine r_aload_n (pc := 5) C 0 dX10_loansWith_5 rfl rfl ?_
      refine r_getR (pc := 6) (x := M + 1) C f_X10_13 hm.1 rfl rfl dX10_loansWith_6 ?_
      refine r_iconst (pc := 9) (v := 2) C dX10_loansWith_9 rfl ?_
      refine r_wld (pc := 10) (x := 2) C hm.2.1 rfl (by omega) (by decide) dX10_loansWith_10 ?_
      refine r_t (y := nI N) hN ?_
      refine r_cgeN (pc := 11) (tgt := 38) C dX10_loansWith_11 rfl (by omega) (by omega) (fun c_11 => ?_) (fun c_11 => ?_)
      · skip
        refine r_iload_n (pc := 38) C 2 dX10_loansWith_38 rfl rfl ?_
        exact r_iret (pc := 39) C dX10_loansWith_39 ⟨congrArg (fun z => some (Value.int z)) (sm_end c_11 hinv), rfl, rfl, rfl⟩ (by decide)
      · skip
        refine r_iload_n (pc := 14) C 2 dX10_loansWith_14 rfl rfl ?_
        refine r_aload_n (pc := 15) C 0 dX10_loansWith_15 rfl rfl ?_
        refine r_iload_n (pc := 16) C 3 dX10_loansWith_16 rfl rfl ?_
        refine r_iconst (pc := 17) (v := 1) C dX10_loansWith_17 rfl ?_
        refine r_cVi (pc := 18) C hfl k_X10_58 (c_is hm (by omega) (by omega)) hm.1 ca_X10 rfl rfl (Nat.le_of_ble_eq_true rfl) (by decide) (by decide) dX10_loansWith_18 ?_
        refine r_iload_n (pc := 21) C 1 dX10_loansWith_21 rfl rfl ?_
        refine r_cne (pc := 22) (tgt := 29) C dX10_loansWith_22 rfl (fun c_22 => ?_) (fun c_22 => ?_)
        · skip
          refine r_iconst (pc := 29) (v := 0) C dX10_loansWith_29 rfl ?_
          refine r_iadd (pc := 30) C dX10_loansWith_30 ?_
          refine r_istore_n (pc := 31) (lo' := [(2, _), (0, _), (1, _), (3, _)]) C dX10_loansWith_31 rfl (by decide) rfl ?_
          refine r_iincN (pc := 32) (m := 1) (lo' := [(3, _), (2, _), (0, _), (1, _)]) C 3 dX10_loansWith_32 rfl rfl (by decide) rfl ?_
          refine r_goto (pc := 35) (tgt := 4) C dX10_loansWith_35 rfl ?_
          refine r_ls [2, 3, 1, 0] rfl ?_
          exact ih_4 (q + 1) _ (by omega) (by omega) (sm_go c_11 hinv (if_neg c_22))
        · skip
          refine r_iconst (pc := 25) (v := 1) C dX10_loansWith_25 rfl ?_
          refine r_goto (pc := 26) (tgt := 30) C dX10_loansWith_26 rfl ?_
          refine r_iadd (pc := 30) C dX10_loansWith_30 ?_
          refine r_istore_n (pc := 31) (lo' := [(2, _), (0, _), (1, _), (3, _)]) C dX10_loansWith_31 rfl (by decide) rfl ?_
          refine r_iincN (pc := 32) (m := 1) (lo' := [(3, _), (2, _), (0, _), (1, _)]) C 3 dX10_loansWith_32 rfl rfl (by decide) rfl ?_
          refine r_goto (pc := 35) (tgt := 4) C dX10_loansWith_35 rfl ?_
          refine r_ls [2, 3, 1, 0] rfl ?_
          exact ih_4 (q + 1) _ (by omega) (by omega) (sm_go c_11 hinv (if_pos c_22))
  refine r_ls [2, 3, 1, 0] rfl ?_
  exact loop_4 (N + 1) 0 (nI 0) (by omega) (by omega) rfl

set_option maxHeartbeats 1000000 in
theorem c_debtsOf {g : GG} {X : va_W} {T : TT} {I : II} {M : Nat} {w : Nat → Int32} (hm : isMd T M) {b : Int32} {N : Nat} (hN : w 2 = nI N) (hN10 : N ≤ 10) : Mc g yX10_debtsOf cX10_debtsOf 4 (some .int) 3 0 0 [.ref M, .int b] X T (sr I (M + 1) w) (Ex (some (.int (debtsV w N b))) X T (sr I (M + 1) w)) := by
  refine Mc.of (by decide) (Nat.le_of_ble_eq_true rfl) (fun k hfl C => ?_)
  refine r_lo (lo' := [(0, _), (1, _)]) rfl ?_
  refine r_iconst (pc := 0) (v := 0) C dX10_debtsOf_0 rfl ?_
  refine r_istore_n (pc := 1) (lo' := [(2, _), (0, _), (1, _)]) C dX10_debtsOf_1 rfl (by decide) rfl ?_
  refine r_iconst (pc := 2) (v := 0) C dX10_debtsOf_2 rfl ?_
  refine r_istore_n (pc := 3) (lo' := [(3, _), (2, _), (0, _), (1, _)]) C dX10_debtsOf_3 rfl (by decide) rfl ?_
  have loop_4 : ∀ (n_4 : Nat) (q : Nat) (a : Int32), N - q < n_4 → (q ≤ N) → (sm (fDebt w b) (N - q) q a = debtsV w N b) → Go g k 4 (Qm g k (Ex (some (.int (debtsV w N b))) X T (sr I (M + 1) w)) 0 0) 0 0 4 [(0, .ref M), (1, .int b), (2, .int a), (3, .int (nI q))] [] X T ((sr I (M + 1) w)) := by
    intro n_4
    induction n_4 with
    | zero => intro _ _ h_; exact absurd h_ (Nat.not_lt_zero _)
    | succ n_4 ih_4 =>
      intro q a hq hqN hinv
      refine r_iload_n (pc := 4) C 3 dX10_debtsOf_4 rfl rfl ?_
      refine r_aload_n (pc := 5) C 0 dX10_debtsOf_5 rfl rfl ?_
      refine r_getR (pc := 6) (x := M + 1) C f_X10_13 hm.1 rfl rfl dX10_debtsOf_6 ?_
      refine r_iconst (pc := 9) (v := 2) C dX10_debtsOf_9 rfl ?_
      refine r_wld (pc := 10) (x := 2) C hm.2.1 rfl (by omega) (by decide) dX10_debtsOf_10 ?_
      refine r_t (y := nI N) hN ?_
      refine r_cgeN (pc := 11) (tgt := 42) C dX10_debtsOf_11 rfl (by omega) (by omega) (fun c_11 => ?_) (fun c_11 => ?_)
      · skip
        refine r_iload_n (pc := 42) C 2 dX10_debtsOf_42 rfl rfl ?_
        exact r_iret (pc := 43) C dX10_debtsOf_43 ⟨congrArg (fun z => some (Value.int z)) (sm_end c_11 hinv), rfl, rfl, rfl⟩ (by decide)
      · skip
        refine r_iload_n (pc := 14) C 2 dX10_debtsOf_14 rfl rfl ?_
        refine r_aload_n (pc := 15) C 0 dX10_debtsOf_15 rfl rfl ?_
        refine r_iload_n (pc := 16) C 3 dX10_debtsOf_16 rfl rfl ?_
        refine r_iconst (pc := 17) (v := 1) C dX10_debtsOf_17 rfl ?_
        refine r_cVi (pc := 18) C hfl k_X10_58 (c_is hm (by omega) (by omega)) hm.1 ca_X10 rfl rfl (Nat.le_of_ble_eq_true rfl) (by decide) (by decide) dX10_debtsOf_18 ?_
        refine r_iload_n (pc := 21) C 1 dX10_debtsOf_21 rfl rfl ?_
        refine r_cne (pc := 22) (tgt := 33) C dX10_debtsOf_22 rfl (fun c_22 => ?_) (fun c_22 => ?_)
        · skip
          refine r_iconst (pc := 33) (v := 0) C dX10_debtsOf_33 rfl ?_
          refine r_iadd (pc := 34) C dX10_debtsOf_34 ?_
          refine r_istore_n (pc := 35) (lo' := [(2, _), (0, _), (1, _), (3, _)]) C dX10_debtsOf_35 rfl (by decide) rfl ?_
          refine r_iincN (pc := 36) (m := 1) (lo' := [(3, _), (2, _), (0, _), (1, _)]) C 3 dX10_debtsOf_36 rfl rfl (by decide) rfl ?_
          refine r_goto (pc := 39) (tgt := 4) C dX10_debtsOf_39 rfl ?_
          refine r_ls [2, 3, 1, 0] rfl ?_
          exact ih_4 (q + 1) _ (by omega) (by omega) (sm_go c_11 hinv (if_neg c_22))
        · skip
          refine r_aload_n (pc := 25) C 0 dX10_debtsOf_25 rfl rfl ?_
          refine r_iload_n (pc := 26) C 3 dX10_debtsOf_26 rfl rfl ?_
          refine r_cVi (pc := 27) C hfl k_X10_62 (c_debtAt hm (by omega)) hm.1 ca_X10 rfl rfl (Nat.le_of_ble_eq_true rfl) (by decide) (by decide) dX10_debtsOf_27 ?_
          refine r_goto (pc := 30) (tgt := 34) C dX10_debtsOf_30 rfl ?_
          refine r_iadd (pc := 34) C dX10_debtsOf_34 ?_
          refine r_istore_n (pc := 35) (lo' := [(2, _), (0, _), (1, _), (3, _)]) C dX10_debtsOf_35 rfl (by decide) rfl ?_
          refine r_iincN (pc := 36) (m := 1) (lo' := [(3, _), (2, _), (0, _), (1, _)]) C 3 dX10_debtsOf_36 rfl rfl (by decide) rfl ?_
          refine r_goto (pc := 39) (tgt := 4) C dX10_debtsOf_39 rfl ?_
          refine r_ls [2, 3, 1, 0] rfl ?_
          exact ih_4 (q + 1) _ (by omega) (by omega) (sm_go c_11 hinv (if_pos c_22))
  refine r_ls [2, 3, 1, 0] rfl ?_
  exact loop_4 (N + 1) 0 (nI 0) (by omega) (by omega) rfl

set_option maxHeartbeats 1000000 in
theorem c_pledgedBy {g : GG} {X : va_W} {T : TT} {I : II} {M : Nat} {w : Nat → Int32} (hm : isMd T M) {b : Int32} {m : Nat} (hm4 : m < 4) {N : Nat} (hN : w 2 = nI N) (hN10 : N ≤ 10) : Mc g yX10_pledgedBy cX10_pledgedBy 5 (some .int) 2 0 0 [.ref M, .int b, .int (nI m)] X T (sr I (M + 1) w) (Ex (some (.int (pledV w N b m))) X T (sr I (M + 1) w)) := by
  refine Mc.of (by decide) (Nat.le_of_ble_eq_true rfl) (fun k hfl C => ?_)
  refine r_lo (lo' := [(0, _), (1, _), (2, _)]) rfl ?_
  refine r_iconst (pc := 0) (v := 0) C dX10_pledgedBy_0 rfl ?_
  refine r_istore_n (pc := 1) (lo' := [(3, _), (0, _), (1, _), (2, _)]) C dX10_pledgedBy_1 rfl (by decide) rfl ?_
  refine r_iconst (pc := 2) (v := 0) C dX10_pledgedBy_2 rfl ?_
  refine r_istore (pc := 3) (lo' := [(4, _), (3, _), (0, _), (1, _), (2, _)]) C dX10_pledgedBy_3 (by decide) rfl ?_
  have loop_5 : ∀ (n_5 : Nat) (q : Nat) (a : Int32), N - q < n_5 → (q ≤ N) → (sm (fPled w b m) (N - q) q a = pledV w N b m) → Go g k 5 (Qm g k (Ex (some (.int (pledV w N b m))) X T (sr I (M + 1) w)) 0 0) 0 0 5 [(0, .ref M), (1, .int b), (2, .int (nI m)), (3, .int a), (4, .int (nI q))] [] X T ((sr I (M + 1) w)) := by
    intro n_5
    induction n_5 with
    | zero => intro _ _ h_; exact absurd h_ (Nat.not_lt_zero _)
    | succ n_5 ih_5 =>
      intro q a hq hqN hinv
      refine r_iload (pc := 5) C 4 dX10_pledgedBy_5 rfl ?_
      refine r_aload_n (pc := 7) C 0 dX10_pledgedBy_7 rfl rfl ?_
      refine r_getR (pc := 8) (x := M + 1) C f_X10_13 hm.1 rfl rfl dX10_pledgedBy_8 ?_
      refine r_iconst (pc := 11) (v := 2) C dX10_pledgedBy_11 rfl ?_
      refine r_wld (pc := 12) (x := 2) C hm.2.1 rfl (by omega) (by decide) dX10_pledgedBy_12 ?_
      refine r_t (y := nI N) hN ?_
      refine r_cgeN (pc := 13) (tgt := 50) C dX10_pledgedBy_13 rfl (by omega) (by omega) (fun c_13 => ?_) (fun c_13 => ?_)
      · skip
        refine r_iload_n (pc := 50) C 3 dX10_pledgedBy_50 rfl rfl ?_
        exact r_iret (pc := 51) C dX10_pledgedBy_51 ⟨congrArg (fun z => some (Value.int z)) (sm_end c_13 hinv), rfl, rfl, rfl⟩ (by decide)
      · skip
        refine r_iload_n (pc := 16) C 3 dX10_pledgedBy_16 rfl rfl ?_
        refine r_aload_n (pc := 17) C 0 dX10_pledgedBy_17 rfl rfl ?_
        refine r_iload (pc := 18) C 4 dX10_pledgedBy_18 rfl ?_
        refine r_iconst (pc := 20) (v := 1) C dX10_pledgedBy_20 rfl ?_
        refine r_cVi (pc := 21) C hfl k_X10_58 (c_is hm (by omega) (by omega)) hm.1 ca_X10 rfl rfl (Nat.le_of_ble_eq_true rfl) (by decide) (by decide) dX10_pledgedBy_21 ?_
        refine r_iload_n (pc := 24) C 1 dX10_pledgedBy_24 rfl rfl ?_
        refine r_cne (pc := 25) (tgt := 41) C dX10_pledgedBy_25 rfl (fun c_25 => ?_) (fun c_25 => ?_)
        · skip
          refine r_iconst (pc := 41) (v := 0) C dX10_pledgedBy_41 rfl ?_
          refine r_iadd (pc := 42) C dX10_pledgedBy_42 ?_
          refine r_istore_n (pc := 43) (lo' := [(3, _), (0, _), (1, _), (2, _), (4, _)]) C dX10_pledgedBy_43 rfl (by decide) rfl ?_
          refine r_iincN (pc := 44) (m := 1) (lo' := [(4, _), (3, _), (0, _), (1, _), (2, _)]) C 4 dX10_pledgedBy_44 rfl rfl (by decide) rfl ?_
          refine r_goto (pc := 47) (tgt := 5) C dX10_pledgedBy_47 rfl ?_
          refine r_ls [2, 3, 4, 1, 0] rfl ?_
          exact ih_5 (q + 1) _ (by omega) (by omega) (sm_go c_13 hinv (if_neg c_25))
        · skip
          refine r_aload_n (pc := 28) C 0 dX10_pledgedBy_28 rfl rfl ?_
          refine r_iload (pc := 29) C 4 dX10_pledgedBy_29 rfl ?_
          refine r_bipush (pc := 31) (v := 6) C dX10_pledgedBy_31 rfl ?_
          refine r_iload_n (pc := 33) C 2 dX10_pledgedBy_33 rfl rfl ?_
          refine r_iaddN (pc := 34) C dX10_pledgedBy_34 ?_
          refine r_cVi (pc := 35) C hfl k_X10_58 (c_is hm (by omega) (by omega)) hm.1 ca_X10 rfl rfl (Nat.le_of_ble_eq_true rfl) (by decide) (by decide) dX10_pledgedBy_35 ?_
          refine r_goto (pc := 38) (tgt := 42) C dX10_pledgedBy_38 rfl ?_
          refine r_iadd (pc := 42) C dX10_pledgedBy_42 ?_
          refine r_istore_n (pc := 43) (lo' := [(3, _), (0, _), (1, _), (2, _), (4, _)]) C dX10_pledgedBy_43 rfl (by decide) rfl ?_
          refine r_iincN (pc := 44) (m := 1) (lo' := [(4, _), (3, _), (0, _), (1, _), (2, _)]) C 4 dX10_pledgedBy_44 rfl rfl (by decide) rfl ?_
          refine r_goto (pc := 47) (tgt := 5) C dX10_pledgedBy_47 rfl ?_
          refine r_ls [2, 3, 4, 1, 0] rfl ?_
          exact ih_5 (q + 1) _ (by omega) (by omega) (sm_go c_13 hinv (if_pos c_25))
  refine r_ls [2, 3, 4, 1, 0] rfl ?_
  exact loop_5 (N + 1) 0 (nI 0) (by omega) (by omega) rfl

set_option maxHeartbeats 1000000 in
theorem c_entry {g : GG} {X : va_W} {T : TT} {I : II} {M : Nat} {w : Nat → Int32} (hm : isMd T M) {e j : Nat} (he : e < 20) (hj : j < 3) : Mc g yX10_entry cX10_entry 3 (some .int) 1 0 0 [.ref M, .int (nI e), .int (nI j)] X T (sr I (M + 1) w) (Ex (some (.int (w (158 + 3 * e + j)))) X T (sr I (M + 1) w)) := by
  refine Mc.of (by decide) (Nat.le_of_ble_eq_true rfl) (fun k hfl C => ?_)
  refine r_lo (lo' := [(0, _), (1, _), (2, _)]) rfl ?_
  refine r_aload_n (pc := 0) C 0 dX10_entry_0 rfl rfl ?_
  refine r_getR (pc := 1) (x := M + 1) C f_X10_13 hm.1 rfl rfl dX10_entry_1 ?_
  refine r_sipush (pc := 4) (v := 158) C dX10_entry_4 rfl ?_
  refine r_iconst (pc := 7) (v := 3) C dX10_entry_7 rfl ?_
  refine r_iload_n (pc := 8) C 1 dX10_entry_8 rfl rfl ?_
  refine r_imulN (pc := 9) C dX10_entry_9 ?_
  refine r_iaddN (pc := 10) C dX10_entry_10 ?_
  refine r_iload_n (pc := 11) C 2 dX10_entry_11 rfl rfl ?_
  refine r_iaddN (pc := 12) C dX10_entry_12 ?_
  refine r_wld (pc := 13) (x := (158 + (3 * e)) + j) C hm.2.1 rfl (by omega) (by decide) dX10_entry_13 ?_
  exact r_iret (pc := 14) C dX10_entry_14 ⟨rfl, rfl, rfl, rfl⟩ (by decide)

set_option maxHeartbeats 1000000 in
theorem c_entryFor {g : GG} {X : va_W} {T : TT} {I : II} {M : Nat} {w : Nat → Int32} (hm : isMd T M) {dy id r : Int32} {E : Nat} (hE : w 5 = nI E) (hE20 : E ≤ 20) (hr : atE w E dy id r) : Mc g yX10_entryFor cX10_entryFor 4 (some .int) 2 0 0 [.ref M, .int dy, .int id] X T (sr I (M + 1) w) (Ex (some (.int r)) X T (sr I (M + 1) w)) := by
  refine Mc.of (by decide) (Nat.le_of_ble_eq_true rfl) (fun k hfl C => ?_)
  refine r_lo (lo' := [(0, _), (1, _), (2, _)]) rfl ?_
  refine r_iconst (pc := 0) (v := 0) C dX10_entryFor_0 rfl ?_
  refine r_istore_n (pc := 1) (lo' := [(3, _), (0, _), (1, _), (2, _)]) C dX10_entryFor_1 rfl (by decide) rfl ?_
  have loop_2 : ∀ (n_2 : Nat) (q : Nat), E - q < n_2 → (q ≤ E) → (∀ i, i < q → ¬ (w (158 + 3 * i + 0) = dy ∧ w (158 + 3 * i + 1) = id)) → Go g k 4 (Qm g k (Ex (some (.int r)) X T (sr I (M + 1) w)) 0 0) 0 0 2 [(0, .ref M), (1, .int dy), (2, .int id), (3, .int (nI q))] [] X T ((sr I (M + 1) w)) := by
    intro n_2
    induction n_2 with
    | zero => intro _ h_; exact absurd h_ (Nat.not_lt_zero _)
    | succ n_2 ih_2 =>
      intro q hq hqN hinv
      refine r_iload_n (pc := 2) C 3 dX10_entryFor_2 rfl rfl ?_
      refine r_aload_n (pc := 3) C 0 dX10_entryFor_3 rfl rfl ?_
      refine r_getR (pc := 4) (x := M + 1) C f_X10_13 hm.1 rfl rfl dX10_entryFor_4 ?_
      refine r_iconst (pc := 7) (v := 5) C dX10_entryFor_7 rfl ?_
      refine r_wld (pc := 8) (x := 5) C hm.2.1 rfl (by omega) (by decide) dX10_entryFor_8 ?_
      refine r_t (y := nI E) hE ?_
      refine r_cgeN (pc := 9) (tgt := 40) C dX10_entryFor_9 rfl (by omega) (by omega) (fun c_9 => ?_) (fun c_9 => ?_)
      · skip
        refine r_iconstm (pc := 40) C dX10_entryFor_40 rfl ?_
        exact r_iret (pc := 41) C dX10_entryFor_41 ⟨congrArg (fun z => some (Value.int z)) (atE_none hr (fun i hi => hinv i (by omega))), rfl, rfl, rfl⟩ (by decide)
      · skip
        refine r_aload_n (pc := 12) C 0 dX10_entryFor_12 rfl rfl ?_
        refine r_iload_n (pc := 13) C 3 dX10_entryFor_13 rfl rfl ?_
        refine r_iconst (pc := 14) (v := 0) C dX10_entryFor_14 rfl ?_
        refine r_cVi (pc := 15) C hfl k_X10_133 (c_entry hm (by omega) (by omega)) hm.1 ca_X10 rfl rfl (Nat.le_of_ble_eq_true rfl) (by decide) (by decide) dX10_entryFor_15 ?_
        refine r_iload_n (pc := 18) C 1 dX10_entryFor_18 rfl rfl ?_
        refine r_cne (pc := 19) (tgt := 34) C dX10_entryFor_19 rfl (fun c_19 => ?_) (fun c_19 => ?_)
        · skip
          refine r_iincN (pc := 34) (m := 1) (lo' := [(3, _), (0, _), (1, _), (2, _)]) C 3 dX10_entryFor_34 rfl rfl (by decide) rfl ?_
          refine r_goto (pc := 37) (tgt := 2) C dX10_entryFor_37 rfl ?_
          refine r_ls [1, 2, 3, 0] rfl ?_
          exact ih_2 (q + 1) (by omega) (by omega) (lt_s hinv (fun z => c_19 z.1))
        · skip
          refine r_aload_n (pc := 22) C 0 dX10_entryFor_22 rfl rfl ?_
          refine r_iload_n (pc := 23) C 3 dX10_entryFor_23 rfl rfl ?_
          refine r_iconst (pc := 24) (v := 1) C dX10_entryFor_24 rfl ?_
          refine r_cVi (pc := 25) C hfl k_X10_133 (c_entry hm (by omega) (by omega)) hm.1 ca_X10 rfl rfl (Nat.le_of_ble_eq_true rfl) (by decide) (by decide) dX10_entryFor_25 ?_
          refine r_iload_n (pc := 28) C 2 dX10_entryFor_28 rfl rfl ?_
          refine r_cne (pc := 29) (tgt := 34) C dX10_entryFor_29 rfl (fun c_29 => ?_) (fun c_29 => ?_)
          · skip
            refine r_iincN (pc := 34) (m := 1) (lo' := [(3, _), (0, _), (1, _), (2, _)]) C 3 dX10_entryFor_34 rfl rfl (by decide) rfl ?_
            refine r_goto (pc := 37) (tgt := 2) C dX10_entryFor_37 rfl ?_
            refine r_ls [1, 2, 3, 0] rfl ?_
            exact ih_2 (q + 1) (by omega) (by omega) (lt_s hinv (fun z => c_29 z.2))
          · skip
            refine r_iload_n (pc := 32) C 3 dX10_entryFor_32 rfl rfl ?_
            exact r_iret (pc := 33) C dX10_entryFor_33 ⟨congrArg (fun z => some (Value.int z)) (atE_found hr c_9 ⟨c_19, c_29⟩ hinv), rfl, rfl, rfl⟩ (by decide)
  refine r_ls [1, 2, 3, 0] rfl ?_
  exact loop_2 (E + 1) 0 (by omega) (by omega) (fun i h => absurd h (by omega))

set_option maxHeartbeats 1000000 in
theorem c_isBorrower {g : GG} {X : va_W} {T : TT} {I : II} {M : Nat} {w : Nat → Int32} (hm : isMd T M) {b : Int32} {B : Nat} (hB : w 1 = nI B) (hB6 : B ≤ 6) : Mc g yX10_isBorrower cX10_isBorrower 2 (some .boolean) 2 0 0 [.ref M, .int b] X T (sr I (M + 1) w) (Ex (some (.int (bI (okB B b)))) X T (sr I (M + 1) w)) := by
  refine Mc.of (by decide) (Nat.le_of_ble_eq_true rfl) (fun k hfl C => ?_)
  refine r_lo (lo' := [(0, _), (1, _)]) rfl ?_
  refine r_iload_n (pc := 0) C 1 dX10_isBorrower_0 rfl rfl ?_
  refine r_iconst (pc := 1) (v := 0) C dX10_isBorrower_1 rfl ?_
  refine r_aload_n (pc := 2) C 0 dX10_isBorrower_2 rfl rfl ?_
  refine r_getR (pc := 3) (x := M + 1) C f_X10_13 hm.1 rfl rfl dX10_isBorrower_3 ?_
  refine r_iconst (pc := 6) (v := 1) C dX10_isBorrower_6 rfl ?_
  refine r_wld (pc := 7) (x := 1) C hm.2.1 rfl (by omega) (by decide) dX10_isBorrower_7 ?_
  refine r_t (y := nI B) hB ?_
  refine r_iconst (pc := 8) (v := 1) C dX10_isBorrower_8 rfl ?_
  refine r_isub (pc := 9) C dX10_isBorrower_9 ?_
  refine r_cSi (pc := 10) C hfl k_X10_54 (c_isBetween _ _ _) rfl rfl (Nat.le_of_ble_eq_true rfl) (by decide) (by decide) dX10_isBorrower_10 ?_
  exact r_zret (pc := 13) C bI_n dX10_isBorrower_13 ⟨rfl, rfl, rfl, rfl⟩ (by decide)

set_option maxHeartbeats 1000000 in
theorem c_interestPerDay {g : GG} {X : va_W} {T : TT} {I : II} {M : Nat} {w : Nat → Int32} (hm : isMd T M) {s : Nat} (hs : s < 15) : Mc g yX10_interestPerDay cX10_interestPerDay 2 (some .int) 2 0 0 [.ref M, .int (nI s)] X T (sr I (M + 1) w) (Ex (some (.int (dayV w s))) X T (sr I (M + 1) w)) := by
  refine Mc.of (by decide) (Nat.le_of_ble_eq_true rfl) (fun k hfl C => ?_)
  refine r_lo (lo' := [(0, _), (1, _)]) rfl ?_
  refine r_aload_n (pc := 0) C 0 dX10_interestPerDay_0 rfl rfl ?_
  refine r_iload_n (pc := 1) C 1 dX10_interestPerDay_1 rfl rfl ?_
  refine r_iconst (pc := 2) (v := 2) C dX10_interestPerDay_2 rfl ?_
  refine r_cVi (pc := 3) C hfl k_X10_58 (c_is hm (by omega) (by omega)) hm.1 ca_X10 rfl rfl (Nat.le_of_ble_eq_true rfl) (by decide) (by decide) dX10_interestPerDay_3 ?_
  refine r_aload_n (pc := 6) C 0 dX10_interestPerDay_6 rfl rfl ?_
  refine r_iload_n (pc := 7) C 1 dX10_interestPerDay_7 rfl rfl ?_
  refine r_iconst (pc := 8) (v := 4) C dX10_interestPerDay_8 rfl ?_
  refine r_cVi (pc := 9) C hfl k_X10_58 (c_is hm (by omega) (by omega)) hm.1 ca_X10 rfl rfl (Nat.le_of_ble_eq_true rfl) (by decide) (by decide) dX10_interestPerDay_9 ?_
  refine r_imul (pc := 12) C dX10_interestPerDay_12 ?_
  refine r_sipush (pc := 13) (v := 999) C dX10_interestPerDay_13 rfl ?_
  refine r_iadd (pc := 16) C dX10_interestPerDay_16 ?_
  refine r_sipush (pc := 17) (v := 1000) C dX10_interestPerDay_17 rfl ?_
  refine r_idiv (pc := 20) C dX10_interestPerDay_20 (by decide) ?_
  exact r_iret (pc := 21) C dX10_interestPerDay_21 ⟨rfl, rfl, rfl, rfl⟩ (by decide)

set_option maxHeartbeats 1000000 in
theorem c_isFailing {g : GG} {X : va_W} {T : TT} {I : II} {M : Nat} {w : Nat → Int32} (hm : isMd T M) {s : Nat} (hs : s < 15) : Mc g yX10_isFailing cX10_isFailing 2 (some .boolean) 3 0 0 [.ref M, .int (nI s)] X T (sr I (M + 1) w) (Ex (some (.int (bI (w (58 + 10 * s + 5) < w 0 ∨ valV w s < debtV w s)))) X T (sr I (M + 1) w)) := by
  refine Mc.of (by decide) (Nat.le_of_ble_eq_true rfl) (fun k hfl C => ?_)
  refine r_lo (lo' := [(0, _), (1, _)]) rfl ?_
  refine r_aload_n (pc := 0) C 0 dX10_isFailing_0 rfl rfl ?_
  refine r_getR (pc := 1) (x := M + 1) C f_X10_13 hm.1 rfl rfl dX10_isFailing_1 ?_
  refine r_iconst (pc := 4) (v := 0) C dX10_isFailing_4 rfl ?_
  refine r_wld (pc := 5) (x := 0) C hm.2.1 rfl (by omega) (by decide) dX10_isFailing_5 ?_
  refine r_aload_n (pc := 6) C 0 dX10_isFailing_6 rfl rfl ?_
  refine r_iload_n (pc := 7) C 1 dX10_isFailing_7 rfl rfl ?_
  refine r_iconst (pc := 8) (v := 5) C dX10_isFailing_8 rfl ?_
  refine r_cVi (pc := 9) C hfl k_X10_58 (c_is hm (by omega) (by omega)) hm.1 ca_X10 rfl rfl (Nat.le_of_ble_eq_true rfl) (by decide) (by decide) dX10_isFailing_9 ?_
  refine r_cgt (pc := 12) (tgt := 28) C dX10_isFailing_12 rfl (fun c_12 => ?_) (fun c_12 => ?_)
  · skip
    refine r_iconst (pc := 28) (v := 1) C dX10_isFailing_28 rfl ?_
    refine r_goto (pc := 29) (tgt := 33) C dX10_isFailing_29 rfl ?_
    exact r_zret (pc := 33) C rfl dX10_isFailing_33 ⟨congrArg (fun z => some (Value.int z)) (bI_t (Or.inl c_12)).symm, rfl, rfl, rfl⟩ (by decide)
  · skip
    refine r_aload_n (pc := 15) C 0 dX10_isFailing_15 rfl rfl ?_
    refine r_iload_n (pc := 16) C 1 dX10_isFailing_16 rfl rfl ?_
    refine r_cVi (pc := 17) C hfl k_X10_62 (c_debtAt hm (by omega)) hm.1 ca_X10 rfl rfl (Nat.le_of_ble_eq_true rfl) (by decide) (by decide) dX10_isFailing_17 ?_
    refine r_aload_n (pc := 20) C 0 dX10_isFailing_20 rfl rfl ?_
    refine r_iload_n (pc := 21) C 1 dX10_isFailing_21 rfl rfl ?_
    refine r_cVi (pc := 22) C hfl k_X10_66 (c_valueAt hm (by omega)) hm.1 ca_X10 rfl rfl (Nat.le_of_ble_eq_true rfl) (by decide) (by decide) dX10_isFailing_22 ?_
    refine r_cle (pc := 25) (tgt := 32) C dX10_isFailing_25 rfl (fun c_25 => ?_) (fun c_25 => ?_)
    · skip
      refine r_iconst (pc := 32) (v := 0) C dX10_isFailing_32 rfl ?_
      exact r_zret (pc := 33) C rfl dX10_isFailing_33 ⟨congrArg (fun z => some (Value.int z)) (bI_f (fun z => z.elim c_12 (Int32.not_lt.mpr c_25))).symm, rfl, rfl, rfl⟩ (by decide)
    · skip
      refine r_iconst (pc := 28) (v := 1) C dX10_isFailing_28 rfl ?_
      refine r_goto (pc := 29) (tgt := 33) C dX10_isFailing_29 rfl ?_
      exact r_zret (pc := 33) C rfl dX10_isFailing_33 ⟨congrArg (fun z => some (Value.int z)) (bI_t (Or.inr (Int32.not_le.mp c_25))).symm, rfl, rfl, rfl⟩ (by decide)
