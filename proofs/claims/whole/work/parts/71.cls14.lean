set_option maxHeartbeats 1000000 in
theorem q_undoableCount {g : GG} {X : va_W} {T : TT} {I : II} {x : Nat} (hcl : isCl T x)  : Mx g yX9_undoableCount cX9_undoableCount 1 (some .int) 8 0 0 [.ref x] X T I (Ex (some (.int (I (x + 169) 0))) X T I) NoX := by
  have hd := hcl.2.1
  refine Mx.of (by decide) (Nat.le_of_ble_eq_true rfl) (fun k hfl hxt C => ?_)
  refine r_lo (lo' := [(0, _)]) rfl ?_
  refine r_aload_n (pc := 0) C 0 dX9_undoableCount_0 rfl rfl ?_
  refine r_getR (pc := 1) (x := x + 169) C f_X9_28 hcl.1 rfl rfl dX9_undoableCount_1 ?_
  refine r_getI (pc := 4) C f_X9_431 hcl.2.2.2.2.2.1.1 rfl dX9_undoableCount_4 ?_
  refine r_xret ?_
  exact r_iret (pc := 7) C dX9_undoableCount_7 ⟨rfl, rfl, rfl, rfl⟩ (by decide)

set_option maxHeartbeats 1000000 in
theorem q_errorPosition__v {g : GG} {X : va_W} {T : TT} {I : II} {x : Nat} (hcl : isCl T x) (he : I x 10 ≠ -1) : Mx g yX9_errorPosition cX9_errorPosition 1 (some .int) 8 0 0 [.ref x] X T I (Ex (some (.int (I x 10))) X T I) NoX := by
  have hd := hcl.2.1
  refine Mx.of (by decide) (Nat.le_of_ble_eq_true rfl) (fun k hfl hxt C => ?_)
  refine r_lo (lo' := [(0, _)]) rfl ?_
  refine r_aload_n (pc := 0) C 0 dX9_errorPosition_0 rfl rfl ?_
  refine r_getI (pc := 1) C f_X9_58 hcl.1 rfl dX9_errorPosition_1 ?_
  refine r_iconstm (pc := 4) C dX9_errorPosition_4 rfl ?_
  refine r_cne (pc := 5) (tgt := 19) C dX9_errorPosition_5 rfl (fun c_5 => ?_) (fun c_5 => False.elim (by exact he c_5))
  refine r_aload_n (pc := 19) C 0 dX9_errorPosition_19 rfl rfl ?_
  refine r_getI (pc := 20) C f_X9_58 hcl.1 rfl dX9_errorPosition_20 ?_
  refine r_xret ?_
  exact r_iret (pc := 23) C dX9_errorPosition_23 ⟨rfl, rfl, rfl, rfl⟩ (by decide)

set_option maxHeartbeats 1000000 in
theorem q_errorPosition__x {g : GG} {X : va_W} {T : TT} {I : II} {x : Nat} (hcl : isCl T x) (he : I x 10 = -1) : Mx g yX9_errorPosition cX9_errorPosition 1 (some .int) 8 1 6 [.ref x] X T I No (Th (exc 1) X T I) := by
  have hd := hcl.2.1
  refine Mx.of (by decide) (Nat.le_of_ble_eq_true rfl) (fun k hfl hxt C => ?_)
  refine r_lo (lo' := [(0, _)]) rfl ?_
  refine r_aload_n (pc := 0) C 0 dX9_errorPosition_0 rfl rfl ?_
  refine r_getI (pc := 1) C f_X9_58 hcl.1 rfl dX9_errorPosition_1 ?_
  refine r_iconstm (pc := 4) C dX9_errorPosition_4 rfl ?_
  refine r_cne (pc := 5) (tgt := 19) C dX9_errorPosition_5 rfl (fun c_5 => False.elim (by exact c_5 he)) (fun c_5 => ?_)
  exact r_thrW (pc := 8) (tx := "no program was malformed") (sa := 727) C hfl hxt ex_119 (by decide) (Nat.le_of_ble_eq_true rfl) (by decide) dX9_errorPosition_8 dX9_errorPosition_11 dX9_errorPosition_12 dX9_errorPosition_15 dX9_errorPosition_18 ⟨rfl, rfl, rfl, rfl⟩

set_option maxHeartbeats 1000000 in
theorem q_failedCommand__v {g : GG} {X : va_W} {T : TT} {I : II} {x : Nat} (hcl : isCl T x) (he : I x 11 ≠ -1) : Mx g yX9_failedCommand cX9_failedCommand 1 (some .int) 8 0 0 [.ref x] X T I (Ex (some (.int (I x 11))) X T I) NoX := by
  have hd := hcl.2.1
  refine Mx.of (by decide) (Nat.le_of_ble_eq_true rfl) (fun k hfl hxt C => ?_)
  refine r_lo (lo' := [(0, _)]) rfl ?_
  refine r_aload_n (pc := 0) C 0 dX9_failedCommand_0 rfl rfl ?_
  refine r_getI (pc := 1) C f_X9_61 hcl.1 rfl dX9_failedCommand_1 ?_
  refine r_iconstm (pc := 4) C dX9_failedCommand_4 rfl ?_
  refine r_cne (pc := 5) (tgt := 19) C dX9_failedCommand_5 rfl (fun c_5 => ?_) (fun c_5 => False.elim (by exact he c_5))
  refine r_aload_n (pc := 19) C 0 dX9_failedCommand_19 rfl rfl ?_
  refine r_getI (pc := 20) C f_X9_61 hcl.1 rfl dX9_failedCommand_20 ?_
  refine r_xret ?_
  exact r_iret (pc := 23) C dX9_failedCommand_23 ⟨rfl, rfl, rfl, rfl⟩ (by decide)

set_option maxHeartbeats 1000000 in
theorem q_failedCommand__x {g : GG} {X : va_W} {T : TT} {I : II} {x : Nat} (hcl : isCl T x) (he : I x 11 = -1) : Mx g yX9_failedCommand cX9_failedCommand 1 (some .int) 8 1 6 [.ref x] X T I No (Th (exc 1) X T I) := by
  have hd := hcl.2.1
  refine Mx.of (by decide) (Nat.le_of_ble_eq_true rfl) (fun k hfl hxt C => ?_)
  refine r_lo (lo' := [(0, _)]) rfl ?_
  refine r_aload_n (pc := 0) C 0 dX9_failedCommand_0 rfl rfl ?_
  refine r_getI (pc := 1) C f_X9_61 hcl.1 rfl dX9_failedCommand_1 ?_
  refine r_iconstm (pc := 4) C dX9_failedCommand_4 rfl ?_
  refine r_cne (pc := 5) (tgt := 19) C dX9_failedCommand_5 rfl (fun c_5 => False.elim (by exact c_5 he)) (fun c_5 => ?_)
  exact r_thrW (pc := 8) (tx := "no command failed") (sa := 729) C hfl hxt ex_119 (by decide) (Nat.le_of_ble_eq_true rfl) (by decide) dX9_failedCommand_8 dX9_failedCommand_11 dX9_failedCommand_12 dX9_failedCommand_15 dX9_failedCommand_18 ⟨rfl, rfl, rfl, rfl⟩

set_option maxHeartbeats 1000000 in
theorem q_append__o {g : GG} {X : va_W} {T : TT} {I : II} {x : Nat} (hcl : isCl T x) {q n : Nat} (hq : 32 ≤ q ∧ q ≤ 126) (hn : I x 8 = nI n) (h60 : n < 60) : Mx g yX9_append cX9_append 2 (some .int) 8 0 0 [.ref x, .int (nI q)] X T I (Ex (some (.int (nI (n + 1)))) X T (u2 (u2 I (x + 510) n (nI q)) x 8 (nI (n + 1)))) NoX := by
  have hd := hcl.2.1
  refine Mx.of (by decide) (Nat.le_of_ble_eq_true rfl) (fun k hfl hxt C => ?_)
  refine r_lo (lo' := [(0, _), (1, _)]) rfl ?_
  refine r_iload_n (pc := 0) C 1 dX9_append_0 rfl rfl ?_
  refine r_bipush (pc := 1) (v := 32) C dX9_append_1 rfl ?_
  refine r_cltN (pc := 3) (tgt := 12) C dX9_append_3 rfl (by omega) (by omega) (fun c_3 => False.elim (by omega)) (fun c_3 => ?_)
  refine r_iload_n (pc := 6) C 1 dX9_append_6 rfl rfl ?_
  refine r_bipush (pc := 7) (v := 126) C dX9_append_7 rfl ?_
  refine r_cleN (pc := 9) (tgt := 23) C dX9_append_9 rfl (by omega) (by omega) (fun c_9 => ?_) (fun c_9 => False.elim (by omega))
  refine r_aload_n (pc := 23) C 0 dX9_append_23 rfl rfl ?_
  refine r_getI (pc := 24) C f_X9_50 hcl.1 rfl dX9_append_24 ?_
  refine r_t (y := nI n) hn ?_
  refine r_bipush (pc := 27) (v := 60) C dX9_append_27 rfl ?_
  refine r_cltN (pc := 29) (tgt := 43) C dX9_append_29 rfl (by omega) (by omega) (fun c_29 => ?_) (fun c_29 => False.elim (by omega))
  refine r_aload_n (pc := 43) C 0 dX9_append_43 rfl rfl ?_
  refine r_getR (pc := 44) (x := x + 510) C f_X9_39 hcl.1 rfl rfl dX9_append_44 ?_
  refine r_aload_n (pc := 47) C 0 dX9_append_47 rfl rfl ?_
  refine r_getI (pc := 48) C f_X9_50 hcl.1 rfl dX9_append_48 ?_
  refine r_t (y := nI n) hn ?_
  refine r_iload_n (pc := 51) C 1 dX9_append_51 rfl rfl ?_
  refine r_cast (pc := 52) (x := n) C hcl.2.2.2.2.2.2.2 rfl (by omega) (by decide) (nar_c (by omega)) dX9_append_52 ?_
  refine r_aload_n (pc := 53) C 0 dX9_append_53 rfl rfl ?_
  refine r_dup (pc := 54) C dX9_append_54 rfl ?_
  refine r_getI (pc := 55) C f_X9_50 hcl.1 rfl dX9_append_55 ?_
  refine r_t (y := nI n) ((congrFun (u2_r (by omega)) 8).trans hn) ?_
  refine r_iconst (pc := 58) (v := 1) C dX9_append_58 rfl ?_
  refine r_iaddN (pc := 59) C dX9_append_59 ?_
  refine r_putI (pc := 60) C f_X9_50 hcl.1 rfl rfl rfl dX9_append_60 ?_
  refine r_aload_n (pc := 63) C 0 dX9_append_63 rfl rfl ?_
  refine r_getI (pc := 64) C f_X9_50 hcl.1 rfl dX9_append_64 ?_
  refine r_t (y := nI ((n + 1))) u2_g ?_
  refine r_xret ?_
  exact r_iret (pc := 67) C dX9_append_67 ⟨rfl, rfl, rfl, rfl⟩ (by decide)

set_option maxHeartbeats 1000000 in
theorem q_append__x1 {g : GG} {X : va_W} {T : TT} {I : II} {x : Nat} (hcl : isCl T x) {q : Int32} (hq : ¬ okR 32 126 q) : Mx g yX9_append cX9_append 2 (some .int) 8 1 6 [.ref x, .int q] X T I No (Th (exc 3) X T I) := by
  have hd := hcl.2.1
  refine Mx.of (by decide) (Nat.le_of_ble_eq_true rfl) (fun k hfl hxt C => ?_)
  refine r_lo (lo' := [(0, _), (1, _)]) rfl ?_
  refine r_iload_n (pc := 0) C 1 dX9_append_0 rfl rfl ?_
  refine r_bipush (pc := 1) (v := 32) C dX9_append_1 rfl ?_
  refine r_clt (pc := 3) (tgt := 12) C dX9_append_3 rfl (fun c_3 => ?_) (fun c_3 => ?_)
  · skip
    exact r_thrW (pc := 12) (tx := "the character is out of range") (sa := 686) C hfl hxt ex_137 (by decide) (Nat.le_of_ble_eq_true rfl) (by decide) dX9_append_12 dX9_append_15 dX9_append_16 dX9_append_19 dX9_append_22 ⟨rfl, rfl, rfl, rfl⟩
  · skip
    refine r_iload_n (pc := 6) C 1 dX9_append_6 rfl rfl ?_
    refine r_bipush (pc := 7) (v := 126) C dX9_append_7 rfl ?_
    refine r_cle (pc := 9) (tgt := 23) C dX9_append_9 rfl (fun c_9 => False.elim (by exact hq ⟨Int32.not_lt.mp c_3, c_9⟩)) (fun c_9 => ?_)
    exact r_thrW (pc := 12) (tx := "the character is out of range") (sa := 686) C hfl hxt ex_137 (by decide) (Nat.le_of_ble_eq_true rfl) (by decide) dX9_append_12 dX9_append_15 dX9_append_16 dX9_append_19 dX9_append_22 ⟨rfl, rfl, rfl, rfl⟩

set_option maxHeartbeats 1000000 in
theorem q_append__x2 {g : GG} {X : va_W} {T : TT} {I : II} {x : Nat} (hcl : isCl T x) {q : Int32} (hq : okR 32 126 q) (hn : I x 8 = nI 60) : Mx g yX9_append cX9_append 2 (some .int) 8 1 6 [.ref x, .int q] X T I No (Th (exc 4) X T I) := by
  have hd := hcl.2.1
  refine Mx.of (by decide) (Nat.le_of_ble_eq_true rfl) (fun k hfl hxt C => ?_)
  refine r_lo (lo' := [(0, _), (1, _)]) rfl ?_
  refine r_iload_n (pc := 0) C 1 dX9_append_0 rfl rfl ?_
  refine r_bipush (pc := 1) (v := 32) C dX9_append_1 rfl ?_
  refine r_clt (pc := 3) (tgt := 12) C dX9_append_3 rfl (fun c_3 => False.elim (by exact absurd hq.1 (Int32.not_le.mpr c_3))) (fun c_3 => ?_)
  refine r_iload_n (pc := 6) C 1 dX9_append_6 rfl rfl ?_
  refine r_bipush (pc := 7) (v := 126) C dX9_append_7 rfl ?_
  refine r_cle (pc := 9) (tgt := 23) C dX9_append_9 rfl (fun c_9 => ?_) (fun c_9 => False.elim (by exact c_9 hq.2))
  refine r_aload_n (pc := 23) C 0 dX9_append_23 rfl rfl ?_
  refine r_getI (pc := 24) C f_X9_50 hcl.1 rfl dX9_append_24 ?_
  refine r_t (y := nI 60) hn ?_
  refine r_bipush (pc := 27) (v := 60) C dX9_append_27 rfl ?_
  refine r_cltN (pc := 29) (tgt := 43) C dX9_append_29 rfl (by omega) (by omega) (fun c_29 => False.elim (by omega)) (fun c_29 => ?_)
  exact r_thrW (pc := 32) (tx := "the input buffer is full") (sa := 688) C hfl hxt ex_145 (by decide) (Nat.le_of_ble_eq_true rfl) (by decide) dX9_append_32 dX9_append_35 dX9_append_36 dX9_append_39 dX9_append_42 ⟨rfl, rfl, rfl, rfl⟩

set_option maxHeartbeats 1000000 in
theorem q_undo__x {g : GG} {X : va_W} {T : TT} {I : II} {x : Nat} (hcl : isCl T x) (hc1 : I (x + 169) 0 = nI 0) : Mx g yX9_undo cX9_undo 1 (some .int) 8 1 6 [.ref x] X T I No (Th (exc 4) X T I) := by
  have hd := hcl.2.1
  refine Mx.of (by decide) (Nat.le_of_ble_eq_true rfl) (fun k hfl hxt C => ?_)
  refine r_lo (lo' := [(0, _)]) rfl ?_
  refine r_aload_n (pc := 0) C 0 dX9_undo_0 rfl rfl ?_
  refine r_getR (pc := 1) (x := x + 169) C f_X9_28 hcl.1 rfl rfl dX9_undo_1 ?_
  refine r_getI (pc := 4) C f_X9_431 hcl.2.2.2.2.2.1.1 rfl dX9_undo_4 ?_
  refine r_t (y := nI 0) hc1 ?_
  refine r_ifneN (pc := 7) (tgt := 21) C dX9_undo_7 rfl (by omega) (fun c_7 => False.elim (by omega)) (fun c_7 => ?_)
  exact r_thrW (pc := 10) (tx := "no change can be undone") (sa := 734) C hfl hxt ex_145 (by decide) (Nat.le_of_ble_eq_true rfl) (by decide) dX9_undo_10 dX9_undo_13 dX9_undo_14 dX9_undo_17 dX9_undo_20 ⟨rfl, rfl, rfl, rfl⟩

set_option maxHeartbeats 1000000 in
theorem q_undo__o {g : GG} {X : va_W} {T : TT} {I : II} {x : Nat} (hcl : isCl T x) {n c m : Nat} (hn : n < 8) (hc : c ≤ 8) (hc0 : 0 < c) (hm : (0 < n ∧ m = n - 1) ∨ (n = 0 ∧ m = 7)) (hn1 : I (x + 169) 1 = nI n) (hc1 : I (x + 169) 0 = nI c) {w : Nat → Int32} {B N E : Nat} {pa pb : Nat → Nat} (hV : DV I (x + 169 + 2 + 42 * m) w B N E pb) (hpa : PmOk I (x + 1) pa) (hB : w 1 = nI B) (hN : w 2 = nI N) : Mx g yX9_undo cX9_undo 1 (some .int) 8 0 0 [.ref x] X T I (fun r X' T' I' => r = some (.int (nI (c - 1))) ∧ HT I (x + 169) m c (x + 1) X T w B N E pa none X' T' I') NoX := by
  have hd := hcl.2.1
  refine Mx.of (by decide) (Nat.le_of_ble_eq_true rfl) (fun k hfl hxt C => ?_)
  refine r_lo (lo' := [(0, _)]) rfl ?_
  refine r_aload_n (pc := 0) C 0 dX9_undo_0 rfl rfl ?_
  refine r_getR (pc := 1) (x := x + 169) C f_X9_28 hcl.1 rfl rfl dX9_undo_1 ?_
  refine r_getI (pc := 4) C f_X9_431 hcl.2.2.2.2.2.1.1 rfl dX9_undo_4 ?_
  refine r_t (y := nI c) hc1 ?_
  refine r_ifneN (pc := 7) (tgt := 21) C dX9_undo_7 rfl (by omega) (fun c_7 => ?_) (fun c_7 => False.elim (by omega))
  refine r_aload_n (pc := 21) C 0 dX9_undo_21 rfl rfl ?_
  refine r_getR (pc := 22) (x := x + 169) C f_X9_28 hcl.1 rfl rfl dX9_undo_22 ?_
  refine r_aload_n (pc := 25) C 0 dX9_undo_25 rfl rfl ?_
  refine r_getR (pc := 26) (x := x + 1) C f_X9_10 hcl.1 rfl rfl dX9_undo_26 ?_
  refine r_callV (pc := 29) C hfl k_X9_436 (c_X5_takeBack__s hcl.2.2.2.2.2.1 hn hc hc0 hm hn1 hc1 hd hV hpa (by omega) hB hN) hcl.2.2.2.2.2.1.1 ca_X5 rfl rfl (Nat.le_of_ble_eq_true rfl) (by decide) (by decide) dX9_undo_29 (fun r3 X3 T3 I3 h3 => ?_)
  obtain ⟨rfl, rfl, rfl, I1, hW3, rfl⟩ := h3
  refine r_st (st' := _) rfl ?_
  refine r_aload_n (pc := 32) C 0 dX9_undo_32 rfl rfl ?_
  refine r_getR (pc := 33) (x := x + 169) C f_X9_28 hcl.1 rfl rfl dX9_undo_33 ?_
  refine r_getI (pc := 36) C f_X9_431 hcl.2.2.2.2.2.1.1 rfl dX9_undo_36 ?_
  refine r_t (y := nI ((c - 1))) u2_g ?_
  refine r_xret ?_
  exact r_iret (pc := 39) C dX9_undo_39 ⟨rfl, rfl, rfl, rfl, I1, hW3, rfl⟩ (by decide)

set_option maxHeartbeats 1000000 in
theorem q_save {g : GG} {X : va_W} {T : TT} {I : II} {x : Nat} (hcl : isCl T x) {w : Nat → Int32} {B N E : Nat} {pa pb : Nat → Nat} (hB : w 1 = nI B) (hN : w 2 = nI N) (hV : DV I (x + 1) w B N E pb) (hpa : PmOk I (x + 127) pa) : Mx g yX9_save cX9_save 1 (some .int) 8 0 0 [.ref x] X T I (fun r X' T' I' => r = some (.int (nI N)) ∧ X' = X ∧ T' = T ∧ ∃ J1, DW I J1 (x + 127) w B N E pa (I (x + 127) 9) ∧ I' = u2 J1 x 9 (nI 1)) NoX := by
  have hd := hcl.2.1
  refine Mx.of (by decide) (Nat.le_of_ble_eq_true rfl) (fun k hfl hxt C => ?_)
  refine r_lo (lo' := [(0, _)]) rfl ?_
  refine r_aload_n (pc := 0) C 0 dX9_save_0 rfl rfl ?_
  refine r_getR (pc := 1) (x := x + 127) C f_X9_22 hcl.1 rfl rfl dX9_save_1 ?_
  refine r_aload_n (pc := 4) C 0 dX9_save_4 rfl rfl ?_
  refine r_getR (pc := 5) (x := x + 1) C f_X9_10 hcl.1 rfl rfl dX9_save_5 ?_
  refine r_callV (pc := 8) C hfl k_X9_64 (c_X3_copyFrom hcl.2.2.2.2.1 hd hV hpa (by omega) hB hN) (Dk_0 hcl.2.2.2.2.1) ca_X3 rfl rfl (Nat.le_of_ble_eq_true rfl) (by decide) (by decide) dX9_save_8 (fun r1 X1 T1 J1 h1 => ?_)
  obtain ⟨rfl, rfl, rfl, hW1⟩ := h1
  refine r_st (st' := _) rfl ?_
  refine r_aload_n (pc := 11) C 0 dX9_save_11 rfl rfl ?_
  refine r_iconst (pc := 12) (v := 1) C dX9_save_12 rfl ?_
  refine r_putI (pc := 13) C f_X9_54 hcl.1 rfl rfl rfl dX9_save_13 ?_
  refine r_aload_n (pc := 16) C 0 dX9_save_16 rfl rfl ?_
  refine r_getR (pc := 17) (x := x + 1) C f_X9_10 hcl.1 rfl rfl dX9_save_17 ?_
  refine r_getI (pc := 20) C f_X9_200 ((Dk_0 hd)) rfl dX9_save_20 ?_
  refine r_t (y := nI N) ((congrFun (u2_r (by omega)) 3).trans (((hV.mv (fun y hy => hW1.1 y (by omega))).get at_loanTotal).trans hN)) ?_
  refine r_xret ?_
  exact r_iret (pc := 23) C dX9_save_23 ⟨rfl, rfl, rfl, J1, hW1, rfl⟩ (by decide)

set_option maxHeartbeats 1000000 in
theorem q_restore__x {g : GG} {X : va_W} {T : TT} {I : II} {x : Nat} (hcl : isCl T x) (hs : I x 9 = nI 0) : Mx g yX9_restore cX9_restore 1 (some .int) 8 1 6 [.ref x] X T I No (Th (exc 4) X T I) := by
  have hd := hcl.2.1
  refine Mx.of (by decide) (Nat.le_of_ble_eq_true rfl) (fun k hfl hxt C => ?_)
  refine r_lo (lo' := [(0, _)]) rfl ?_
  refine r_aload_n (pc := 0) C 0 dX9_restore_0 rfl rfl ?_
  refine r_getI (pc := 1) C f_X9_54 hcl.1 rfl dX9_restore_1 ?_
  refine r_t (y := nI 0) hs ?_
  refine r_ifneN (pc := 4) (tgt := 18) C dX9_restore_4 rfl (by omega) (fun c_4 => False.elim (by omega)) (fun c_4 => ?_)
  exact r_thrW (pc := 7) (tx := "there is no saved copy") (sa := 739) C hfl hxt ex_145 (by decide) (Nat.le_of_ble_eq_true rfl) (by decide) dX9_restore_7 dX9_restore_10 dX9_restore_11 dX9_restore_14 dX9_restore_17 ⟨rfl, rfl, rfl, rfl⟩

set_option maxHeartbeats 1000000 in
theorem q_restore__o {g : GG} {X : va_W} {T : TT} {I : II} {x : Nat} (hcl : isCl T x) {w : Nat → Int32} {B N E : Nat} {pa pb : Nat → Nat} (hB : w 1 = nI B) (hN : w 2 = nI N) (hs : I x 9 = nI 1) (hV : DV I (x + 127) w B N E pb) (hpa : PmOk I (x + 1) pa) : Mx g yX9_restore cX9_restore 1 (some .int) 8 0 0 [.ref x] X T I (fun r X' T' I' => r = some (.int (nI N)) ∧ X' = X ∧ T' = T ∧ ∃ J1, DW I J1 (x + 1) w B N E pa (I (x + 1) 9) ∧ I' = u2 J1 (x + 169) 0 (nI 0)) NoX := by
  have hd := hcl.2.1
  refine Mx.of (by decide) (Nat.le_of_ble_eq_true rfl) (fun k hfl hxt C => ?_)
  refine r_lo (lo' := [(0, _)]) rfl ?_
  refine r_aload_n (pc := 0) C 0 dX9_restore_0 rfl rfl ?_
  refine r_getI (pc := 1) C f_X9_54 hcl.1 rfl dX9_restore_1 ?_
  refine r_t (y := nI 1) hs ?_
  refine r_ifneN (pc := 4) (tgt := 18) C dX9_restore_4 rfl (by omega) (fun c_4 => ?_) (fun c_4 => False.elim (by omega))
  refine r_aload_n (pc := 18) C 0 dX9_restore_18 rfl rfl ?_
  refine r_getR (pc := 19) (x := x + 1) C f_X9_10 hcl.1 rfl rfl dX9_restore_19 ?_
  refine r_aload_n (pc := 22) C 0 dX9_restore_22 rfl rfl ?_
  refine r_getR (pc := 23) (x := x + 127) C f_X9_22 hcl.1 rfl rfl dX9_restore_23 ?_
  refine r_callV (pc := 26) C hfl k_X9_64 (c_X3_copyFrom hd hcl.2.2.2.2.1 hV hpa (by omega) hB hN) (Dk_0 hd) ca_X3 rfl rfl (Nat.le_of_ble_eq_true rfl) (by decide) (by decide) dX9_restore_26 (fun r1 X1 T1 J1 h1 => ?_)
  obtain ⟨rfl, rfl, rfl, hW1⟩ := h1
  refine r_st (st' := _) rfl ?_
  refine r_aload_n (pc := 29) C 0 dX9_restore_29 rfl rfl ?_
  refine r_getR (pc := 30) (x := x + 169) C f_X9_28 hcl.1 rfl rfl dX9_restore_30 ?_
  refine r_cVv (pc := 33) C hfl k_X9_441 (c_X5_forgetAll hcl.2.2.2.2.2.1) hcl.2.2.2.2.2.1.1 ca_X5 rfl rfl (Nat.le_of_ble_eq_true rfl) (by decide) (by decide) dX9_restore_33 ?_
  refine r_aload_n (pc := 36) C 0 dX9_restore_36 rfl rfl ?_
  refine r_getR (pc := 37) (x := x + 1) C f_X9_10 hcl.1 rfl rfl dX9_restore_37 ?_
  refine r_getI (pc := 40) C f_X9_200 ((Dk_0 hd)) rfl dX9_restore_40 ?_
  refine r_t (y := nI N) ((congrFun (u2_r (by omega)) 3).trans ((hW1.get at_loanTotal).trans hN)) ?_
  refine r_xret ?_
  exact r_iret (pc := 43) C dX9_restore_43 ⟨rfl, rfl, rfl, J1, hW1, rfl⟩ (by decide)
