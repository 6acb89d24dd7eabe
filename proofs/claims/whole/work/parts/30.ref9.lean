set_option maxHeartbeats 1000000 in
theorem c_failsI {g : GG} {X : va_W} {T : TT} {I : II} {M : Nat} (hm : isMd T M) {c : Int32} : Mc g yX10_fails cX10_fails 2 (some .int) 1 0 0 [.ref M, .int c] X T I (Ex (some (.int (nI 0))) X T (u2 I M 0 c)) := by
  refine Mc.of (by decide) (Nat.le_of_ble_eq_true rfl) (fun k hfl C => ?_)
  refine r_lo (lo' := [(0, _), (1, _)]) rfl ?_
  refine r_aload_n (pc := 0) C 0 dX10_fails_0 rfl rfl ?_
  refine r_iload_n (pc := 1) C 1 dX10_fails_1 rfl rfl ?_
  refine r_putI (pc := 2) C f_X10_1 hm.1 rfl rfl rfl dX10_fails_2 ?_
  refine r_iconst (pc := 5) (v := 0) C dX10_fails_5 rfl ?_
  exact r_iret (pc := 6) C dX10_fails_6 ⟨rfl, rfl, rfl, rfl⟩ (by decide)

set_option maxHeartbeats 1000000 in
theorem c_undoableCount {g : GG} {X : va_W} {T : TT} {I : II} {M : Nat} (hm : isMd T M)  : Mc g yX10_undoableCount cX10_undoableCount 1 (some .int) 6 0 0 [.ref M] X T I (Ex (some (.int (I M 5))) X T (u2 I M 0 (nI 0))) := by
  refine Mc.of (by decide) (Nat.le_of_ble_eq_true rfl) (fun k hfl C => ?_)
  refine r_lo (lo' := [(0, _)]) rfl ?_
  refine r_aload_n (pc := 0) C 0 dX10_undoableCount_0 rfl rfl ?_
  refine r_iconst (pc := 1) (v := 0) C dX10_undoableCount_1 rfl ?_
  refine r_putI (pc := 2) C f_X10_1 hm.1 rfl rfl rfl dX10_undoableCount_2 ?_
  refine r_aload_n (pc := 5) C 0 dX10_undoableCount_5 rfl rfl ?_
  refine r_getI (pc := 6) C f_X10_42 hm.1 rfl dX10_undoableCount_6 ?_
  refine r_t (y := I M 5) (u2_o (by decide)) ?_
  exact r_iret (pc := 9) C dX10_undoableCount_9 ⟨rfl, rfl, rfl, rfl⟩ (by decide)

set_option maxHeartbeats 1000000 in
theorem c_errorPosition__v {g : GG} {X : va_W} {T : TT} {I : II} {M : Nat} (hm : isMd T M) {e : Nat} (he : I M 13 = nI e) (hb : e < 2 ^ 31) : Mc g yX10_errorPosition cX10_errorPosition 1 (some .int) 6 0 0 [.ref M] X T I (Ex (some (.int (nI e))) X T (u2 I M 0 (nI 0))) := by
  refine Mc.of (by decide) (Nat.le_of_ble_eq_true rfl) (fun k hfl C => ?_)
  refine r_lo (lo' := [(0, _)]) rfl ?_
  refine r_aload_n (pc := 0) C 0 dX10_errorPosition_0 rfl rfl ?_
  refine r_iconst (pc := 1) (v := 0) C dX10_errorPosition_1 rfl ?_
  refine r_putI (pc := 2) C f_X10_1 hm.1 rfl rfl rfl dX10_errorPosition_2 ?_
  refine r_aload_n (pc := 5) C 0 dX10_errorPosition_5 rfl rfl ?_
  refine r_getI (pc := 6) C f_X10_33 hm.1 rfl dX10_errorPosition_6 ?_
  refine r_t (y := nI e) ((u2_o (by decide)).trans he) ?_
  refine r_ifgeN (pc := 9) (tgt := 20) C dX10_errorPosition_9 rfl hb ?_
  refine r_aload_n (pc := 20) C 0 dX10_errorPosition_20 rfl rfl ?_
  refine r_getI (pc := 21) C f_X10_33 hm.1 rfl dX10_errorPosition_21 ?_
  refine r_t (y := nI e) ((u2_o (by decide)).trans he) ?_
  exact r_iret (pc := 24) C dX10_errorPosition_24 ⟨rfl, rfl, rfl, rfl⟩ (by decide)

set_option maxHeartbeats 1000000 in
theorem c_errorPosition__x {g : GG} {X : va_W} {T : TT} {I : II} {M : Nat} (hm : isMd T M) (he : I M 13 = -1) : Mc g yX10_errorPosition cX10_errorPosition 1 (some .int) 6 0 0 [.ref M] X T I (Ex (some (.int (nI 0))) X T (u2 I M 0 (nI 1))) := by
  refine Mc.of (by decide) (Nat.le_of_ble_eq_true rfl) (fun k hfl C => ?_)
  refine r_lo (lo' := [(0, _)]) rfl ?_
  refine r_aload_n (pc := 0) C 0 dX10_errorPosition_0 rfl rfl ?_
  refine r_iconst (pc := 1) (v := 0) C dX10_errorPosition_1 rfl ?_
  refine r_putI (pc := 2) C f_X10_1 hm.1 rfl rfl rfl dX10_errorPosition_2 ?_
  refine r_aload_n (pc := 5) C 0 dX10_errorPosition_5 rfl rfl ?_
  refine r_getI (pc := 6) C f_X10_33 hm.1 rfl dX10_errorPosition_6 ?_
  refine r_t (y := -1) ((u2_o (by decide)).trans he) ?_
  refine r_ifge (pc := 9) (tgt := 20) C dX10_errorPosition_9 rfl (fun c => absurd c (by decide)) (fun _ => ?_)
  refine r_aload_n (pc := 12) C 0 dX10_errorPosition_12 rfl rfl ?_
  refine r_iconst (pc := 13) (v := 1) C dX10_errorPosition_13 rfl ?_
  refine r_cVi (pc := 14) C hfl k_X10_79 (c_failsI hm) hm.1 ca_X10 rfl rfl (Nat.le_of_ble_eq_true rfl) (by decide) (by decide) dX10_errorPosition_14 ?_
  refine r_goto (pc := 17) (tgt := 24) C dX10_errorPosition_17 rfl ?_
  exact r_iret (pc := 24) C dX10_errorPosition_24 ⟨rfl, rfl, rfl, by rw [u2_u2]⟩ (by decide)

set_option maxHeartbeats 1000000 in
theorem c_failedCommand__v {g : GG} {X : va_W} {T : TT} {I : II} {M : Nat} (hm : isMd T M) {e : Nat} (he : I M 14 = nI e) (hb : e < 2 ^ 31) : Mc g yX10_failedCommand cX10_failedCommand 1 (some .int) 6 0 0 [.ref M] X T I (Ex (some (.int (nI e))) X T (u2 I M 0 (nI 0))) := by
  refine Mc.of (by decide) (Nat.le_of_ble_eq_true rfl) (fun k hfl C => ?_)
  refine r_lo (lo' := [(0, _)]) rfl ?_
  refine r_aload_n (pc := 0) C 0 dX10_failedCommand_0 rfl rfl ?_
  refine r_iconst (pc := 1) (v := 0) C dX10_failedCommand_1 rfl ?_
  refine r_putI (pc := 2) C f_X10_1 hm.1 rfl rfl rfl dX10_failedCommand_2 ?_
  refine r_aload_n (pc := 5) C 0 dX10_failedCommand_5 rfl rfl ?_
  refine r_getI (pc := 6) C f_X10_36 hm.1 rfl dX10_failedCommand_6 ?_
  refine r_t (y := nI e) ((u2_o (by decide)).trans he) ?_
  refine r_ifgeN (pc := 9) (tgt := 20) C dX10_failedCommand_9 rfl hb ?_
  refine r_aload_n (pc := 20) C 0 dX10_failedCommand_20 rfl rfl ?_
  refine r_getI (pc := 21) C f_X10_36 hm.1 rfl dX10_failedCommand_21 ?_
  refine r_t (y := nI e) ((u2_o (by decide)).trans he) ?_
  exact r_iret (pc := 24) C dX10_failedCommand_24 ⟨rfl, rfl, rfl, rfl⟩ (by decide)

set_option maxHeartbeats 1000000 in
theorem c_failedCommand__x {g : GG} {X : va_W} {T : TT} {I : II} {M : Nat} (hm : isMd T M) (he : I M 14 = -1) : Mc g yX10_failedCommand cX10_failedCommand 1 (some .int) 6 0 0 [.ref M] X T I (Ex (some (.int (nI 0))) X T (u2 I M 0 (nI 1))) := by
  refine Mc.of (by decide) (Nat.le_of_ble_eq_true rfl) (fun k hfl C => ?_)
  refine r_lo (lo' := [(0, _)]) rfl ?_
  refine r_aload_n (pc := 0) C 0 dX10_failedCommand_0 rfl rfl ?_
  refine r_iconst (pc := 1) (v := 0) C dX10_failedCommand_1 rfl ?_
  refine r_putI (pc := 2) C f_X10_1 hm.1 rfl rfl rfl dX10_failedCommand_2 ?_
  refine r_aload_n (pc := 5) C 0 dX10_failedCommand_5 rfl rfl ?_
  refine r_getI (pc := 6) C f_X10_36 hm.1 rfl dX10_failedCommand_6 ?_
  refine r_t (y := -1) ((u2_o (by decide)).trans he) ?_
  refine r_ifge (pc := 9) (tgt := 20) C dX10_failedCommand_9 rfl (fun c => absurd c (by decide)) (fun _ => ?_)
  refine r_aload_n (pc := 12) C 0 dX10_failedCommand_12 rfl rfl ?_
  refine r_iconst (pc := 13) (v := 1) C dX10_failedCommand_13 rfl ?_
  refine r_cVi (pc := 14) C hfl k_X10_79 (c_failsI hm) hm.1 ca_X10 rfl rfl (Nat.le_of_ble_eq_true rfl) (by decide) (by decide) dX10_failedCommand_14 ?_
  refine r_goto (pc := 17) (tgt := 24) C dX10_failedCommand_17 rfl ?_
  exact r_iret (pc := 24) C dX10_failedCommand_24 ⟨rfl, rfl, rfl, by rw [u2_u2]⟩ (by decide)

set_option maxHeartbeats 1000000 in
theorem c_undo__x {g : GG} {X : va_W} {T : TT} {I : II} {M : Nat} (hm : isMd T M) (hc : I M 5 = nI 0) : Mc g yX10_undo cX10_undo 3 (some .int) 6 0 0 [.ref M] X T I (Ex (some (.int (nI 0))) X T (u2 I M 0 (nI 1))) := by
  refine Mc.of (by decide) (Nat.le_of_ble_eq_true rfl) (fun k hfl C => ?_)
  refine r_lo (lo' := [(0, _)]) rfl ?_
  refine r_aload_n (pc := 0) C 0 dX10_undo_0 rfl rfl ?_
  refine r_iconst (pc := 1) (v := 0) C dX10_undo_1 rfl ?_
  refine r_putI (pc := 2) C f_X10_1 hm.1 rfl rfl rfl dX10_undo_2 ?_
  refine r_aload_n (pc := 5) C 0 dX10_undo_5 rfl rfl ?_
  refine r_getI (pc := 6) C f_X10_42 hm.1 rfl dX10_undo_6 ?_
  refine r_t (y := nI 0) ((u2_o (by decide)).trans hc) ?_
  refine r_ifneN (pc := 9) (tgt := 18) C dX10_undo_9 rfl (by omega) (fun c_9 => False.elim (by omega)) (fun c_9 => ?_)
  refine r_aload_n (pc := 12) C 0 dX10_undo_12 rfl rfl ?_
  refine r_iconst (pc := 13) (v := 1) C dX10_undo_13 rfl ?_
  refine r_cVi (pc := 14) C hfl k_X10_79 (c_failsI hm) hm.1 ca_X10 rfl rfl (Nat.le_of_ble_eq_true rfl) (by decide) (by decide) dX10_undo_14 ?_
  exact r_iret (pc := 17) C dX10_undo_17 ⟨rfl, rfl, rfl, by rw [u2_u2]⟩ (by decide)

set_option maxHeartbeats 1000000 in
theorem c_undo__o {g : GG} {X : va_W} {T : TT} {I : II} {M : Nat} (hm : isMd T M) {c f : Nat} (hc : I M 5 = nI c) (hf : I M 6 = nI f) (hf8 : f < 8) (hc0 : 0 < c) (hc8 : c ≤ 8) : Mc g yX10_undo cX10_undo 3 (some .int) 6 0 0 [.ref M] X T I (Ex (some (.int (nI (c - 1)))) X T (unI I M c f)) := by
  refine Mc.of (by decide) (Nat.le_of_ble_eq_true rfl) (fun k hfl C => ?_)
  refine r_lo (lo' := [(0, _)]) rfl ?_
  refine r_aload_n (pc := 0) C 0 dX10_undo_0 rfl rfl ?_
  refine r_iconst (pc := 1) (v := 0) C dX10_undo_1 rfl ?_
  refine r_putI (pc := 2) C f_X10_1 hm.1 rfl rfl rfl dX10_undo_2 ?_
  refine r_aload_n (pc := 5) C 0 dX10_undo_5 rfl rfl ?_
  refine r_getI (pc := 6) C f_X10_42 hm.1 rfl dX10_undo_6 ?_
  refine r_t (y := nI c) ((u2_o (by decide)).trans hc) ?_
  refine r_ifneN (pc := 9) (tgt := 18) C dX10_undo_9 rfl (by omega) (fun c_9 => ?_) (fun c_9 => False.elim (by omega))
  refine r_aload_n (pc := 18) C 0 dX10_undo_18 rfl rfl ?_
  refine r_dup (pc := 19) C dX10_undo_19 rfl ?_
  refine r_getI (pc := 20) C f_X10_42 hm.1 rfl dX10_undo_20 ?_
  refine r_t (y := nI c) ((u2_o (by decide)).trans hc) ?_
  refine r_iconst (pc := 23) (v := 1) C dX10_undo_23 rfl ?_
  refine r_isub (pc := 24) C dX10_undo_24 ?_
  refine r_t (y := nI ((c - 1))) (pk_sub (by omega)) ?_
  refine r_putI (pc := 25) C f_X10_42 hm.1 rfl rfl rfl dX10_undo_25 ?_
  refine r_aload_n (pc := 28) C 0 dX10_undo_28 rfl rfl ?_
  refine r_getI (pc := 29) C f_X10_45 hm.1 rfl dX10_undo_29 ?_
  refine r_t (y := nI f) ((u2_o (by decide)).trans ((u2_o (by decide)).trans hf)) ?_
  refine r_aload_n (pc := 32) C 0 dX10_undo_32 rfl rfl ?_
  refine r_getI (pc := 33) C f_X10_42 hm.1 rfl dX10_undo_33 ?_
  refine r_t (y := nI ((c - 1))) u2_g ?_
  refine r_iaddN (pc := 36) C dX10_undo_36 ?_
  refine r_bipush (pc := 37) (v := 8) C dX10_undo_37 rfl ?_
  refine r_iremN (pc := 39) C dX10_undo_39 (by omega) (by omega) (by omega) ?_
  refine r_istore_n (pc := 40) (lo' := [(1, _), (0, _)]) C dX10_undo_40 rfl (by decide) rfl ?_
  refine r_iconst (pc := 41) (v := 0) C dX10_undo_41 rfl ?_
  refine r_istore_n (pc := 42) (lo' := [(2, _), (1, _), (0, _)]) C dX10_undo_42 rfl (by decide) rfl ?_
  have loop_43 : ∀ (n_43 : Nat) (q : Nat), 218 - q < n_43 → (q ≤ 218) → Go g k 3 (Qm g k (Ex (some (.int (nI (c - 1)))) X T (unI I M c f)) 0 0) 0 0 43 [(0, .ref M), (1, .int (nI ((f + (c - 1)) % 8))), (2, .int (nI q))] [] X T ((sr (u2 (u2 I M 0 (nI 0)) M 5 (nI (c - 1))) (M + 1) (ins ((u2 (u2 I M 0 (nI 0)) M 5 (nI (c - 1))) (M + 1)) 0 (fun k => (u2 (u2 I M 0 (nI 0)) M 5 (nI (c - 1))) (M + 2) (218 * ((f + (c - 1)) % 8) + k)) q))) := by
    intro n_43
    induction n_43 with
    | zero => intro _ h_; exact absurd h_ (Nat.not_lt_zero _)
    | succ n_43 ih_43 =>
      intro q hq hqN
      refine r_iload_n (pc := 43) C 2 dX10_undo_43 rfl rfl ?_
      refine r_sipush (pc := 44) (v := 218) C dX10_undo_44 rfl ?_
      refine r_cgeN (pc := 47) (tgt := 74) C dX10_undo_47 rfl (by omega) (by omega) (fun c_47 => ?_) (fun c_47 => ?_)
      · skip
        refine r_aload_n (pc := 74) C 0 dX10_undo_74 rfl rfl ?_
        refine r_wget (pc := 75) (by omega) C f_X10_42 hm.1 rfl dX10_undo_75 ?_
        refine r_t (y := nI ((c - 1))) u2_g ?_
        exact r_iret (pc := 78) C dX10_undo_78 ⟨rfl, rfl, rfl, by rw [show q = 218 by omega]; rfl⟩ (by decide)
      · skip
        refine r_aload_n (pc := 50) C 0 dX10_undo_50 rfl rfl ?_
        refine r_getR (pc := 51) (x := M + 1) C f_X10_13 hm.1 rfl rfl dX10_undo_51 ?_
        refine r_iload_n (pc := 54) C 2 dX10_undo_54 rfl rfl ?_
        refine r_aload_n (pc := 55) C 0 dX10_undo_55 rfl rfl ?_
        refine r_getR (pc := 56) (x := M + 2) C f_X10_17 hm.1 rfl rfl dX10_undo_56 ?_
        refine r_sipush (pc := 59) (v := 218) C dX10_undo_59 rfl ?_
        refine r_iload_n (pc := 62) C 1 dX10_undo_62 rfl rfl ?_
        refine r_imulN (pc := 63) C dX10_undo_63 ?_
        refine r_iload_n (pc := 64) C 2 dX10_undo_64 rfl rfl ?_
        refine r_iaddN (pc := 65) C dX10_undo_65 ?_
        refine r_wld2 (pc := 66) (x := (218 * (((f + (c - 1)) % 8))) + q) (by omega) C hm.2.2.1 rfl (by omega) (by decide) dX10_undo_66 ?_
        refine r_wst (pc := 67) (x := q) C hm.2.1 rfl (by omega) (by decide) dX10_undo_67 ?_
        refine r_iincN (pc := 68) (m := 1) (lo' := [(2, _), (0, _), (1, _)]) C 2 dX10_undo_68 rfl rfl (by decide) rfl ?_
        refine r_goto (pc := 71) (tgt := 43) C dX10_undo_71 rfl ?_
        refine r_ls [1, 2, 0] rfl ?_
        refine r_I (I' := (sr (u2 (u2 I M 0 (nI 0)) M 5 (nI (c - 1))) (M + 1) (ins ((u2 (u2 I M 0 (nI 0)) M 5 (nI (c - 1))) (M + 1)) 0 (fun k => (u2 (u2 I M 0 (nI 0)) M 5 (nI (c - 1))) (M + 2) (218 * ((f + (c - 1)) % 8) + k)) (q + 1)))) (congrArg (sr _ (M + 1)) (by rw [← ins_s, Nat.zero_add])) ?_
        exact ih_43 (q + 1) (by omega) (by omega)
  refine r_ls [2, 1, 0] rfl ?_
  refine r_I (I' := (sr (u2 (u2 I M 0 (nI 0)) M 5 (nI (c - 1))) (M + 1) (ins ((u2 (u2 I M 0 (nI 0)) M 5 (nI (c - 1))) (M + 1)) 0 (fun k => (u2 (u2 I M 0 (nI 0)) M 5 (nI (c - 1))) (M + 2) (218 * ((f + (c - 1)) % 8) + k)) 0))) (by rw [ins_0, sr_id]) ?_
  exact loop_43 219 0 (by omega) (by omega)

set_option maxHeartbeats 1000000 in
theorem c_save {g : GG} {X : va_W} {T : TT} {I : II} {M : Nat} (hm : isMd T M)  : Mc g yX10_save cX10_save 2 (some .int) 6 0 0 [.ref M] X T I (Ex (some (.int (I (M + 1) 2))) X T (svI I M)) := by
  refine Mc.of (by decide) (Nat.le_of_ble_eq_true rfl) (fun k hfl C => ?_)
  refine r_lo (lo' := [(0, _)]) rfl ?_
  refine r_aload_n (pc := 0) C 0 dX10_save_0 rfl rfl ?_
  refine r_iconst (pc := 1) (v := 0) C dX10_save_1 rfl ?_
  refine r_putI (pc := 2) C f_X10_1 hm.1 rfl rfl rfl dX10_save_2 ?_
  refine r_iconst (pc := 5) (v := 0) C dX10_save_5 rfl ?_
  refine r_istore_n (pc := 6) (lo' := [(1, _), (0, _)]) C dX10_save_6 rfl (by decide) rfl ?_
  have loop_7 : ∀ (n_7 : Nat) (q : Nat), 218 - q < n_7 → (q ≤ 218) → Go g k 2 (Qm g k (Ex (some (.int (I (M + 1) 2))) X T (svI I M)) 0 0) 0 0 7 [(0, .ref M), (1, .int (nI q))] [] X T ((sr (u2 I M 0 (nI 0)) (M + 3) (ins ((u2 I M 0 (nI 0)) (M + 3)) 0 ((u2 I M 0 (nI 0)) (M + 1)) q))) := by
    intro n_7
    induction n_7 with
    | zero => intro _ h_; exact absurd h_ (Nat.not_lt_zero _)
    | succ n_7 ih_7 =>
      intro q hq hqN
      refine r_iload_n (pc := 7) C 1 dX10_save_7 rfl rfl ?_
      refine r_sipush (pc := 8) (v := 218) C dX10_save_8 rfl ?_
      refine r_cgeN (pc := 11) (tgt := 32) C dX10_save_11 rfl (by omega) (by omega) (fun c_11 => ?_) (fun c_11 => ?_)
      · skip
        refine r_aload_n (pc := 32) C 0 dX10_save_32 rfl rfl ?_
        refine r_iconst (pc := 33) (v := 1) C dX10_save_33 rfl ?_
        refine r_wput (pc := 34) (by omega) C f_X10_291 hm.1 rfl rfl rfl dX10_save_34 ?_
        refine r_aload_n (pc := 37) C 0 dX10_save_37 rfl rfl ?_
        refine r_getR (pc := 38) (x := M + 1) C f_X10_13 hm.1 rfl rfl dX10_save_38 ?_
        refine r_iconst (pc := 41) (v := 2) C dX10_save_41 rfl ?_
        refine r_wld2 (pc := 42) (x := 2) (by omega) C hm.2.1 rfl (by omega) (by decide) dX10_save_42 ?_
        refine r_t (y := I (M + 1) 2) (by rw [u2_r (by omega), u2_r (by omega)]) ?_
        exact r_iret (pc := 43) C dX10_save_43 ⟨rfl, rfl, rfl, by rw [show q = 218 by omega]; rfl⟩ (by decide)
      · skip
        refine r_aload_n (pc := 14) C 0 dX10_save_14 rfl rfl ?_
        refine r_getR (pc := 15) (x := M + 3) C f_X10_20 hm.1 rfl rfl dX10_save_15 ?_
        refine r_iload_n (pc := 18) C 1 dX10_save_18 rfl rfl ?_
        refine r_aload_n (pc := 19) C 0 dX10_save_19 rfl rfl ?_
        refine r_getR (pc := 20) (x := M + 1) C f_X10_13 hm.1 rfl rfl dX10_save_20 ?_
        refine r_iload_n (pc := 23) C 1 dX10_save_23 rfl rfl ?_
        refine r_wld2 (pc := 24) (x := q) (by omega) C hm.2.1 rfl (by omega) (by decide) dX10_save_24 ?_
        refine r_wst (pc := 25) (x := q) C hm.2.2.2.1 rfl (by omega) (by decide) dX10_save_25 ?_
        refine r_iincN (pc := 26) (m := 1) (lo' := [(1, _), (0, _)]) C 1 dX10_save_26 rfl rfl (by decide) rfl ?_
        refine r_goto (pc := 29) (tgt := 7) C dX10_save_29 rfl ?_
        refine r_ls [1, 0] rfl ?_
        refine r_I (I' := (sr (u2 I M 0 (nI 0)) (M + 3) (ins ((u2 I M 0 (nI 0)) (M + 3)) 0 ((u2 I M 0 (nI 0)) (M + 1)) (q + 1)))) (congrArg (sr _ (M + 3)) (by rw [← ins_s, Nat.zero_add])) ?_
        exact ih_7 (q + 1) (by omega) (by omega)
  refine r_ls [1, 0] rfl ?_
  refine r_I (I' := (sr (u2 I M 0 (nI 0)) (M + 3) (ins ((u2 I M 0 (nI 0)) (M + 3)) 0 ((u2 I M 0 (nI 0)) (M + 1)) 0))) (by rw [ins_0, sr_id]) ?_
  exact loop_7 219 0 (by omega) (by omega)

set_option maxHeartbeats 1000000 in
theorem c_restore__x {g : GG} {X : va_W} {T : TT} {I : II} {M : Nat} (hm : isMd T M) (h7 : I M 7 = nI 0) : Mc g yX10_restore cX10_restore 2 (some .int) 6 0 0 [.ref M] X T I (Ex (some (.int (nI 0))) X T (u2 I M 0 (nI 1))) := by
  refine Mc.of (by decide) (Nat.le_of_ble_eq_true rfl) (fun k hfl C => ?_)
  refine r_lo (lo' := [(0, _)]) rfl ?_
  refine r_aload_n (pc := 0) C 0 dX10_restore_0 rfl rfl ?_
  refine r_iconst (pc := 1) (v := 0) C dX10_restore_1 rfl ?_
  refine r_putI (pc := 2) C f_X10_1 hm.1 rfl rfl rfl dX10_restore_2 ?_
  refine r_aload_n (pc := 5) C 0 dX10_restore_5 rfl rfl ?_
  refine r_getI (pc := 6) C f_X10_291 hm.1 rfl dX10_restore_6 ?_
  refine r_t (y := nI 0) ((u2_o (by decide)).trans h7) ?_
  refine r_ifneN (pc := 9) (tgt := 18) C dX10_restore_9 rfl (by omega) (fun c_9 => False.elim (by omega)) (fun c_9 => ?_)
  refine r_aload_n (pc := 12) C 0 dX10_restore_12 rfl rfl ?_
  refine r_iconst (pc := 13) (v := 1) C dX10_restore_13 rfl ?_
  refine r_cVi (pc := 14) C hfl k_X10_79 (c_failsI hm) hm.1 ca_X10 rfl rfl (Nat.le_of_ble_eq_true rfl) (by decide) (by decide) dX10_restore_14 ?_
  exact r_iret (pc := 17) C dX10_restore_17 ⟨rfl, rfl, rfl, by rw [u2_u2]⟩ (by decide)

set_option maxHeartbeats 1000000 in
theorem c_restore__o {g : GG} {X : va_W} {T : TT} {I : II} {M : Nat} (hm : isMd T M) (h7 : I M 7 = nI 1) : Mc g yX10_restore cX10_restore 2 (some .int) 6 0 0 [.ref M] X T I (Ex (some (.int (I (M + 3) 2))) X T (rsI I M)) := by
  refine Mc.of (by decide) (Nat.le_of_ble_eq_true rfl) (fun k hfl C => ?_)
  refine r_lo (lo' := [(0, _)]) rfl ?_
  refine r_aload_n (pc := 0) C 0 dX10_restore_0 rfl rfl ?_
  refine r_iconst (pc := 1) (v := 0) C dX10_restore_1 rfl ?_
  refine r_putI (pc := 2) C f_X10_1 hm.1 rfl rfl rfl dX10_restore_2 ?_
  refine r_aload_n (pc := 5) C 0 dX10_restore_5 rfl rfl ?_
  refine r_getI (pc := 6) C f_X10_291 hm.1 rfl dX10_restore_6 ?_
  refine r_t (y := nI 1) ((u2_o (by decide)).trans h7) ?_
  refine r_ifneN (pc := 9) (tgt := 18) C dX10_restore_9 rfl (by omega) (fun c_9 => ?_) (fun c_9 => False.elim (by omega))
  refine r_iconst (pc := 18) (v := 0) C dX10_restore_18 rfl ?_
  refine r_istore_n (pc := 19) (lo' := [(1, _), (0, _)]) C dX10_restore_19 rfl (by decide) rfl ?_
  have loop_20 : ∀ (n_20 : Nat) (q : Nat), 218 - q < n_20 → (q ≤ 218) → Go g k 2 (Qm g k (Ex (some (.int (I (M + 3) 2))) X T (rsI I M)) 0 0) 0 0 20 [(0, .ref M), (1, .int (nI q))] [] X T ((sr (u2 I M 0 (nI 0)) (M + 1) (ins ((u2 I M 0 (nI 0)) (M + 1)) 0 ((u2 I M 0 (nI 0)) (M + 3)) q))) := by
    intro n_20
    induction n_20 with
    | zero => intro _ h_; exact absurd h_ (Nat.not_lt_zero _)
    | succ n_20 ih_20 =>
      intro q hq hqN
      refine r_iload_n (pc := 20) C 1 dX10_restore_20 rfl rfl ?_
      refine r_sipush (pc := 21) (v := 218) C dX10_restore_21 rfl ?_
      refine r_cgeN (pc := 24) (tgt := 45) C dX10_restore_24 rfl (by omega) (by omega) (fun c_24 => ?_) (fun c_24 => ?_)
      · skip
        refine r_aload_n (pc := 45) C 0 dX10_restore_45 rfl rfl ?_
        refine r_iconst (pc := 46) (v := 0) C dX10_restore_46 rfl ?_
        refine r_wput (pc := 47) (by omega) C f_X10_42 hm.1 rfl rfl rfl dX10_restore_47 ?_
        refine r_aload_n (pc := 50) C 0 dX10_restore_50 rfl rfl ?_
        refine r_iconst (pc := 51) (v := 0) C dX10_restore_51 rfl ?_
        refine r_wput (pc := 52) (by omega) C f_X10_45 hm.1 rfl rfl rfl dX10_restore_52 ?_
        refine r_aload_n (pc := 55) C 0 dX10_restore_55 rfl rfl ?_
        refine r_getR (pc := 56) (x := M + 1) C f_X10_13 hm.1 rfl rfl dX10_restore_56 ?_
        refine r_iconst (pc := 59) (v := 2) C dX10_restore_59 rfl ?_
        refine r_wld (pc := 60) (x := 2) C hm.2.1 rfl (by omega) (by decide) dX10_restore_60 ?_
        refine r_t (y := I (M + 3) 2) (by rw [show q = 218 by omega, ins, if_pos (by decide), u2_r (by omega)]) ?_
        exact r_iret (pc := 61) C dX10_restore_61 ⟨rfl, rfl, rfl, by rw [show q = 218 by omega]; rfl⟩ (by decide)
      · skip
        refine r_aload_n (pc := 27) C 0 dX10_restore_27 rfl rfl ?_
        refine r_getR (pc := 28) (x := M + 1) C f_X10_13 hm.1 rfl rfl dX10_restore_28 ?_
        refine r_iload_n (pc := 31) C 1 dX10_restore_31 rfl rfl ?_
        refine r_aload_n (pc := 32) C 0 dX10_restore_32 rfl rfl ?_
        refine r_getR (pc := 33) (x := M + 3) C f_X10_20 hm.1 rfl rfl dX10_restore_33 ?_
        refine r_iload_n (pc := 36) C 1 dX10_restore_36 rfl rfl ?_
        refine r_wld2 (pc := 37) (x := q) (by omega) C hm.2.2.2.1 rfl (by omega) (by decide) dX10_restore_37 ?_
        refine r_wst (pc := 38) (x := q) C hm.2.1 rfl (by omega) (by decide) dX10_restore_38 ?_
        refine r_iincN (pc := 39) (m := 1) (lo' := [(1, _), (0, _)]) C 1 dX10_restore_39 rfl rfl (by decide) rfl ?_
        refine r_goto (pc := 42) (tgt := 20) C dX10_restore_42 rfl ?_
        refine r_ls [1, 0] rfl ?_
        refine r_I (I' := (sr (u2 I M 0 (nI 0)) (M + 1) (ins ((u2 I M 0 (nI 0)) (M + 1)) 0 ((u2 I M 0 (nI 0)) (M + 3)) (q + 1)))) (congrArg (sr _ (M + 1)) (by rw [← ins_s, Nat.zero_add])) ?_
        exact ih_20 (q + 1) (by omega) (by omega)
  refine r_ls [1, 0] rfl ?_
  refine r_I (I' := (sr (u2 I M 0 (nI 0)) (M + 1) (ins ((u2 I M 0 (nI 0)) (M + 1)) 0 ((u2 I M 0 (nI 0)) (M + 3)) 0))) (by rw [ins_0, sr_id]) ?_
  exact loop_20 219 0 (by omega) (by omega)

set_option maxHeartbeats 1000000 in
theorem c_append__o {g : GG} {X : va_W} {T : TT} {I : II} {M : Nat} (hm : isMd T M) {q n : Nat} (hq : 32 ≤ q ∧ q ≤ 126) (hn : I M 11 = nI n) (h60 : n < 60) : Mc g yX10_append cX10_append 2 (some .int) 6 0 0 [.ref M, .int (nI q)] X T I (Ex (some (.int (nI (n + 1)))) X T (u2 (u2 (u2 I M 0 (nI 0)) (M + 6) n (nI q)) M 11 (nI (n + 1)))) := by
  refine Mc.of (by decide) (Nat.le_of_ble_eq_true rfl) (fun k hfl C => ?_)
  refine r_lo (lo' := [(0, _), (1, _)]) rfl ?_
  refine r_aload_n (pc := 0) C 0 dX10_append_0 rfl rfl ?_
  refine r_iconst (pc := 1) (v := 0) C dX10_append_1 rfl ?_
  refine r_putI (pc := 2) C f_X10_1 hm.1 rfl rfl rfl dX10_append_2 ?_
  refine r_iload_n (pc := 5) C 1 dX10_append_5 rfl rfl ?_
  refine r_bipush (pc := 6) (v := 32) C dX10_append_6 rfl ?_
  refine r_bipush (pc := 8) (v := 126) C dX10_append_8 rfl ?_
  refine r_cSi (pc := 10) C hfl k_X10_54 (c_isBetween _ _ _) rfl rfl (Nat.le_of_ble_eq_true rfl) (by decide) (by decide) dX10_append_10 ?_
  refine r_ifneB (pc := 13) (tgt := 22) C dX10_append_13 rfl (fun c_13 => ?_) (fun c_13 => False.elim (by exact c_13 ((okR_nI (by decide) (by omega) (by decide)).mpr hq)))
  refine r_aload_n (pc := 22) C 0 dX10_append_22 rfl rfl ?_
  refine r_getI (pc := 23) C f_X10_233 hm.1 rfl dX10_append_23 ?_
  refine r_t (y := nI n) ((u2_o (by decide)).trans hn) ?_
  refine r_bipush (pc := 26) (v := 60) C dX10_append_26 rfl ?_
  refine r_cneN (pc := 28) (tgt := 37) C dX10_append_28 rfl (by omega) (by omega) (fun c_28 => ?_) (fun c_28 => False.elim (by omega))
  refine r_aload_n (pc := 37) C 0 dX10_append_37 rfl rfl ?_
  refine r_getR (pc := 38) (x := M + 6) C f_X10_30 hm.1 rfl rfl dX10_append_38 ?_
  refine r_aload_n (pc := 41) C 0 dX10_append_41 rfl rfl ?_
  refine r_getI (pc := 42) C f_X10_233 hm.1 rfl dX10_append_42 ?_
  refine r_t (y := nI n) ((u2_o (by decide)).trans hn) ?_
  refine r_iload_n (pc := 45) C 1 dX10_append_45 rfl rfl ?_
  refine r_cast (pc := 46) (x := n) C hm.2.2.2.2.2.2.1 rfl (by omega) (by decide) (nar_c (by omega)) dX10_append_46 ?_
  refine r_aload_n (pc := 47) C 0 dX10_append_47 rfl rfl ?_
  refine r_dup (pc := 48) C dX10_append_48 rfl ?_
  refine r_getI (pc := 49) C f_X10_233 hm.1 rfl dX10_append_49 ?_
  refine r_t (y := nI n) ((congrFun (u2_r (by omega)) _).trans ((u2_o (by decide)).trans hn)) ?_
  refine r_iconst (pc := 52) (v := 1) C dX10_append_52 rfl ?_
  refine r_iaddN (pc := 53) C dX10_append_53 ?_
  refine r_putI (pc := 54) C f_X10_233 hm.1 rfl rfl rfl dX10_append_54 ?_
  refine r_aload_n (pc := 57) C 0 dX10_append_57 rfl rfl ?_
  refine r_getI (pc := 58) C f_X10_233 hm.1 rfl dX10_append_58 ?_
  refine r_t (y := nI ((n + 1))) u2_g ?_
  exact r_iret (pc := 61) C dX10_append_61 ⟨rfl, rfl, rfl, rfl⟩ (by decide)

set_option maxHeartbeats 1000000 in
theorem c_append__x1 {g : GG} {X : va_W} {T : TT} {I : II} {M : Nat} (hm : isMd T M) {x : Int32} (hq : ¬ okR 32 126 x) : Mc g yX10_append cX10_append 2 (some .int) 6 0 0 [.ref M, .int x] X T I (Ex (some (.int (nI 0))) X T (u2 I M 0 (nI 1))) := by
  refine Mc.of (by decide) (Nat.le_of_ble_eq_true rfl) (fun k hfl C => ?_)
  refine r_lo (lo' := [(0, _), (1, _)]) rfl ?_
  refine r_aload_n (pc := 0) C 0 dX10_append_0 rfl rfl ?_
  refine r_iconst (pc := 1) (v := 0) C dX10_append_1 rfl ?_
  refine r_putI (pc := 2) C f_X10_1 hm.1 rfl rfl rfl dX10_append_2 ?_
  refine r_iload_n (pc := 5) C 1 dX10_append_5 rfl rfl ?_
  refine r_bipush (pc := 6) (v := 32) C dX10_append_6 rfl ?_
  refine r_bipush (pc := 8) (v := 126) C dX10_append_8 rfl ?_
  refine r_cSi (pc := 10) C hfl k_X10_54 (c_isBetween _ _ _) rfl rfl (Nat.le_of_ble_eq_true rfl) (by decide) (by decide) dX10_append_10 ?_
  refine r_ifneB (pc := 13) (tgt := 22) C dX10_append_13 rfl (fun c_13 => False.elim (by exact hq c_13)) (fun c_13 => ?_)
  refine r_aload_n (pc := 16) C 0 dX10_append_16 rfl rfl ?_
  refine r_iconst (pc := 17) (v := 1) C dX10_append_17 rfl ?_
  refine r_cVi (pc := 18) C hfl k_X10_79 (c_failsI hm) hm.1 ca_X10 rfl rfl (Nat.le_of_ble_eq_true rfl) (by decide) (by decide) dX10_append_18 ?_
  exact r_iret (pc := 21) C dX10_append_21 ⟨rfl, rfl, rfl, by rw [u2_u2]⟩ (by decide)

set_option maxHeartbeats 1000000 in
theorem c_append__x2 {g : GG} {X : va_W} {T : TT} {I : II} {M : Nat} (hm : isMd T M) {x : Int32} (hq : okR 32 126 x) (hn : I M 11 = nI 60) : Mc g yX10_append cX10_append 2 (some .int) 6 0 0 [.ref M, .int x] X T I (Ex (some (.int (nI 0))) X T (u2 I M 0 (nI 2))) := by
  refine Mc.of (by decide) (Nat.le_of_ble_eq_true rfl) (fun k hfl C => ?_)
  refine r_lo (lo' := [(0, _), (1, _)]) rfl ?_
  refine r_aload_n (pc := 0) C 0 dX10_append_0 rfl rfl ?_
  refine r_iconst (pc := 1) (v := 0) C dX10_append_1 rfl ?_
  refine r_putI (pc := 2) C f_X10_1 hm.1 rfl rfl rfl dX10_append_2 ?_
  refine r_iload_n (pc := 5) C 1 dX10_append_5 rfl rfl ?_
  refine r_bipush (pc := 6) (v := 32) C dX10_append_6 rfl ?_
  refine r_bipush (pc := 8) (v := 126) C dX10_append_8 rfl ?_
  refine r_cSi (pc := 10) C hfl k_X10_54 (c_isBetween _ _ _) rfl rfl (Nat.le_of_ble_eq_true rfl) (by decide) (by decide) dX10_append_10 ?_
  refine r_ifneB (pc := 13) (tgt := 22) C dX10_append_13 rfl (fun c_13 => ?_) (fun c_13 => False.elim (by exact c_13 hq))
  refine r_aload_n (pc := 22) C 0 dX10_append_22 rfl rfl ?_
  refine r_getI (pc := 23) C f_X10_233 hm.1 rfl dX10_append_23 ?_
  refine r_t (y := nI 60) ((u2_o (by decide)).trans hn) ?_
  refine r_bipush (pc := 26) (v := 60) C dX10_append_26 rfl ?_
  refine r_cneN (pc := 28) (tgt := 37) C dX10_append_28 rfl (by omega) (by omega) (fun c_28 => False.elim (by omega)) (fun c_28 => ?_)
  refine r_aload_n (pc := 31) C 0 dX10_append_31 rfl rfl ?_
  refine r_iconst (pc := 32) (v := 2) C dX10_append_32 rfl ?_
  refine r_cVi (pc := 33) C hfl k_X10_79 (c_failsI hm) hm.1 ca_X10 rfl rfl (Nat.le_of_ble_eq_true rfl) (by decide) (by decide) dX10_append_33 ?_
  exact r_iret (pc := 36) C dX10_append_36 ⟨rfl, rfl, rfl, by rw [u2_u2]⟩ (by decide)

set_option maxHeartbeats 1000000 in
theorem c_lineChar__o {g : GG} {X : va_W} {T : TT} {I : II} {M : Nat} (hm : isMd T M) {n i c : Nat} (hn : I M 9 = nI n) (hn1 : n ≤ 100) (hi : i < n) (hc : I (M + 5) i = nI c) (hc2 : c < 65536) : Mc g yX10_lineChar cX10_lineChar 2 (some .char) 6 0 0 [.ref M, .int (nI i)] X T I (Ex (some (.int (nI c))) X T (u2 I M 0 (nI 0))) := by
  refine Mc.of (by decide) (Nat.le_of_ble_eq_true rfl) (fun k hfl C => ?_)
  refine r_lo (lo' := [(0, _), (1, _)]) rfl ?_
  refine r_aload_n (pc := 0) C 0 dX10_lineChar_0 rfl rfl ?_
  refine r_iconst (pc := 1) (v := 0) C dX10_lineChar_1 rfl ?_
  refine r_putI (pc := 2) C f_X10_1 hm.1 rfl rfl rfl dX10_lineChar_2 ?_
  refine r_iload_n (pc := 5) C 1 dX10_lineChar_5 rfl rfl ?_
  refine r_iconst (pc := 6) (v := 0) C dX10_lineChar_6 rfl ?_
  refine r_aload_n (pc := 7) C 0 dX10_lineChar_7 rfl rfl ?_
  refine r_getI (pc := 8) C f_X10_221 hm.1 rfl dX10_lineChar_8 ?_
  refine r_t (y := nI n) ((u2_o (by decide)).trans hn) ?_
  refine r_iconst (pc := 11) (v := 1) C dX10_lineChar_11 rfl ?_
  refine r_isub (pc := 12) C dX10_lineChar_12 ?_
  refine r_cSi (pc := 13) C hfl k_X10_54 (c_isBetween _ _ _) rfl rfl (Nat.le_of_ble_eq_true rfl) (by decide) (by decide) dX10_lineChar_13 ?_
  refine r_ifeqB (pc := 16) (tgt := 26) C dX10_lineChar_16 rfl (fun c_16 => False.elim (by exact c_16 (okN_nI hn1 hi))) (fun c_16 => ?_)
  refine r_aload_n (pc := 19) C 0 dX10_lineChar_19 rfl rfl ?_
  refine r_getR (pc := 20) (x := M + 5) C f_X10_26 hm.1 rfl rfl dX10_lineChar_20 ?_
  refine r_iload_n (pc := 23) C 1 dX10_lineChar_23 rfl rfl ?_
  refine r_cald (pc := 24) (x := i) C hm.2.2.2.2.2.1 rfl (by omega) (by decide) dX10_lineChar_24 ?_
  refine r_t (y := nI c) ((congrFun (u2_r (by omega)) _).trans hc) ?_
  exact r_zret (pc := 25) C ((pk_charN hc2).1) dX10_lineChar_25 ⟨rfl, rfl, rfl, rfl⟩ (by decide)

set_option maxHeartbeats 1000000 in
theorem c_lineChar__x {g : GG} {X : va_W} {T : TT} {I : II} {M : Nat} (hm : isMd T M) {n : Nat} {x : Int32} (hn : I M 9 = nI n) (hx : ¬ okN n x) : Mc g yX10_lineChar cX10_lineChar 2 (some .char) 6 0 0 [.ref M, .int x] X T I (Ex (some (.int (nI 0))) X T (u2 I M 0 (nI 1))) := by
  refine Mc.of (by decide) (Nat.le_of_ble_eq_true rfl) (fun k hfl C => ?_)
  refine r_lo (lo' := [(0, _), (1, _)]) rfl ?_
  refine r_aload_n (pc := 0) C 0 dX10_lineChar_0 rfl rfl ?_
  refine r_iconst (pc := 1) (v := 0) C dX10_lineChar_1 rfl ?_
  refine r_putI (pc := 2) C f_X10_1 hm.1 rfl rfl rfl dX10_lineChar_2 ?_
  refine r_iload_n (pc := 5) C 1 dX10_lineChar_5 rfl rfl ?_
  refine r_iconst (pc := 6) (v := 0) C dX10_lineChar_6 rfl ?_
  refine r_aload_n (pc := 7) C 0 dX10_lineChar_7 rfl rfl ?_
  refine r_getI (pc := 8) C f_X10_221 hm.1 rfl dX10_lineChar_8 ?_
  refine r_t (y := nI n) ((u2_o (by decide)).trans hn) ?_
  refine r_iconst (pc := 11) (v := 1) C dX10_lineChar_11 rfl ?_
  refine r_isub (pc := 12) C dX10_lineChar_12 ?_
  refine r_cSi (pc := 13) C hfl k_X10_54 (c_isBetween _ _ _) rfl rfl (Nat.le_of_ble_eq_true rfl) (by decide) (by decide) dX10_lineChar_13 ?_
  refine r_ifeqB (pc := 16) (tgt := 26) C dX10_lineChar_16 rfl (fun c_16 => ?_) (fun c_16 => False.elim (by exact hx c_16))
  refine r_aload_n (pc := 26) C 0 dX10_lineChar_26 rfl rfl ?_
  refine r_iconst (pc := 27) (v := 1) C dX10_lineChar_27 rfl ?_
  refine r_cVi (pc := 28) C hfl k_X10_79 (c_failsI hm) hm.1 ca_X10 rfl rfl (Nat.le_of_ble_eq_true rfl) (by decide) (by decide) dX10_lineChar_28 ?_
  refine r_i2c (pc := 31) C dX10_lineChar_31 (i2c_q (by decide)) ?_
  exact r_zret (pc := 32) C (by decide) dX10_lineChar_32 ⟨rfl, rfl, rfl, by rw [u2_u2]⟩ (by decide)

set_option maxHeartbeats 1000000 in
theorem c_writes {g : GG} {X : va_W} {T : TT} {I : II} {M : Nat} (hm : isMd T M) {t : Nat → Nat} {n : Nat} {c : Nat} (hc : c < 65536) (hn : n < 100) : Mc g yX10_writes cX10_writes 2 none 1 0 0 [.ref M, .int (nI c)] X T (lnI I M t n) (Ex none X T (lnI I M (sb_cat t n (fun _ => c)) (n + 1))) := by
  refine Mc.of (by decide) (Nat.le_of_ble_eq_true rfl) (fun k hfl C => ?_)
  refine r_lo (lo' := [(0, _), (1, _)]) rfl ?_
  refine r_aload_n (pc := 0) C 0 dX10_writes_0 rfl rfl ?_
  refine r_getR (pc := 1) (x := M + 5) C f_X10_26 hm.1 rfl rfl dX10_writes_1 ?_
  refine r_aload_n (pc := 4) C 0 dX10_writes_4 rfl rfl ?_
  refine r_getI (pc := 5) C f_X10_221 hm.1 rfl dX10_writes_5 ?_
  refine r_t (y := nI n) lnI_n ?_
  refine r_iload_n (pc := 8) C 1 dX10_writes_8 rfl rfl ?_
  refine r_i2c (pc := 9) C dX10_writes_9 (i2c_q hc) ?_
  refine r_cast (pc := 10) (x := n) C hm.2.2.2.2.2.1 rfl (by omega) (by decide) (nar_c hc) dX10_writes_10 ?_
  refine r_aload_n (pc := 11) C 0 dX10_writes_11 rfl rfl ?_
  refine r_dup (pc := 12) C dX10_writes_12 rfl ?_
  refine r_getI (pc := 13) C f_X10_221 hm.1 rfl dX10_writes_13 ?_
  refine r_t (y := nI n) ((congrFun (u2_r (by omega)) _).trans lnI_n) ?_
  refine r_iconst (pc := 16) (v := 1) C dX10_writes_16 rfl ?_
  refine r_iaddN (pc := 17) C dX10_writes_17 ?_
  refine r_putI (pc := 18) C f_X10_221 hm.1 rfl rfl rfl dX10_writes_18 ?_
  exact r_vret (pc := 21) C dX10_writes_21 ⟨rfl, rfl, rfl, lnI_w⟩ (by decide)

set_option maxHeartbeats 1000000 in
theorem c_writesNumber {g : GG} {X : va_W} {T : TT} {I : II} {M : Nat} (hm : isMd T M) {t : Nat → Nat} {n : Nat} {v : Nat} (hv : v < 2 ^ 31) (hn : n + sb_dg v ≤ 100) : Mc g yX10_writesNumber cX10_writesNumber 4 none 2 0 0 [.ref M, .int (nI v)] X T (lnI I M t n) (Ex none X T (lnI I M (sb_cat t n (sb_dec v)) (n + sb_dg v))) := by
  obtain ⟨d1, d2, d3, d4⟩ := dg_ge hv
  refine Mc.of (by decide) (Nat.le_of_ble_eq_true rfl) (fun k hfl C => ?_)
  refine r_lo (lo' := [(0, _), (1, _)]) rfl ?_
  refine r_iconst (pc := 0) (v := 1) C dX10_writesNumber_0 rfl ?_
  refine r_istore_n (pc := 1) (lo' := [(2, _), (0, _), (1, _)]) C dX10_writesNumber_1 rfl (by decide) rfl ?_
  have loop_2 : ∀ (n_2 : Nat) (k_ : Nat), sb_dg v - k_ < n_2 → (k_ < sb_dg v) → Go g k 4 (Qm g k (Ex none X T (lnI I M (sb_cat t n (sb_dec v)) (n + sb_dg v))) 0 0) 0 0 2 [(0, .ref M), (1, .int (nI v)), (2, .int (nI (10 ^ k_)))] [] X T ((lnI I M t n)) := by
    intro n_2
    induction n_2 with
    | zero => intro _ h_; exact absurd h_ (Nat.not_lt_zero _)
    | succ n_2 ih_2 =>
      intro k_ hk hk1
      refine r_iload_n (pc := 2) C 1 dX10_writesNumber_2 rfl rfl ?_
      refine r_iload_n (pc := 3) C 2 dX10_writesNumber_3 rfl rfl ?_
      refine r_idivN (pc := 4) C dX10_writesNumber_4 (by omega) p10_pos (by have := p10_le (k := k_) (by omega); omega) ?_
      refine r_bipush (pc := 5) (v := 9) C dX10_writesNumber_5 rfl ?_
      refine r_cleN (pc := 7) (tgt := 18) C dX10_writesNumber_7 rfl (by have := Nat.div_le_self v (10 ^ k_); omega) (by omega) (fun c_7 => ?_) (fun c_7 => ?_)
      · skip
        refine r_iload_n (pc := 18) C 2 dX10_writesNumber_18 rfl rfl ?_
        refine r_istore_n (pc := 19) (lo' := [(3, _), (0, _), (1, _), (2, _)]) C dX10_writesNumber_19 rfl (by decide) rfl ?_
        have loop_20 : ∀ (n_20 : Nat) (i U : Nat), sb_dg v - i < n_20 → (i ≤ sb_dg v) → ((i < sb_dg v ∧ U = 10 ^ (sb_dg v - 1 - i)) ∨ (i = sb_dg v ∧ U = 0)) → Go g k 4 (Qm g k (Ex none X T (lnI I M (sb_cat t n (sb_dec v)) (n + sb_dg v))) 0 0) 0 0 20 [(0, .ref M), (1, .int (nI v)), (3, .int (nI U))] [] X T ((lnI I M ((sb_cat t n (sb_dec v))) (n + i))) := by
          intro n_20
          induction n_20 with
          | zero => intro _ _ h_; exact absurd h_ (Nat.not_lt_zero _)
          | succ n_20 ih_20 =>
            intro i U hi hi1 hU
            refine r_iload_n (pc := 20) C 2 dX10_writesNumber_20 rfl rfl ?_
            refine r_ifleN (pc := 21) (tgt := 45) C dX10_writesNumber_21 rfl (by rcases hU with h | h; rw [h.2]; have := p10_le (k := sb_dg v - 1 - i) (by omega); omega; omega) (fun c_21 => ?_) (fun c_21 => ?_)
            · skip
              exact r_vret (pc := 45) C dX10_writesNumber_45 ⟨rfl, rfl, rfl, by rw [show i = sb_dg v by rcases hU with h | h; have := p10_pos (k := sb_dg v - 1 - i); omega; exact h.1]⟩ (by decide)
            · skip
              obtain ⟨hi9, rfl⟩ : i < sb_dg v ∧ U = 10 ^ (sb_dg v - 1 - i) := hU.resolve_right (fun h => by omega)
              refine r_aload_n (pc := 24) C 0 dX10_writesNumber_24 rfl rfl ?_
              refine r_bipush (pc := 25) (v := 48) C dX10_writesNumber_25 rfl ?_
              refine r_iload_n (pc := 27) C 1 dX10_writesNumber_27 rfl rfl ?_
              refine r_iload_n (pc := 28) C 2 dX10_writesNumber_28 rfl rfl ?_
              refine r_idivN (pc := 29) C dX10_writesNumber_29 (by omega) p10_pos (by have := p10_le (k := sb_dg v - 1 - i) (by omega); omega) ?_
              refine r_bipush (pc := 30) (v := 10) C dX10_writesNumber_30 rfl ?_
              refine r_iremN (pc := 32) C dX10_writesNumber_32 (by have := Nat.div_le_self v (10 ^ (sb_dg v - 1 - i)); omega) (by omega) (by omega) ?_
              refine r_iaddN (pc := 33) C dX10_writesNumber_33 ?_
              refine r_cVv (pc := 34) C hfl k_X10_224 (c_writes hm (by omega) (by omega)) hm.1 ca_X10 rfl rfl (Nat.le_of_ble_eq_true rfl) (by decide) (by decide) dX10_writesNumber_34 ?_
              refine r_I (I' := (lnI I M ((sb_cat t n (sb_dec v))) (n + (i + 1)))) (lnI_c (fun j hj => cat_dig (v := v) (k := i) _ rfl j (by omega))) ?_
              refine r_iload_n (pc := 37) C 2 dX10_writesNumber_37 rfl rfl ?_
              refine r_bipush (pc := 38) (v := 10) C dX10_writesNumber_38 rfl ?_
              refine r_idivN (pc := 40) C dX10_writesNumber_40 (by have := p10_le (k := sb_dg v - 1 - i) (by omega); omega) (by omega) (by omega) ?_
              refine r_istore_n (pc := 41) (lo' := [(3, _), (0, _), (1, _)]) C dX10_writesNumber_41 rfl (by decide) rfl ?_
              refine r_goto (pc := 42) (tgt := 20) C dX10_writesNumber_42 rfl ?_
              refine r_ls [1, 2, 0] rfl ?_
              exact ih_20 (i + 1) _ (by omega) (by omega) (p10_nx hi9)
        refine r_ls [1, 2, 0] rfl ?_
        refine r_I (I' := (lnI I M ((sb_cat t n (sb_dec v))) (n + 0))) (lnI_c (fun j hj => (if_pos hj).symm)) ?_
        exact loop_20 (sb_dg v + 1) 0 (10 ^ k_) (by omega) (by omega) (Or.inl ⟨by omega, by rw [show sb_dg v - 1 - 0 = k_ by have h9 := mt (dg_unit hv hk1).mpr (Nat.not_lt.mpr c_7); omega]⟩)
      · skip
        refine r_iload_n (pc := 10) C 2 dX10_writesNumber_10 rfl rfl ?_
        refine r_bipush (pc := 11) (v := 10) C dX10_writesNumber_11 rfl ?_
        refine r_imulN (pc := 13) C dX10_writesNumber_13 ?_
        refine r_t (y := nI ((10 ^ (k_ + 1)))) (congrArg nI (Nat.pow_succ ..).symm) ?_
        refine r_istore_n (pc := 14) (lo' := [(2, _), (0, _), (1, _)]) C dX10_writesNumber_14 rfl (by decide) rfl ?_
        refine r_goto (pc := 15) (tgt := 2) C dX10_writesNumber_15 rfl ?_
        refine r_ls [1, 2, 0] rfl ?_
        exact ih_2 (k_ + 1) (by have := (dg_unit hv hk1).mp c_7; omega) ((dg_unit hv hk1).mp c_7)
  refine r_ls [1, 2, 0] rfl ?_
  exact loop_2 (sb_dg v + 1) 0 (by omega) (by omega)

theorem c_lw {g : GG} {X : va_W} {T : TT} {I : II} {M : Nat} (hm : isMd T M) {l : List Nat} {c : Nat} (hc : c < 65536) (hn : l.length < 100) : Mc g yX10_writes cX10_writes 2 none 1 0 0 [.ref M, .int (nI c)] X T (lnL I M l) (Ex none X T (lnL I M (l ++ [c]))) := by
  rw [← lnL_w]
  exact c_writes hm hc hn
theorem c_ld {g : GG} {X : va_W} {T : TT} {I : II} {M : Nat} (hm : isMd T M) {l : List Nat} {v : Nat} (hv : v < 2 ^ 31) (hn : l.length + sb_dg v ≤ 100) : Mc g yX10_writesNumber cX10_writesNumber 4 none 2 0 0 [.ref M, .int (nI v)] X T (lnL I M l) (Ex none X T (lnL I M (l ++ dl v))) := by
  rw [← lnL_d]
  exact c_writesNumber hm hv hn

set_option maxHeartbeats 1000000 in
theorem c_writesPart__b {g : GG} {X : va_W} {T : TT} {I : II} {M : Nat} (hm : isMd T M) {l : List Nat} {v : Nat} (hv : v < 2 ^ 31) (hn : l.length + 1 + sb_dg v ≤ 100) : Mc g yX10_writesPart cX10_writesPart 3 none 3 0 0 [.ref M, .int (nI 32), .int (nI v)] X T (lnL I M l) (Ex none X T (lnL I M (l ++ 32 :: dl v))) := by
  refine Mc.of (by decide) (Nat.le_of_ble_eq_true rfl) (fun k hfl C => ?_)
  refine r_lo (lo' := [(0, _), (1, _), (2, _)]) rfl ?_
  refine r_aload_n (pc := 0) C 0 dX10_writesPart_0 rfl rfl ?_
  refine r_bipush (pc := 1) (v := 32) C dX10_writesPart_1 rfl ?_
  refine r_cVv (pc := 3) C hfl k_X10_224 (c_lw hm (by omega) (by (try simp only [List.length_append, List.length_cons, List.length_nil, dl_len]); omega)) hm.1 ca_X10 rfl rfl (Nat.le_of_ble_eq_true rfl) (by decide) (by decide) dX10_writesPart_3 ?_
  refine r_iload_n (pc := 6) C 1 dX10_writesPart_6 rfl rfl ?_
  refine r_bipush (pc := 7) (v := 32) C dX10_writesPart_7 rfl ?_
  refine r_ceqN (pc := 9) (tgt := 17) C dX10_writesPart_9 rfl (by omega) (by omega) (fun c_9 => ?_) (fun c_9 => False.elim (by omega))
  refine r_aload_n (pc := 17) C 0 dX10_writesPart_17 rfl rfl ?_
  refine r_iload_n (pc := 18) C 2 dX10_writesPart_18 rfl rfl ?_
  refine r_cVv (pc := 19) C hfl k_X10_227 (c_ld hm (by omega) (by (try simp only [List.length_append, List.length_cons, List.length_nil, dl_len]); omega)) hm.1 ca_X10 rfl rfl (Nat.le_of_ble_eq_true rfl) (by decide) (by decide) dX10_writesPart_19 ?_
  exact r_vret (pc := 22) C dX10_writesPart_22 ⟨rfl, rfl, rfl, by (try simp only [List.append_assoc, List.cons_append, List.nil_append]); (try rfl)⟩ (by decide)

set_option maxHeartbeats 1000000 in
theorem c_writesPart__c {g : GG} {X : va_W} {T : TT} {I : II} {M : Nat} (hm : isMd T M) {l : List Nat} {c v : Nat} (hc : c < 65536) (h32 : c ≠ 32) (hv : v < 2 ^ 31) (hn : l.length + 2 + sb_dg v ≤ 100) : Mc g yX10_writesPart cX10_writesPart 3 none 3 0 0 [.ref M, .int (nI c), .int (nI v)] X T (lnL I M l) (Ex none X T (lnL I M (l ++ 32 :: c :: dl v))) := by
  refine Mc.of (by decide) (Nat.le_of_ble_eq_true rfl) (fun k hfl C => ?_)
  refine r_lo (lo' := [(0, _), (1, _), (2, _)]) rfl ?_
  refine r_aload_n (pc := 0) C 0 dX10_writesPart_0 rfl rfl ?_
  refine r_bipush (pc := 1) (v := 32) C dX10_writesPart_1 rfl ?_
  refine r_cVv (pc := 3) C hfl k_X10_224 (c_lw hm (by omega) (by (try simp only [List.length_append, List.length_cons, List.length_nil, dl_len]); omega)) hm.1 ca_X10 rfl rfl (Nat.le_of_ble_eq_true rfl) (by decide) (by decide) dX10_writesPart_3 ?_
  refine r_iload_n (pc := 6) C 1 dX10_writesPart_6 rfl rfl ?_
  refine r_bipush (pc := 7) (v := 32) C dX10_writesPart_7 rfl ?_
  refine r_ceqN (pc := 9) (tgt := 17) C dX10_writesPart_9 rfl (by omega) (by omega) (fun c_9 => False.elim (by omega)) (fun c_9 => ?_)
  refine r_aload_n (pc := 12) C 0 dX10_writesPart_12 rfl rfl ?_
  refine r_iload_n (pc := 13) C 1 dX10_writesPart_13 rfl rfl ?_
  refine r_cVv (pc := 14) C hfl k_X10_224 (c_lw hm (by omega) (by (try simp only [List.length_append, List.length_cons, List.length_nil, dl_len]); omega)) hm.1 ca_X10 rfl rfl (Nat.le_of_ble_eq_true rfl) (by decide) (by decide) dX10_writesPart_14 ?_
  refine r_aload_n (pc := 17) C 0 dX10_writesPart_17 rfl rfl ?_
  refine r_iload_n (pc := 18) C 2 dX10_writesPart_18 rfl rfl ?_
  refine r_cVv (pc := 19) C hfl k_X10_227 (c_ld hm (by omega) (by (try simp only [List.length_append, List.length_cons, List.length_nil, dl_len]); omega)) hm.1 ca_X10 rfl rfl (Nat.le_of_ble_eq_true rfl) (by decide) (by decide) dX10_writesPart_19 ?_
  exact r_vret (pc := 22) C dX10_writesPart_22 ⟨rfl, rfl, rfl, by (try simp only [List.append_assoc, List.cons_append, List.nil_append]); (try rfl)⟩ (by decide)

theorem c_slotOfR {g : GG} {X : va_W} {T : TT} {I : II} {M : Nat} (hm : isMd T M) {id r : Int32} {N : Nat} (hN : I (M + 1) 2 = nI N) (hN10 : N ≤ 10) (hr : atS (I (M + 1)) N id r) : Mc g yX10_slotOf cX10_slotOf 3 (some .int) 2 0 0 [.ref M, .int id] X T I (Ex (some (.int r)) X T I) := by
  have h := c_slotOf (g := g) (X := X) (I := I) (w := I (M + 1)) hm hN hN10 hr
  rw [sr_id] at h
  exact h
theorem c_isR {g : GG} {X : va_W} {T : TT} {I : II} {M : Nat} (hm : isMd T M) {b j : Nat} (hb : b < 15) (hj : j < 10) : Mc g yX10_is cX10_is 3 (some .int) 1 0 0 [.ref M, .int (nI b), .int (nI j)] X T I (Ex (some (.int (I (M + 1) (58 + 10 * b + j)))) X T I) := by
  have h := c_is (g := g) (X := X) (I := I) (w := I (M + 1)) hm hb hj
  rw [sr_id] at h
  exact h

set_option maxHeartbeats 1000000 in
theorem c_formatLoan__s {g : GG} {X : va_W} {T : TT} {I : II} {M : Nat} {w : Nat → Int32} (hm : isMd T M) (hw0 : I (M + 1) = w) {id b pr ac rt du : Nat} {u : Nat → Nat} {N : Nat} (hN : w 2 = nI N) (hN10 : N ≤ 10) {s : Nat} (hs : s < N) (hr : atS w N (nI id) (nI s)) (e1 : w (58 + 10 * s + 1) = nI b) (e2 : w (58 + 10 * s + 2) = nI pr) (e3 : w (58 + 10 * s + 3) = nI ac) (e4 : w (58 + 10 * s + 4) = nI rt) (e5 : w (58 + 10 * s + 5) = nI du) (e6 : ∀ k, k < 4 → w (58 + 10 * s + (6 + k)) = nI (u k)) (h0 : id < 1000000) (hb : b < 10) (hpr : pr < 1000) (hac : ac < 10000000) (hrt : rt < 100) (hdu : du < 1000000) (hu : ∀ k, k < 4 → u k < 10000000) : Mc g yX10_formatLoan cX10_formatLoan 4 (some .int) 6 0 0 [.ref M, .int (nI id)] X T I (Ex (some (.int (nI (fmL id b pr ac rt du ++ kdl u 4).length))) X T (lnL (u2 I M 0 (nI 0)) M (fmL id b pr ac rt du ++ kdl u 4))) := by
  have hw : I (M + 1) = w := hw0
  have a0 := (dg_b (v := id)).2.2.2.1 h0
  have a1 := (dg_b (v := b)).1 hb
  have a2 := (dg_b (v := pr)).2.2.1 hpr
  have a3 := (dg_b (v := ac)).2.2.2.2 hac
  have a4 := (dg_b (v := rt)).2.1 hrt
  have a5 := (dg_b (v := du)).2.2.2.1 hdu
  have a6 : ∀ k, k < 4 → sb_dg (u k) ≤ 7 := fun k hk => (dg_b (v := u k)).2.2.2.2 (hu k hk)
  have a7 := fmL_len h0 hb hpr hac hrt hdu
  subst hw
  refine Mc.of (by decide) (Nat.le_of_ble_eq_true rfl) (fun k hfl C => ?_)
  refine r_lo (lo' := [(0, _), (1, _)]) rfl ?_
  refine r_aload_n (pc := 0) C 0 dX10_formatLoan_0 rfl rfl ?_
  refine r_iconst (pc := 1) (v := 0) C dX10_formatLoan_1 rfl ?_
  refine r_putI (pc := 2) C f_X10_1 hm.1 rfl rfl rfl dX10_formatLoan_2 ?_
  refine r_aload_n (pc := 5) C 0 dX10_formatLoan_5 rfl rfl ?_
  refine r_iload_n (pc := 6) C 1 dX10_formatLoan_6 rfl rfl ?_
  refine r_cVi (pc := 7) C hfl k_X10_121 (c_slotOfR hm ((congrFun (u2_r (by omega)) _).trans hN) hN10 (by rw [u2_r (by omega)]; exact hr)) hm.1 ca_X10 rfl rfl (Nat.le_of_ble_eq_true rfl) (by decide) (by decide) dX10_formatLoan_7 ?_
  refine r_istore_n (pc := 10) (lo' := [(2, _), (0, _), (1, _)]) C dX10_formatLoan_10 rfl (by decide) rfl ?_
  refine r_iload_n (pc := 11) C 0 dX10_formatLoan_11 rfl rfl ?_
  refine r_ifgeN (pc := 12) (tgt := 21) C dX10_formatLoan_12 rfl (by omega) ?_
  refine r_aload_n (pc := 21) C 1 dX10_formatLoan_21 rfl rfl ?_
  refine r_iconst (pc := 22) (v := 0) C dX10_formatLoan_22 rfl ?_
  refine r_putI (pc := 23) C f_X10_221 hm.1 rfl rfl rfl dX10_formatLoan_23 ?_
  refine r_I (I' := (lnL (u2 I M 0 (nI 0)) M ([]))) lnL_0 ?_
  refine r_aload_n (pc := 26) C 1 dX10_formatLoan_26 rfl rfl ?_
  refine r_bipush (pc := 27) (v := 76) C dX10_formatLoan_27 rfl ?_
  refine r_cVv (pc := 29) C hfl k_X10_224 (c_lw hm (by omega) (by (try simp only [List.length_append, List.length_cons, List.length_nil, dl_len]); omega)) hm.1 ca_X10 rfl rfl (Nat.le_of_ble_eq_true rfl) (by decide) (by decide) dX10_formatLoan_29 ?_
  refine r_aload_n (pc := 32) C 1 dX10_formatLoan_32 rfl rfl ?_
  refine r_iload_n (pc := 33) C 2 dX10_formatLoan_33 rfl rfl ?_
  refine r_cVv (pc := 34) C hfl k_X10_227 (c_ld hm (by omega) (by (try simp only [List.length_append, List.length_cons, List.length_nil, dl_len]); omega)) hm.1 ca_X10 rfl rfl (Nat.le_of_ble_eq_true rfl) (by decide) (by decide) dX10_formatLoan_34 ?_
  refine r_aload_n (pc := 37) C 1 dX10_formatLoan_37 rfl rfl ?_
  refine r_bipush (pc := 38) (v := 98) C dX10_formatLoan_38 rfl ?_
  refine r_aload_n (pc := 40) C 1 dX10_formatLoan_40 rfl rfl ?_
  refine r_iload_n (pc := 41) C 0 dX10_formatLoan_41 rfl rfl ?_
  refine r_iconst (pc := 42) (v := 1) C dX10_formatLoan_42 rfl ?_
  refine r_cVi (pc := 43) C hfl k_X10_58 (c_isR hm (by omega) (by omega)) hm.1 ca_X10 rfl rfl (Nat.le_of_ble_eq_true rfl) (by decide) (by decide) dX10_formatLoan_43 ?_
  refine r_t (y := nI b) (((congrFun (lnL_o (by omega) (by omega)) _).trans (congrFun (u2_r (by omega)) _)).trans e1) ?_
  refine r_cVv (pc := 46) C hfl k_X10_230 (c_writesPart__c hm (by omega) (by omega) (by omega) (by (try simp only [List.length_append, List.length_cons, List.length_nil, dl_len]); omega)) hm.1 ca_X10 rfl rfl (Nat.le_of_ble_eq_true rfl) (by decide) (by decide) dX10_formatLoan_46 ?_
  refine r_aload_n (pc := 49) C 1 dX10_formatLoan_49 rfl rfl ?_
  refine r_bipush (pc := 50) (v := 32) C dX10_formatLoan_50 rfl ?_
  refine r_aload_n (pc := 52) C 1 dX10_formatLoan_52 rfl rfl ?_
  refine r_iload_n (pc := 53) C 0 dX10_formatLoan_53 rfl rfl ?_
  refine r_iconst (pc := 54) (v := 2) C dX10_formatLoan_54 rfl ?_
  refine r_cVi (pc := 55) C hfl k_X10_58 (c_isR hm (by omega) (by omega)) hm.1 ca_X10 rfl rfl (Nat.le_of_ble_eq_true rfl) (by decide) (by decide) dX10_formatLoan_55 ?_
  refine r_t (y := nI pr) (((congrFun (lnL_o (by omega) (by omega)) _).trans (congrFun (u2_r (by omega)) _)).trans e2) ?_
  refine r_cVv (pc := 58) C hfl k_X10_230 (c_writesPart__b hm (by omega) (by (try simp only [List.length_append, List.length_cons, List.length_nil, dl_len]); omega)) hm.1 ca_X10 rfl rfl (Nat.le_of_ble_eq_true rfl) (by decide) (by decide) dX10_formatLoan_58 ?_
  refine r_aload_n (pc := 61) C 1 dX10_formatLoan_61 rfl rfl ?_
  refine r_bipush (pc := 62) (v := 43) C dX10_formatLoan_62 rfl ?_
  refine r_cVv (pc := 64) C hfl k_X10_224 (c_lw hm (by omega) (by (try simp only [List.length_append, List.length_cons, List.length_nil, dl_len]); omega)) hm.1 ca_X10 rfl rfl (Nat.le_of_ble_eq_true rfl) (by decide) (by decide) dX10_formatLoan_64 ?_
  refine r_aload_n (pc := 67) C 1 dX10_formatLoan_67 rfl rfl ?_
  refine r_aload_n (pc := 68) C 1 dX10_formatLoan_68 rfl rfl ?_
  refine r_iload_n (pc := 69) C 0 dX10_formatLoan_69 rfl rfl ?_
  refine r_iconst (pc := 70) (v := 3) C dX10_formatLoan_70 rfl ?_
  refine r_cVi (pc := 71) C hfl k_X10_58 (c_isR hm (by omega) (by omega)) hm.1 ca_X10 rfl rfl (Nat.le_of_ble_eq_true rfl) (by decide) (by decide) dX10_formatLoan_71 ?_
  refine r_t (y := nI ac) (((congrFun (lnL_o (by omega) (by omega)) _).trans (congrFun (u2_r (by omega)) _)).trans e3) ?_
  refine r_cVv (pc := 74) C hfl k_X10_227 (c_ld hm (by omega) (by (try simp only [List.length_append, List.length_cons, List.length_nil, dl_len]); omega)) hm.1 ca_X10 rfl rfl (Nat.le_of_ble_eq_true rfl) (by decide) (by decide) dX10_formatLoan_74 ?_
  refine r_aload_n (pc := 77) C 1 dX10_formatLoan_77 rfl rfl ?_
  refine r_bipush (pc := 78) (v := 64) C dX10_formatLoan_78 rfl ?_
  refine r_aload_n (pc := 80) C 1 dX10_formatLoan_80 rfl rfl ?_
  refine r_iload_n (pc := 81) C 0 dX10_formatLoan_81 rfl rfl ?_
  refine r_iconst (pc := 82) (v := 4) C dX10_formatLoan_82 rfl ?_
  refine r_cVi (pc := 83) C hfl k_X10_58 (c_isR hm (by omega) (by omega)) hm.1 ca_X10 rfl rfl (Nat.le_of_ble_eq_true rfl) (by decide) (by decide) dX10_formatLoan_83 ?_
  refine r_t (y := nI rt) (((congrFun (lnL_o (by omega) (by omega)) _).trans (congrFun (u2_r (by omega)) _)).trans e4) ?_
  refine r_cVv (pc := 86) C hfl k_X10_230 (c_writesPart__c hm (by omega) (by omega) (by omega) (by (try simp only [List.length_append, List.length_cons, List.length_nil, dl_len]); omega)) hm.1 ca_X10 rfl rfl (Nat.le_of_ble_eq_true rfl) (by decide) (by decide) dX10_formatLoan_86 ?_
  refine r_aload_n (pc := 89) C 1 dX10_formatLoan_89 rfl rfl ?_
  refine r_bipush (pc := 90) (v := 100) C dX10_formatLoan_90 rfl ?_
  refine r_aload_n (pc := 92) C 1 dX10_formatLoan_92 rfl rfl ?_
  refine r_iload_n (pc := 93) C 0 dX10_formatLoan_93 rfl rfl ?_
  refine r_iconst (pc := 94) (v := 5) C dX10_formatLoan_94 rfl ?_
  refine r_cVi (pc := 95) C hfl k_X10_58 (c_isR hm (by omega) (by omega)) hm.1 ca_X10 rfl rfl (Nat.le_of_ble_eq_true rfl) (by decide) (by decide) dX10_formatLoan_95 ?_
  refine r_t (y := nI du) (((congrFun (lnL_o (by omega) (by omega)) _).trans (congrFun (u2_r (by omega)) _)).trans e5) ?_
  refine r_cVv (pc := 98) C hfl k_X10_230 (c_writesPart__c hm (by omega) (by omega) (by omega) (by (try simp only [List.length_append, List.length_cons, List.length_nil, dl_len]); omega)) hm.1 ca_X10 rfl rfl (Nat.le_of_ble_eq_true rfl) (by decide) (by decide) dX10_formatLoan_98 ?_
  refine r_iconst (pc := 101) (v := 0) C dX10_formatLoan_101 rfl ?_
  refine r_istore_n (pc := 102) (lo' := [(3, _), (2, _), (0, _), (1, _)]) C dX10_formatLoan_102 rfl (by decide) rfl ?_
  have loop_103 : ∀ (n_103 : Nat) (q : Nat), 4 - q < n_103 → (q ≤ 4) → Go g k 4 (Qm g k (Ex (some (.int (nI (fmL id b pr ac rt du ++ kdl u 4).length))) X T (lnL (u2 I M 0 (nI 0)) M (fmL id b pr ac rt du ++ kdl u 4))) 0 0) 0 0 103 [(0, .ref M), (2, .int (nI s)), (3, .int (nI q))] [] X T ((lnL (u2 I M 0 (nI 0)) M (fmL id b pr ac rt du ++ kdl u q))) := by
    intro n_103
    induction n_103 with
    | zero => intro _ h_; exact absurd h_ (Nat.not_lt_zero _)
    | succ n_103 ih_103 =>
      intro q hq hq1
      refine r_iload_n (pc := 103) C 2 dX10_formatLoan_103 rfl rfl ?_
      refine r_iconst (pc := 104) (v := 4) C dX10_formatLoan_104 rfl ?_
      refine r_cgeN (pc := 105) (tgt := 155) C dX10_formatLoan_105 rfl (by omega) (by omega) (fun c_105 => ?_) (fun c_105 => ?_)
      · skip
        refine r_aload_n (pc := 155) C 0 dX10_formatLoan_155 rfl rfl ?_
        refine r_getI (pc := 156) C f_X10_221 hm.1 rfl dX10_formatLoan_156 ?_
        refine r_t (y := nI ((fmL id b pr ac rt du ++ kdl u q).length)) lnL_n ?_
        exact r_iret (pc := 159) C dX10_formatLoan_159 ⟨by rw [show q = 4 by omega], rfl, rfl, by rw [show q = 4 by omega]⟩ (by decide)
      · skip
        refine r_aload_n (pc := 108) C 0 dX10_formatLoan_108 rfl rfl ?_
        refine r_iload_n (pc := 109) C 1 dX10_formatLoan_109 rfl rfl ?_
        refine r_bipush (pc := 110) (v := 6) C dX10_formatLoan_110 rfl ?_
        refine r_iload_n (pc := 112) C 2 dX10_formatLoan_112 rfl rfl ?_
        refine r_iaddN (pc := 113) C dX10_formatLoan_113 ?_
        refine r_cVi (pc := 114) C hfl k_X10_58 (c_isR hm (by omega) (by omega)) hm.1 ca_X10 rfl rfl (Nat.le_of_ble_eq_true rfl) (by decide) (by decide) dX10_formatLoan_114 ?_
        refine r_t (y := nI ((u q))) (((congrFun (lnL_o (by omega) (by omega)) _).trans (congrFun (u2_r (by omega)) _)).trans (e6 q c_105)) ?_
        refine r_ifneN (pc := 117) (tgt := 123) C dX10_formatLoan_117 rfl (by have := hu q c_105; omega) (fun c_117 => ?_) (fun c_117 => ?_)
        · skip
          refine r_aload_n (pc := 123) C 0 dX10_formatLoan_123 rfl rfl ?_
          refine r_bipush (pc := 124) (v := 32) C dX10_formatLoan_124 rfl ?_
          refine r_iload_n (pc := 126) C 2 dX10_formatLoan_126 rfl rfl ?_
          have a8 := kdl_len a6 q hq1
          have a9 := a6 q c_105
          have b1 := hu q c_105
          have b2 := (dg_b (v := q)).1 (by omega)
          refine r_cVv (pc := 127) C hfl k_X10_230 (c_writesPart__b hm (by omega) (by (try simp only [List.length_append, List.length_cons, List.length_nil, dl_len]); omega)) hm.1 ca_X10 rfl rfl (Nat.le_of_ble_eq_true rfl) (by decide) (by decide) dX10_formatLoan_127 ?_
          refine r_aload_n (pc := 130) C 0 dX10_formatLoan_130 rfl rfl ?_
          refine r_bipush (pc := 131) (v := 120) C dX10_formatLoan_131 rfl ?_
          refine r_cVv (pc := 133) C hfl k_X10_224 (c_lw hm (by omega) (by (try simp only [List.length_append, List.length_cons, List.length_nil, dl_len]); omega)) hm.1 ca_X10 rfl rfl (Nat.le_of_ble_eq_true rfl) (by decide) (by decide) dX10_formatLoan_133 ?_
          refine r_aload_n (pc := 136) C 0 dX10_formatLoan_136 rfl rfl ?_
          refine r_aload_n (pc := 137) C 0 dX10_formatLoan_137 rfl rfl ?_
          refine r_iload_n (pc := 138) C 1 dX10_formatLoan_138 rfl rfl ?_
          refine r_bipush (pc := 139) (v := 6) C dX10_formatLoan_139 rfl ?_
          refine r_iload_n (pc := 141) C 2 dX10_formatLoan_141 rfl rfl ?_
          refine r_iaddN (pc := 142) C dX10_formatLoan_142 ?_
          refine r_cVi (pc := 143) C hfl k_X10_58 (c_isR hm (by omega) (by omega)) hm.1 ca_X10 rfl rfl (Nat.le_of_ble_eq_true rfl) (by decide) (by decide) dX10_formatLoan_143 ?_
          refine r_t (y := nI ((u q))) (((congrFun (lnL_o (by omega) (by omega)) _).trans (congrFun (u2_r (by omega)) _)).trans (e6 q c_105)) ?_
          refine r_cVv (pc := 146) C hfl k_X10_227 (c_ld hm (by omega) (by (try simp only [List.length_append, List.length_cons, List.length_nil, dl_len]); omega)) hm.1 ca_X10 rfl rfl (Nat.le_of_ble_eq_true rfl) (by decide) (by decide) dX10_formatLoan_146 ?_
          refine r_iincN (pc := 149) (m := 1) (lo' := [(3, _), (0, _), (2, _)]) C 2 dX10_formatLoan_149 rfl rfl (by decide) rfl ?_
          refine r_goto (pc := 152) (tgt := 103) C dX10_formatLoan_152 rfl ?_
          refine r_ls [1, 2, 0] rfl ?_
          refine r_I (I' := (lnL (u2 I M 0 (nI 0)) M (fmL id b pr ac rt du ++ kdl u (q + 1)))) (congrArg (lnL _ M) (by rw [kdl, if_neg c_117]; simp only [List.append_assoc, List.cons_append, List.nil_append])) ?_
          exact ih_103 (q + 1) (by omega) (by omega)
        · skip
          refine r_goto (pc := 120) (tgt := 149) C dX10_formatLoan_120 rfl ?_
          refine r_iincN (pc := 149) (m := 1) (lo' := [(3, _), (0, _), (2, _)]) C 2 dX10_formatLoan_149 rfl rfl (by decide) rfl ?_
          refine r_goto (pc := 152) (tgt := 103) C dX10_formatLoan_152 rfl ?_
          refine r_ls [1, 2, 0] rfl ?_
          refine r_I (I' := (lnL (u2 I M 0 (nI 0)) M (fmL id b pr ac rt du ++ kdl u (q + 1)))) (by rw [kdl, if_pos c_117, List.append_nil]) ?_
          exact ih_103 (q + 1) (by omega) (by omega)
  refine r_ls [2, 1, 0] rfl ?_
  refine r_I (I' := (lnL (u2 I M 0 (nI 0)) M (fmL id b pr ac rt du ++ kdl u 0))) (by rw [kdl, List.append_nil]; rfl) ?_
  exact loop_103 5 0 (by omega) (by omega)

set_option maxHeartbeats 1000000 in
theorem c_formatLoan__n {g : GG} {X : va_W} {T : TT} {I : II} {M : Nat} {w : Nat → Int32} (hm : isMd T M) (hw0 : I (M + 1) = w) {x : Int32} {N : Nat} (hN : w 2 = nI N) (hN10 : N ≤ 10) (hr : atS w N x (-1)) : Mc g yX10_formatLoan cX10_formatLoan 4 (some .int) 6 0 0 [.ref M, .int x] X T I (Ex (some (.int (nI 0))) X T (u2 I M 0 (nI 1))) := by
  subst hw0
  refine Mc.of (by decide) (Nat.le_of_ble_eq_true rfl) (fun k hfl C => ?_)
  refine r_lo (lo' := [(0, _), (1, _)]) rfl ?_
  refine r_aload_n (pc := 0) C 0 dX10_formatLoan_0 rfl rfl ?_
  refine r_iconst (pc := 1) (v := 0) C dX10_formatLoan_1 rfl ?_
  refine r_putI (pc := 2) C f_X10_1 hm.1 rfl rfl rfl dX10_formatLoan_2 ?_
  refine r_aload_n (pc := 5) C 0 dX10_formatLoan_5 rfl rfl ?_
  refine r_iload_n (pc := 6) C 1 dX10_formatLoan_6 rfl rfl ?_
  refine r_cVi (pc := 7) C hfl k_X10_121 (c_slotOfR hm ((congrFun (u2_r (by omega)) _).trans hN) hN10 (by rw [u2_r (by omega)]; exact hr)) hm.1 ca_X10 rfl rfl (Nat.le_of_ble_eq_true rfl) (by decide) (by decide) dX10_formatLoan_7 ?_
  refine r_istore_n (pc := 10) (lo' := [(2, _), (0, _), (1, _)]) C dX10_formatLoan_10 rfl (by decide) rfl ?_
  refine r_iload_n (pc := 11) C 0 dX10_formatLoan_11 rfl rfl ?_
  refine r_ifge (pc := 12) (tgt := 21) C dX10_formatLoan_12 rfl (fun c => absurd c (by decide)) (fun _ => ?_)
  refine r_aload_n (pc := 15) C 1 dX10_formatLoan_15 rfl rfl ?_
  refine r_iconst (pc := 16) (v := 1) C dX10_formatLoan_16 rfl ?_
  refine r_cVi (pc := 17) C hfl k_X10_79 (c_failsI hm) hm.1 ca_X10 rfl rfl (Nat.le_of_ble_eq_true rfl) (by decide) (by decide) dX10_formatLoan_17 ?_
  exact r_iret (pc := 20) C dX10_formatLoan_20 ⟨rfl, rfl, rfl, by rw [u2_u2]⟩ (by decide)
