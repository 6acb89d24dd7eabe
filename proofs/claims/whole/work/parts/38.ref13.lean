set_option maxHeartbeats 1000000 in
theorem c_meanDebt__v {g : GG} {X : va_W} {T : TT} {I : II} {M : Nat} {w : Nat → Int32} (hm : isMd T M) {N : Nat} (hN : w 2 = nI N) (hN10 : N ≤ 10) (h0 : 0 < N) : Mc g yX10_meanDebt cX10_meanDebt 3 (some .double) 6 0 0 [.ref M] X T (sr I (M + 1) w) (Ex (some (.double (dqV (debtsAllV w N) (nI N)))) X T (sr (u2 I M 0 (nI 0)) (M + 1) w)) := by
  refine Mc.of (by decide) (Nat.le_of_ble_eq_true rfl) (fun k hfl C => ?_)
  refine r_lo (lo' := [(0, _)]) rfl ?_
  refine r_aload_n (pc := 0) C 0 dX10_meanDebt_0 rfl rfl ?_
  refine r_iconst (pc := 1) (v := 0) C dX10_meanDebt_1 rfl ?_
  refine r_wput (pc := 2) (by omega) C f_X10_1 hm.1 rfl rfl rfl dX10_meanDebt_2 ?_
  refine r_aload_n (pc := 5) C 0 dX10_meanDebt_5 rfl rfl ?_
  refine r_getR (pc := 6) (x := M + 1) C f_X10_13 hm.1 rfl rfl dX10_meanDebt_6 ?_
  refine r_iconst (pc := 9) (v := 2) C dX10_meanDebt_9 rfl ?_
  refine r_wld (pc := 10) (x := 2) C hm.2.1 rfl (by omega) (by decide) dX10_meanDebt_10 ?_
  refine r_t (y := nI N) hN ?_
  refine r_ifneN (pc := 11) (tgt := 21) C dX10_meanDebt_11 rfl (by omega) (fun c_11 => ?_) (fun c_11 => False.elim (by omega))
  refine r_iconst (pc := 21) (v := 0) C dX10_meanDebt_21 rfl ?_
  refine r_istore_n (pc := 22) (lo' := [(1, _), (0, _)]) C dX10_meanDebt_22 rfl (by decide) rfl ?_
  refine r_iconst (pc := 23) (v := 0) C dX10_meanDebt_23 rfl ?_
  refine r_istore_n (pc := 24) (lo' := [(2, _), (1, _), (0, _)]) C dX10_meanDebt_24 rfl (by decide) rfl ?_
  have loop_25 : ∀ (n_25 : Nat) (q : Nat) (a : Int32), N - q < n_25 → (q ≤ N) → (sm (fun s => debtV w s) (N - q) q a = debtsAllV w N) → Go g k 3 (Qm g k (Ex (some (.double (dqV (debtsAllV w N) (nI N)))) X T (sr (u2 I M 0 (nI 0)) (M + 1) w)) 0 0) 0 0 25 [(0, .ref M), (1, .int a), (2, .int (nI q))] [] X T ((sr (u2 I M 0 (nI 0)) (M + 1) w)) := by
    intro n_25
    induction n_25 with
    | zero => intro _ _ h_; exact absurd h_ (Nat.not_lt_zero _)
    | succ n_25 ih_25 =>
      intro q a hq hqN hinv
      refine r_iload_n (pc := 25) C 2 dX10_meanDebt_25 rfl rfl ?_
      refine r_aload_n (pc := 26) C 0 dX10_meanDebt_26 rfl rfl ?_
      refine r_getR (pc := 27) (x := M + 1) C f_X10_13 hm.1 rfl rfl dX10_meanDebt_27 ?_
      refine r_iconst (pc := 30) (v := 2) C dX10_meanDebt_30 rfl ?_
      refine r_wld (pc := 31) (x := 2) C hm.2.1 rfl (by omega) (by decide) dX10_meanDebt_31 ?_
      refine r_t (y := nI N) hN ?_
      refine r_cgeN (pc := 32) (tgt := 49) C dX10_meanDebt_32 rfl (by omega) (by omega) (fun c_32 => ?_) (fun c_32 => ?_)
      · skip
        rw [sm_end c_32 hinv]
        refine r_iload_n (pc := 49) C 1 dX10_meanDebt_49 rfl rfl ?_
        refine r_i2d (pc := 50) C dX10_meanDebt_50 ?_
        refine r_aload_n (pc := 51) C 0 dX10_meanDebt_51 rfl rfl ?_
        refine r_getR (pc := 52) (x := M + 1) C f_X10_13 hm.1 rfl rfl dX10_meanDebt_52 ?_
        refine r_iconst (pc := 55) (v := 2) C dX10_meanDebt_55 rfl ?_
        refine r_wld (pc := 56) (x := 2) C hm.2.1 rfl (by omega) (by decide) dX10_meanDebt_56 ?_
        refine r_t (y := nI N) hN ?_
        refine r_i2d (pc := 57) C dX10_meanDebt_57 ?_
        refine r_ddiv (pc := 58) C dX10_meanDebt_58 (dq_n (nI_i0 h0 (by omega))) ?_
        exact r_dret (pc := 59) C dX10_meanDebt_59 ⟨rfl, rfl, rfl, rfl⟩ (by decide)
      · skip
        refine r_iload_n (pc := 35) C 1 dX10_meanDebt_35 rfl rfl ?_
        refine r_aload_n (pc := 36) C 0 dX10_meanDebt_36 rfl rfl ?_
        refine r_iload_n (pc := 37) C 2 dX10_meanDebt_37 rfl rfl ?_
        refine r_cVi (pc := 38) C hfl k_X10_62 (c_debtAt hm (by omega)) hm.1 ca_X10 rfl rfl (Nat.le_of_ble_eq_true rfl) (by decide) (by decide) dX10_meanDebt_38 ?_
        refine r_iadd (pc := 41) C dX10_meanDebt_41 ?_
        refine r_istore_n (pc := 42) (lo' := [(1, _), (0, _), (2, _)]) C dX10_meanDebt_42 rfl (by decide) rfl ?_
        refine r_iincN (pc := 43) (m := 1) (lo' := [(2, _), (1, _), (0, _)]) C 2 dX10_meanDebt_43 rfl rfl (by decide) rfl ?_
        refine r_goto (pc := 46) (tgt := 25) C dX10_meanDebt_46 rfl ?_
        refine r_ls [2, 1, 0] rfl ?_
        exact ih_25 (q + 1) _ (by omega) (by omega) (sm_go c_32 hinv rfl)
  refine r_ls [2, 1, 0] rfl ?_
  exact loop_25 (N + 1) 0 (nI 0) (by omega) (by omega) rfl

set_option maxHeartbeats 1000000 in
theorem c_meanDebt__x {g : GG} {X : va_W} {T : TT} {I : II} {M : Nat} {w : Nat → Int32} (hm : isMd T M) (hN : w 2 = nI 0) : Mc g yX10_meanDebt cX10_meanDebt 3 (some .double) 6 0 0 [.ref M] X T (sr I (M + 1) w) (Ex (some (.double (FP.i2d (nI 0)))) X T (sr (u2 I M 0 (nI 1)) (M + 1) w)) := by
  refine Mc.of (by decide) (Nat.le_of_ble_eq_true rfl) (fun k hfl C => ?_)
  refine r_lo (lo' := [(0, _)]) rfl ?_
  refine r_aload_n (pc := 0) C 0 dX10_meanDebt_0 rfl rfl ?_
  refine r_iconst (pc := 1) (v := 0) C dX10_meanDebt_1 rfl ?_
  refine r_wput (pc := 2) (by omega) C f_X10_1 hm.1 rfl rfl rfl dX10_meanDebt_2 ?_
  refine r_aload_n (pc := 5) C 0 dX10_meanDebt_5 rfl rfl ?_
  refine r_getR (pc := 6) (x := M + 1) C f_X10_13 hm.1 rfl rfl dX10_meanDebt_6 ?_
  refine r_iconst (pc := 9) (v := 2) C dX10_meanDebt_9 rfl ?_
  refine r_wld (pc := 10) (x := 2) C hm.2.1 rfl (by omega) (by decide) dX10_meanDebt_10 ?_
  refine r_t (y := nI 0) hN ?_
  refine r_ifneN (pc := 11) (tgt := 21) C dX10_meanDebt_11 rfl (by omega) (fun c_11 => False.elim (by omega)) (fun c_11 => ?_)
  refine r_aload_n (pc := 14) C 0 dX10_meanDebt_14 rfl rfl ?_
  refine r_iconst (pc := 15) (v := 1) C dX10_meanDebt_15 rfl ?_
  refine r_cVi (pc := 16) C hfl k_X10_79 (c_fails hm) hm.1 ca_X10 rfl rfl (Nat.le_of_ble_eq_true rfl) (by decide) (by decide) dX10_meanDebt_16 ?_
  refine r_i2d (pc := 19) C dX10_meanDebt_19 ?_
  exact r_dret (pc := 20) C dX10_meanDebt_20 ⟨rfl, rfl, rfl, by rw [u2_u2]⟩ (by decide)

set_option maxHeartbeats 1000000 in
theorem c_defaultShare__v {g : GG} {X : va_W} {T : TT} {I : II} {M : Nat} {w : Nat → Int32} (hm : isMd T M) {x : Nat} (hx : w 3 = nI x) (h0 : 0 < x) (hx2 : x < 2 ^ 31) : Mc g yX10_defaultShare cX10_defaultShare 1 (some .float) 6 0 0 [.ref M] X T (sr I (M + 1) w) (Ex (some (.float (fqV (w 7) (nI x)))) X T (sr (u2 I M 0 (nI 0)) (M + 1) w)) := by
  refine Mc.of (by decide) (Nat.le_of_ble_eq_true rfl) (fun k hfl C => ?_)
  refine r_lo (lo' := [(0, _)]) rfl ?_
  refine r_aload_n (pc := 0) C 0 dX10_defaultShare_0 rfl rfl ?_
  refine r_iconst (pc := 1) (v := 0) C dX10_defaultShare_1 rfl ?_
  refine r_wput (pc := 2) (by omega) C f_X10_1 hm.1 rfl rfl rfl dX10_defaultShare_2 ?_
  refine r_aload_n (pc := 5) C 0 dX10_defaultShare_5 rfl rfl ?_
  refine r_getR (pc := 6) (x := M + 1) C f_X10_13 hm.1 rfl rfl dX10_defaultShare_6 ?_
  refine r_iconst (pc := 9) (v := 3) C dX10_defaultShare_9 rfl ?_
  refine r_wld (pc := 10) (x := 3) C hm.2.1 rfl (by omega) (by decide) dX10_defaultShare_10 ?_
  refine r_t (y := nI x) hx ?_
  refine r_ifneN (pc := 11) (tgt := 23) C dX10_defaultShare_11 rfl (by omega) (fun c_11 => ?_) (fun c_11 => False.elim (by omega))
  refine r_aload_n (pc := 23) C 0 dX10_defaultShare_23 rfl rfl ?_
  refine r_getR (pc := 24) (x := M + 1) C f_X10_13 hm.1 rfl rfl dX10_defaultShare_24 ?_
  refine r_bipush (pc := 27) (v := 7) C dX10_defaultShare_27 rfl ?_
  refine r_wld (pc := 29) (x := 7) C hm.2.1 rfl (by omega) (by decide) dX10_defaultShare_29 ?_
  refine r_i2f (pc := 30) C dX10_defaultShare_30 ?_
  refine r_aload_n (pc := 31) C 0 dX10_defaultShare_31 rfl rfl ?_
  refine r_getR (pc := 32) (x := M + 1) C f_X10_13 hm.1 rfl rfl dX10_defaultShare_32 ?_
  refine r_iconst (pc := 35) (v := 3) C dX10_defaultShare_35 rfl ?_
  refine r_wld (pc := 36) (x := 3) C hm.2.1 rfl (by omega) (by decide) dX10_defaultShare_36 ?_
  refine r_t (y := nI x) hx ?_
  refine r_i2f (pc := 37) C dX10_defaultShare_37 ?_
  refine r_fdiv (pc := 38) C dX10_defaultShare_38 (fq_n (nI_i0 h0 hx2)) ?_
  exact r_fret (pc := 39) C dX10_defaultShare_39 ⟨rfl, rfl, rfl, rfl⟩ (by decide)

set_option maxHeartbeats 1000000 in
theorem c_defaultShare__x {g : GG} {X : va_W} {T : TT} {I : II} {M : Nat} {w : Nat → Int32} (hm : isMd T M) (hx : w 3 = nI 0) : Mc g yX10_defaultShare cX10_defaultShare 1 (some .float) 6 0 0 [.ref M] X T (sr I (M + 1) w) (Ex (some (.float (FP.i2f (nI 0)))) X T (sr (u2 I M 0 (nI 1)) (M + 1) w)) := by
  refine Mc.of (by decide) (Nat.le_of_ble_eq_true rfl) (fun k hfl C => ?_)
  refine r_lo (lo' := [(0, _)]) rfl ?_
  refine r_aload_n (pc := 0) C 0 dX10_defaultShare_0 rfl rfl ?_
  refine r_iconst (pc := 1) (v := 0) C dX10_defaultShare_1 rfl ?_
  refine r_wput (pc := 2) (by omega) C f_X10_1 hm.1 rfl rfl rfl dX10_defaultShare_2 ?_
  refine r_aload_n (pc := 5) C 0 dX10_defaultShare_5 rfl rfl ?_
  refine r_getR (pc := 6) (x := M + 1) C f_X10_13 hm.1 rfl rfl dX10_defaultShare_6 ?_
  refine r_iconst (pc := 9) (v := 3) C dX10_defaultShare_9 rfl ?_
  refine r_wld (pc := 10) (x := 3) C hm.2.1 rfl (by omega) (by decide) dX10_defaultShare_10 ?_
  refine r_t (y := nI 0) hx ?_
  refine r_ifneN (pc := 11) (tgt := 23) C dX10_defaultShare_11 rfl (by omega) (fun c_11 => False.elim (by omega)) (fun c_11 => ?_)
  refine r_aload_n (pc := 14) C 0 dX10_defaultShare_14 rfl rfl ?_
  refine r_iconst (pc := 15) (v := 1) C dX10_defaultShare_15 rfl ?_
  refine r_cVi (pc := 16) C hfl k_X10_79 (c_fails hm) hm.1 ca_X10 rfl rfl (Nat.le_of_ble_eq_true rfl) (by decide) (by decide) dX10_defaultShare_16 ?_
  refine r_i2f (pc := 19) C dX10_defaultShare_19 ?_
  refine r_goto (pc := 20) (tgt := 39) C dX10_defaultShare_20 rfl ?_
  exact r_fret (pc := 39) C dX10_defaultShare_39 ⟨rfl, rfl, rfl, by rw [u2_u2]⟩ (by decide)
