set_option maxHeartbeats 1000000 in
theorem c_asks {g : GG} {X : va_W} {T : TT} {I : II} {M : Nat} {w : Nat → Int32} (hm : isMd T M) {j : Nat} (hj : j < 10) : Mc g yX10_asks cX10_asks 2 (some .int) 6 0 0 [.ref M, .int (nI j)] X T (sr I (M + 1) w) (Ex (some (.int (w j))) X T (sr (u2 I M 0 (nI 0)) (M + 1) w)) := by
  refine Mc.of (by decide) (Nat.le_of_ble_eq_true rfl) (fun k hfl C => ?_)
  refine r_lo (lo' := [(0, _), (1, _)]) rfl ?_
  refine r_aload_n (pc := 0) C 0 dX10_asks_0 rfl rfl ?_
  refine r_iconst (pc := 1) (v := 0) C dX10_asks_1 rfl ?_
  refine r_wput (pc := 2) (by omega) C f_X10_1 hm.1 rfl rfl rfl dX10_asks_2 ?_
  refine r_aload_n (pc := 5) C 0 dX10_asks_5 rfl rfl ?_
  refine r_getR (pc := 6) (x := M + 1) C f_X10_13 hm.1 rfl rfl dX10_asks_6 ?_
  refine r_iload_n (pc := 9) C 1 dX10_asks_9 rfl rfl ?_
  refine r_wld (pc := 10) (x := j) C hm.2.1 rfl (by omega) (by decide) dX10_asks_10 ?_
  exact r_iret (pc := 11) C dX10_asks_11 ⟨rfl, rfl, rfl, rfl⟩ (by decide)

set_option maxHeartbeats 1000000 in
theorem c_day {g : GG} {X : va_W} {T : TT} {I : II} {M : Nat} {w : Nat → Int32} (hm : isMd T M)  : Mc g yX10_day cX10_day 1 (some .int) 7 0 0 [.ref M] X T (sr I (M + 1) w) (Ex (some (.int (w 0))) X T (sr (u2 I M 0 (nI 0)) (M + 1) w)) := by
  refine Mc.of (by decide) (Nat.le_of_ble_eq_true rfl) (fun k hfl C => ?_)
  refine r_lo (lo' := [(0, _)]) rfl ?_
  refine r_aload_n (pc := 0) C 0 dX10_day_0 rfl rfl ?_
  refine r_iconst (pc := 1) (v := 0) C dX10_day_1 rfl ?_
  refine r_cVi (pc := 2) C hfl k_X10_181 (c_asks hm (by omega)) hm.1 ca_X10 rfl rfl (Nat.le_of_ble_eq_true rfl) (by decide) (by decide) dX10_day_2 ?_
  exact r_iret (pc := 5) C dX10_day_5 ⟨rfl, rfl, rfl, rfl⟩ (by decide)

set_option maxHeartbeats 1000000 in
theorem c_capital {g : GG} {X : va_W} {T : TT} {I : II} {M : Nat} {w : Nat → Int32} (hm : isMd T M)  : Mc g yX10_capital cX10_capital 1 (some .int) 7 0 0 [.ref M] X T (sr I (M + 1) w) (Ex (some (.int (w 4))) X T (sr (u2 I M 0 (nI 0)) (M + 1) w)) := by
  refine Mc.of (by decide) (Nat.le_of_ble_eq_true rfl) (fun k hfl C => ?_)
  refine r_lo (lo' := [(0, _)]) rfl ?_
  refine r_aload_n (pc := 0) C 0 dX10_capital_0 rfl rfl ?_
  refine r_iconst (pc := 1) (v := 4) C dX10_capital_1 rfl ?_
  refine r_cVi (pc := 2) C hfl k_X10_181 (c_asks hm (by omega)) hm.1 ca_X10 rfl rfl (Nat.le_of_ble_eq_true rfl) (by decide) (by decide) dX10_capital_2 ?_
  exact r_iret (pc := 5) C dX10_capital_5 ⟨rfl, rfl, rfl, rfl⟩ (by decide)

set_option maxHeartbeats 1000000 in
theorem c_borrowerCount {g : GG} {X : va_W} {T : TT} {I : II} {M : Nat} {w : Nat → Int32} (hm : isMd T M)  : Mc g yX10_borrowerCount cX10_borrowerCount 1 (some .int) 7 0 0 [.ref M] X T (sr I (M + 1) w) (Ex (some (.int (w 1))) X T (sr (u2 I M 0 (nI 0)) (M + 1) w)) := by
  refine Mc.of (by decide) (Nat.le_of_ble_eq_true rfl) (fun k hfl C => ?_)
  refine r_lo (lo' := [(0, _)]) rfl ?_
  refine r_aload_n (pc := 0) C 0 dX10_borrowerCount_0 rfl rfl ?_
  refine r_iconst (pc := 1) (v := 1) C dX10_borrowerCount_1 rfl ?_
  refine r_cVi (pc := 2) C hfl k_X10_181 (c_asks hm (by omega)) hm.1 ca_X10 rfl rfl (Nat.le_of_ble_eq_true rfl) (by decide) (by decide) dX10_borrowerCount_2 ?_
  exact r_iret (pc := 5) C dX10_borrowerCount_5 ⟨rfl, rfl, rfl, rfl⟩ (by decide)

set_option maxHeartbeats 1000000 in
theorem c_loanCount {g : GG} {X : va_W} {T : TT} {I : II} {M : Nat} {w : Nat → Int32} (hm : isMd T M)  : Mc g yX10_loanCount cX10_loanCount 1 (some .int) 7 0 0 [.ref M] X T (sr I (M + 1) w) (Ex (some (.int (w 2))) X T (sr (u2 I M 0 (nI 0)) (M + 1) w)) := by
  refine Mc.of (by decide) (Nat.le_of_ble_eq_true rfl) (fun k hfl C => ?_)
  refine r_lo (lo' := [(0, _)]) rfl ?_
  refine r_aload_n (pc := 0) C 0 dX10_loanCount_0 rfl rfl ?_
  refine r_iconst (pc := 1) (v := 2) C dX10_loanCount_1 rfl ?_
  refine r_cVi (pc := 2) C hfl k_X10_181 (c_asks hm (by omega)) hm.1 ca_X10 rfl rfl (Nat.le_of_ble_eq_true rfl) (by decide) (by decide) dX10_loanCount_2 ?_
  exact r_iret (pc := 5) C dX10_loanCount_5 ⟨rfl, rfl, rfl, rfl⟩ (by decide)

set_option maxHeartbeats 1000000 in
theorem c_ledgerSize {g : GG} {X : va_W} {T : TT} {I : II} {M : Nat} {w : Nat → Int32} (hm : isMd T M)  : Mc g yX10_ledgerSize cX10_ledgerSize 1 (some .int) 7 0 0 [.ref M] X T (sr I (M + 1) w) (Ex (some (.int (w 5))) X T (sr (u2 I M 0 (nI 0)) (M + 1) w)) := by
  refine Mc.of (by decide) (Nat.le_of_ble_eq_true rfl) (fun k hfl C => ?_)
  refine r_lo (lo' := [(0, _)]) rfl ?_
  refine r_aload_n (pc := 0) C 0 dX10_ledgerSize_0 rfl rfl ?_
  refine r_iconst (pc := 1) (v := 5) C dX10_ledgerSize_1 rfl ?_
  refine r_cVi (pc := 2) C hfl k_X10_181 (c_asks hm (by omega)) hm.1 ca_X10 rfl rfl (Nat.le_of_ble_eq_true rfl) (by decide) (by decide) dX10_ledgerSize_2 ?_
  exact r_iret (pc := 5) C dX10_ledgerSize_5 ⟨rfl, rfl, rfl, rfl⟩ (by decide)

set_option maxHeartbeats 1000000 in
theorem c_repaidLoans {g : GG} {X : va_W} {T : TT} {I : II} {M : Nat} {w : Nat → Int32} (hm : isMd T M)  : Mc g yX10_repaidLoans cX10_repaidLoans 1 (some .int) 7 0 0 [.ref M] X T (sr I (M + 1) w) (Ex (some (.int (w 6))) X T (sr (u2 I M 0 (nI 0)) (M + 1) w)) := by
  refine Mc.of (by decide) (Nat.le_of_ble_eq_true rfl) (fun k hfl C => ?_)
  refine r_lo (lo' := [(0, _)]) rfl ?_
  refine r_aload_n (pc := 0) C 0 dX10_repaidLoans_0 rfl rfl ?_
  refine r_bipush (pc := 1) (v := 6) C dX10_repaidLoans_1 rfl ?_
  refine r_cVi (pc := 3) C hfl k_X10_181 (c_asks hm (by omega)) hm.1 ca_X10 rfl rfl (Nat.le_of_ble_eq_true rfl) (by decide) (by decide) dX10_repaidLoans_3 ?_
  exact r_iret (pc := 6) C dX10_repaidLoans_6 ⟨rfl, rfl, rfl, rfl⟩ (by decide)

set_option maxHeartbeats 1000000 in
theorem c_defaultedLoans {g : GG} {X : va_W} {T : TT} {I : II} {M : Nat} {w : Nat → Int32} (hm : isMd T M)  : Mc g yX10_defaultedLoans cX10_defaultedLoans 1 (some .int) 7 0 0 [.ref M] X T (sr I (M + 1) w) (Ex (some (.int (w 7))) X T (sr (u2 I M 0 (nI 0)) (M + 1) w)) := by
  refine Mc.of (by decide) (Nat.le_of_ble_eq_true rfl) (fun k hfl C => ?_)
  refine r_lo (lo' := [(0, _)]) rfl ?_
  refine r_aload_n (pc := 0) C 0 dX10_defaultedLoans_0 rfl rfl ?_
  refine r_bipush (pc := 1) (v := 7) C dX10_defaultedLoans_1 rfl ?_
  refine r_cVi (pc := 3) C hfl k_X10_181 (c_asks hm (by omega)) hm.1 ca_X10 rfl rfl (Nat.le_of_ble_eq_true rfl) (by decide) (by decide) dX10_defaultedLoans_3 ?_
  exact r_iret (pc := 6) C dX10_defaultedLoans_6 ⟨rfl, rfl, rfl, rfl⟩ (by decide)

set_option maxHeartbeats 1000000 in
theorem c_losses {g : GG} {X : va_W} {T : TT} {I : II} {M : Nat} {w : Nat → Int32} (hm : isMd T M)  : Mc g yX10_losses cX10_losses 1 (some .int) 7 0 0 [.ref M] X T (sr I (M + 1) w) (Ex (some (.int (w 8))) X T (sr (u2 I M 0 (nI 0)) (M + 1) w)) := by
  refine Mc.of (by decide) (Nat.le_of_ble_eq_true rfl) (fun k hfl C => ?_)
  refine r_lo (lo' := [(0, _)]) rfl ?_
  refine r_aload_n (pc := 0) C 0 dX10_losses_0 rfl rfl ?_
  refine r_bipush (pc := 1) (v := 8) C dX10_losses_1 rfl ?_
  refine r_cVi (pc := 3) C hfl k_X10_181 (c_asks hm (by omega)) hm.1 ca_X10 rfl rfl (Nat.le_of_ble_eq_true rfl) (by decide) (by decide) dX10_losses_3 ?_
  exact r_iret (pc := 6) C dX10_losses_6 ⟨rfl, rfl, rfl, rfl⟩ (by decide)

set_option maxHeartbeats 1000000 in
theorem c_asksKind__v {g : GG} {X : va_W} {T : TT} {I : II} {M : Nat} {w : Nat → Int32} (hm : isMd T M) {m j : Nat} (hm4 : m < 4) (hj : j < 20) : Mc g yX10_asksKind cX10_asksKind 3 (some .int) 6 0 0 [.ref M, .int (nI m), .int (nI j)] X T (sr I (M + 1) w) (Ex (some (.int (w (j + m)))) X T (sr (u2 I M 0 (nI 0)) (M + 1) w)) := by
  refine Mc.of (by decide) (Nat.le_of_ble_eq_true rfl) (fun k hfl C => ?_)
  refine r_lo (lo' := [(0, _), (1, _), (2, _)]) rfl ?_
  refine r_aload_n (pc := 0) C 0 dX10_asksKind_0 rfl rfl ?_
  refine r_iconst (pc := 1) (v := 0) C dX10_asksKind_1 rfl ?_
  refine r_wput (pc := 2) (by omega) C f_X10_1 hm.1 rfl rfl rfl dX10_asksKind_2 ?_
  refine r_iload_n (pc := 5) C 1 dX10_asksKind_5 rfl rfl ?_
  refine r_cSi (pc := 6) C hfl k_X10_92 (c_isKind _) rfl rfl (Nat.le_of_ble_eq_true rfl) (by decide) (by decide) dX10_asksKind_6 ?_
  refine r_ifeqB (pc := 9) (tgt := 23) C dX10_asksKind_9 rfl (fun c_9 => False.elim (by exact c_9 (okK_nI hm4))) (fun c_9 => ?_)
  refine r_aload_n (pc := 12) C 0 dX10_asksKind_12 rfl rfl ?_
  refine r_getR (pc := 13) (x := M + 1) C f_X10_13 hm.1 rfl rfl dX10_asksKind_13 ?_
  refine r_iload_n (pc := 16) C 2 dX10_asksKind_16 rfl rfl ?_
  refine r_iload_n (pc := 17) C 1 dX10_asksKind_17 rfl rfl ?_
  refine r_iaddN (pc := 18) C dX10_asksKind_18 ?_
  refine r_wld (pc := 19) (x := j + m) C hm.2.1 rfl (by omega) (by decide) dX10_asksKind_19 ?_
  refine r_goto (pc := 20) (tgt := 28) C dX10_asksKind_20 rfl ?_
  exact r_iret (pc := 28) C dX10_asksKind_28 ⟨rfl, rfl, rfl, rfl⟩ (by decide)

set_option maxHeartbeats 1000000 in
theorem c_asksKind__x {g : GG} {X : va_W} {T : TT} {I : II} {M : Nat} {w : Nat → Int32} (hm : isMd T M) {k_ : Int32} {j : Nat} (hk : ¬ okK k_) : Mc g yX10_asksKind cX10_asksKind 3 (some .int) 6 0 0 [.ref M, .int k_, .int (nI j)] X T (sr I (M + 1) w) (Ex (some (.int (nI 0))) X T (sr (u2 I M 0 (nI 1)) (M + 1) w)) := by
  refine Mc.of (by decide) (Nat.le_of_ble_eq_true rfl) (fun k hfl C => ?_)
  refine r_lo (lo' := [(0, _), (1, _), (2, _)]) rfl ?_
  refine r_aload_n (pc := 0) C 0 dX10_asksKind_0 rfl rfl ?_
  refine r_iconst (pc := 1) (v := 0) C dX10_asksKind_1 rfl ?_
  refine r_wput (pc := 2) (by omega) C f_X10_1 hm.1 rfl rfl rfl dX10_asksKind_2 ?_
  refine r_iload_n (pc := 5) C 1 dX10_asksKind_5 rfl rfl ?_
  refine r_cSi (pc := 6) C hfl k_X10_92 (c_isKind _) rfl rfl (Nat.le_of_ble_eq_true rfl) (by decide) (by decide) dX10_asksKind_6 ?_
  refine r_ifeqB (pc := 9) (tgt := 23) C dX10_asksKind_9 rfl (fun c_9 => ?_) (fun c_9 => False.elim (by exact hk c_9))
  refine r_aload_n (pc := 23) C 0 dX10_asksKind_23 rfl rfl ?_
  refine r_iconst (pc := 24) (v := 1) C dX10_asksKind_24 rfl ?_
  refine r_cVi (pc := 25) C hfl k_X10_79 (c_fails hm ) hm.1 ca_X10 rfl rfl (Nat.le_of_ble_eq_true rfl) (by decide) (by decide) dX10_asksKind_25 ?_
  exact r_iret (pc := 28) C dX10_asksKind_28 ⟨rfl, rfl, rfl, by rw [u2_u2]⟩ (by decide)

set_option maxHeartbeats 1000000 in
theorem c_price__v {g : GG} {X : va_W} {T : TT} {I : II} {M : Nat} {w : Nat → Int32} (hm : isMd T M) {m : Nat} (hm4 : m < 4) : Mc g yX10_price cX10_price 2 (some .int) 7 0 0 [.ref M, .int (nI m)] X T (sr I (M + 1) w) (Ex (some (.int (w (10 + m)))) X T (sr (u2 I M 0 (nI 0)) (M + 1) w)) := by
  refine Mc.of (by decide) (Nat.le_of_ble_eq_true rfl) (fun k hfl C => ?_)
  refine r_lo (lo' := [(0, _), (1, _)]) rfl ?_
  refine r_aload_n (pc := 0) C 0 dX10_price_0 rfl rfl ?_
  refine r_iload_n (pc := 1) C 1 dX10_price_1 rfl rfl ?_
  refine r_bipush (pc := 2) (v := 10) C dX10_price_2 rfl ?_
  refine r_cVi (pc := 4) C hfl k_X10_184 (c_asksKind__v hm hm4 (by omega)) hm.1 ca_X10 rfl rfl (Nat.le_of_ble_eq_true rfl) (by decide) (by decide) dX10_price_4 ?_
  exact r_iret (pc := 7) C dX10_price_7 ⟨rfl, rfl, rfl, rfl⟩ (by decide)

set_option maxHeartbeats 1000000 in
theorem c_price__x {g : GG} {X : va_W} {T : TT} {I : II} {M : Nat} {w : Nat → Int32} (hm : isMd T M) {k_ : Int32} (hk : ¬ okK k_) : Mc g yX10_price cX10_price 2 (some .int) 7 0 0 [.ref M, .int k_] X T (sr I (M + 1) w) (Ex (some (.int (nI 0))) X T (sr (u2 I M 0 (nI 1)) (M + 1) w)) := by
  refine Mc.of (by decide) (Nat.le_of_ble_eq_true rfl) (fun k hfl C => ?_)
  refine r_lo (lo' := [(0, _), (1, _)]) rfl ?_
  refine r_aload_n (pc := 0) C 0 dX10_price_0 rfl rfl ?_
  refine r_iload_n (pc := 1) C 1 dX10_price_1 rfl rfl ?_
  refine r_bipush (pc := 2) (v := 10) C dX10_price_2 rfl ?_
  refine r_cVi (pc := 4) C hfl k_X10_184 (c_asksKind__x hm hk) hm.1 ca_X10 rfl rfl (Nat.le_of_ble_eq_true rfl) (by decide) (by decide) dX10_price_4 ?_
  exact r_iret (pc := 7) C dX10_price_7 ⟨rfl, rfl, rfl, rfl⟩ (by decide)

set_option maxHeartbeats 1000000 in
theorem c_stock__v {g : GG} {X : va_W} {T : TT} {I : II} {M : Nat} {w : Nat → Int32} (hm : isMd T M) {m : Nat} (hm4 : m < 4) : Mc g yX10_stock cX10_stock 2 (some .int) 7 0 0 [.ref M, .int (nI m)] X T (sr I (M + 1) w) (Ex (some (.int (w (14 + m)))) X T (sr (u2 I M 0 (nI 0)) (M + 1) w)) := by
  refine Mc.of (by decide) (Nat.le_of_ble_eq_true rfl) (fun k hfl C => ?_)
  refine r_lo (lo' := [(0, _), (1, _)]) rfl ?_
  refine r_aload_n (pc := 0) C 0 dX10_stock_0 rfl rfl ?_
  refine r_iload_n (pc := 1) C 1 dX10_stock_1 rfl rfl ?_
  refine r_bipush (pc := 2) (v := 14) C dX10_stock_2 rfl ?_
  refine r_cVi (pc := 4) C hfl k_X10_184 (c_asksKind__v hm hm4 (by omega)) hm.1 ca_X10 rfl rfl (Nat.le_of_ble_eq_true rfl) (by decide) (by decide) dX10_stock_4 ?_
  exact r_iret (pc := 7) C dX10_stock_7 ⟨rfl, rfl, rfl, rfl⟩ (by decide)

set_option maxHeartbeats 1000000 in
theorem c_stock__x {g : GG} {X : va_W} {T : TT} {I : II} {M : Nat} {w : Nat → Int32} (hm : isMd T M) {k_ : Int32} (hk : ¬ okK k_) : Mc g yX10_stock cX10_stock 2 (some .int) 7 0 0 [.ref M, .int k_] X T (sr I (M + 1) w) (Ex (some (.int (nI 0))) X T (sr (u2 I M 0 (nI 1)) (M + 1) w)) := by
  refine Mc.of (by decide) (Nat.le_of_ble_eq_true rfl) (fun k hfl C => ?_)
  refine r_lo (lo' := [(0, _), (1, _)]) rfl ?_
  refine r_aload_n (pc := 0) C 0 dX10_stock_0 rfl rfl ?_
  refine r_iload_n (pc := 1) C 1 dX10_stock_1 rfl rfl ?_
  refine r_bipush (pc := 2) (v := 14) C dX10_stock_2 rfl ?_
  refine r_cVi (pc := 4) C hfl k_X10_184 (c_asksKind__x hm hk) hm.1 ca_X10 rfl rfl (Nat.le_of_ble_eq_true rfl) (by decide) (by decide) dX10_stock_4 ?_
  exact r_iret (pc := 7) C dX10_stock_7 ⟨rfl, rfl, rfl, rfl⟩ (by decide)

set_option maxHeartbeats 1000000 in
theorem c_asksBorrower__v {g : GG} {X : va_W} {T : TT} {I : II} {M : Nat} {w : Nat → Int32} (hm : isMd T M) {B : Nat} (hB : w 1 = nI B) (hB6 : B ≤ 6) {n : Nat} (hn : n < B) {j : Nat} (hj : j < 10) : Mc g yX10_asksBorrower cX10_asksBorrower 3 (some .int) 6 0 0 [.ref M, .int (nI n), .int (nI j)] X T (sr I (M + 1) w) (Ex (some (.int (w (22 + 6 * n + j)))) X T (sr (u2 I M 0 (nI 0)) (M + 1) w)) := by
  refine Mc.of (by decide) (Nat.le_of_ble_eq_true rfl) (fun k hfl C => ?_)
  refine r_lo (lo' := [(0, _), (1, _), (2, _)]) rfl ?_
  refine r_aload_n (pc := 0) C 0 dX10_asksBorrower_0 rfl rfl ?_
  refine r_iconst (pc := 1) (v := 0) C dX10_asksBorrower_1 rfl ?_
  refine r_wput (pc := 2) (by omega) C f_X10_1 hm.1 rfl rfl rfl dX10_asksBorrower_2 ?_
  refine r_aload_n (pc := 5) C 0 dX10_asksBorrower_5 rfl rfl ?_
  refine r_iload_n (pc := 6) C 1 dX10_asksBorrower_6 rfl rfl ?_
  refine r_cVi (pc := 7) C hfl k_X10_88 (c_isBorrower hm hB hB6) hm.1 ca_X10 rfl rfl (Nat.le_of_ble_eq_true rfl) (by decide) (by decide) dX10_asksBorrower_7 ?_
  refine r_ifeqB (pc := 10) (tgt := 22) C dX10_asksBorrower_10 rfl (fun c_10 => False.elim (by exact c_10 (okB_nI hB6 hn))) (fun c_10 => ?_)
  refine r_aload_n (pc := 13) C 0 dX10_asksBorrower_13 rfl rfl ?_
  refine r_iload_n (pc := 14) C 1 dX10_asksBorrower_14 rfl rfl ?_
  refine r_iload_n (pc := 15) C 2 dX10_asksBorrower_15 rfl rfl ?_
  refine r_cVi (pc := 16) C hfl k_X10_95 (c_of hm (by omega) (by omega)) hm.1 ca_X10 rfl rfl (Nat.le_of_ble_eq_true rfl) (by decide) (by decide) dX10_asksBorrower_16 ?_
  refine r_goto (pc := 19) (tgt := 27) C dX10_asksBorrower_19 rfl ?_
  exact r_iret (pc := 27) C dX10_asksBorrower_27 ⟨rfl, rfl, rfl, rfl⟩ (by decide)

set_option maxHeartbeats 1000000 in
theorem c_asksBorrower__x {g : GG} {X : va_W} {T : TT} {I : II} {M : Nat} {w : Nat → Int32} (hm : isMd T M) {b : Int32} {B : Nat} (hB : w 1 = nI B) (hB6 : B ≤ 6) (hx : ¬ okB B b) {j : Nat} : Mc g yX10_asksBorrower cX10_asksBorrower 3 (some .int) 6 0 0 [.ref M, .int b, .int (nI j)] X T (sr I (M + 1) w) (Ex (some (.int (nI 0))) X T (sr (u2 I M 0 (nI 1)) (M + 1) w)) := by
  refine Mc.of (by decide) (Nat.le_of_ble_eq_true rfl) (fun k hfl C => ?_)
  refine r_lo (lo' := [(0, _), (1, _), (2, _)]) rfl ?_
  refine r_aload_n (pc := 0) C 0 dX10_asksBorrower_0 rfl rfl ?_
  refine r_iconst (pc := 1) (v := 0) C dX10_asksBorrower_1 rfl ?_
  refine r_wput (pc := 2) (by omega) C f_X10_1 hm.1 rfl rfl rfl dX10_asksBorrower_2 ?_
  refine r_aload_n (pc := 5) C 0 dX10_asksBorrower_5 rfl rfl ?_
  refine r_iload_n (pc := 6) C 1 dX10_asksBorrower_6 rfl rfl ?_
  refine r_cVi (pc := 7) C hfl k_X10_88 (c_isBorrower hm hB hB6) hm.1 ca_X10 rfl rfl (Nat.le_of_ble_eq_true rfl) (by decide) (by decide) dX10_asksBorrower_7 ?_
  refine r_ifeqB (pc := 10) (tgt := 22) C dX10_asksBorrower_10 rfl (fun c_10 => ?_) (fun c_10 => False.elim (by exact hx c_10))
  refine r_aload_n (pc := 22) C 0 dX10_asksBorrower_22 rfl rfl ?_
  refine r_iconst (pc := 23) (v := 1) C dX10_asksBorrower_23 rfl ?_
  refine r_cVi (pc := 24) C hfl k_X10_79 (c_fails hm ) hm.1 ca_X10 rfl rfl (Nat.le_of_ble_eq_true rfl) (by decide) (by decide) dX10_asksBorrower_24 ?_
  exact r_iret (pc := 27) C dX10_asksBorrower_27 ⟨rfl, rfl, rfl, by rw [u2_u2]⟩ (by decide)

set_option maxHeartbeats 1000000 in
theorem c_coins__v {g : GG} {X : va_W} {T : TT} {I : II} {M : Nat} {w : Nat → Int32} (hm : isMd T M) {B : Nat} (hB : w 1 = nI B) (hB6 : B ≤ 6) {n : Nat} (hn : n < B) : Mc g yX10_coins cX10_coins 2 (some .int) 7 0 0 [.ref M, .int (nI n)] X T (sr I (M + 1) w) (Ex (some (.int (w (22 + 6 * n + 0)))) X T (sr (u2 I M 0 (nI 0)) (M + 1) w)) := by
  refine Mc.of (by decide) (Nat.le_of_ble_eq_true rfl) (fun k hfl C => ?_)
  refine r_lo (lo' := [(0, _), (1, _)]) rfl ?_
  refine r_aload_n (pc := 0) C 0 dX10_coins_0 rfl rfl ?_
  refine r_iload_n (pc := 1) C 1 dX10_coins_1 rfl rfl ?_
  refine r_iconst (pc := 2) (v := 0) C dX10_coins_2 rfl ?_
  refine r_cVi (pc := 3) C hfl k_X10_187 (c_asksBorrower__v hm hB hB6 hn (by omega)) hm.1 ca_X10 rfl rfl (Nat.le_of_ble_eq_true rfl) (by decide) (by decide) dX10_coins_3 ?_
  exact r_iret (pc := 6) C dX10_coins_6 ⟨rfl, rfl, rfl, rfl⟩ (by decide)

set_option maxHeartbeats 1000000 in
theorem c_coins__x {g : GG} {X : va_W} {T : TT} {I : II} {M : Nat} {w : Nat → Int32} (hm : isMd T M) {b : Int32} {B : Nat} (hB : w 1 = nI B) (hB6 : B ≤ 6) (hx : ¬ okB B b) : Mc g yX10_coins cX10_coins 2 (some .int) 7 0 0 [.ref M, .int b] X T (sr I (M + 1) w) (Ex (some (.int (nI 0))) X T (sr (u2 I M 0 (nI 1)) (M + 1) w)) := by
  refine Mc.of (by decide) (Nat.le_of_ble_eq_true rfl) (fun k hfl C => ?_)
  refine r_lo (lo' := [(0, _), (1, _)]) rfl ?_
  refine r_aload_n (pc := 0) C 0 dX10_coins_0 rfl rfl ?_
  refine r_iload_n (pc := 1) C 1 dX10_coins_1 rfl rfl ?_
  refine r_iconst (pc := 2) (v := 0) C dX10_coins_2 rfl ?_
  refine r_cVi (pc := 3) C hfl k_X10_187 (c_asksBorrower__x hm hB hB6 hx) hm.1 ca_X10 rfl rfl (Nat.le_of_ble_eq_true rfl) (by decide) (by decide) dX10_coins_3 ?_
  exact r_iret (pc := 6) C dX10_coins_6 ⟨rfl, rfl, rfl, rfl⟩ (by decide)

set_option maxHeartbeats 1000000 in
theorem c_defaults__v {g : GG} {X : va_W} {T : TT} {I : II} {M : Nat} {w : Nat → Int32} (hm : isMd T M) {B : Nat} (hB : w 1 = nI B) (hB6 : B ≤ 6) {n : Nat} (hn : n < B) : Mc g yX10_defaults cX10_defaults 2 (some .int) 7 0 0 [.ref M, .int (nI n)] X T (sr I (M + 1) w) (Ex (some (.int (w (22 + 6 * n + 1)))) X T (sr (u2 I M 0 (nI 0)) (M + 1) w)) := by
  refine Mc.of (by decide) (Nat.le_of_ble_eq_true rfl) (fun k hfl C => ?_)
  refine r_lo (lo' := [(0, _), (1, _)]) rfl ?_
  refine r_aload_n (pc := 0) C 0 dX10_defaults_0 rfl rfl ?_
  refine r_iload_n (pc := 1) C 1 dX10_defaults_1 rfl rfl ?_
  refine r_iconst (pc := 2) (v := 1) C dX10_defaults_2 rfl ?_
  refine r_cVi (pc := 3) C hfl k_X10_187 (c_asksBorrower__v hm hB hB6 hn (by omega)) hm.1 ca_X10 rfl rfl (Nat.le_of_ble_eq_true rfl) (by decide) (by decide) dX10_defaults_3 ?_
  exact r_iret (pc := 6) C dX10_defaults_6 ⟨rfl, rfl, rfl, rfl⟩ (by decide)

set_option maxHeartbeats 1000000 in
theorem c_defaults__x {g : GG} {X : va_W} {T : TT} {I : II} {M : Nat} {w : Nat → Int32} (hm : isMd T M) {b : Int32} {B : Nat} (hB : w 1 = nI B) (hB6 : B ≤ 6) (hx : ¬ okB B b) : Mc g yX10_defaults cX10_defaults 2 (some .int) 7 0 0 [.ref M, .int b] X T (sr I (M + 1) w) (Ex (some (.int (nI 0))) X T (sr (u2 I M 0 (nI 1)) (M + 1) w)) := by
  refine Mc.of (by decide) (Nat.le_of_ble_eq_true rfl) (fun k hfl C => ?_)
  refine r_lo (lo' := [(0, _), (1, _)]) rfl ?_
  refine r_aload_n (pc := 0) C 0 dX10_defaults_0 rfl rfl ?_
  refine r_iload_n (pc := 1) C 1 dX10_defaults_1 rfl rfl ?_
  refine r_iconst (pc := 2) (v := 1) C dX10_defaults_2 rfl ?_
  refine r_cVi (pc := 3) C hfl k_X10_187 (c_asksBorrower__x hm hB hB6 hx) hm.1 ca_X10 rfl rfl (Nat.le_of_ble_eq_true rfl) (by decide) (by decide) dX10_defaults_3 ?_
  exact r_iret (pc := 6) C dX10_defaults_6 ⟨rfl, rfl, rfl, rfl⟩ (by decide)

set_option maxHeartbeats 1000000 in
theorem c_canBorrow__v {g : GG} {X : va_W} {T : TT} {I : II} {M : Nat} {w : Nat → Int32} (hm : isMd T M) {B : Nat} (hB : w 1 = nI B) (hB6 : B ≤ 6) {n : Nat} (hn : n < B) : Mc g yX10_canBorrow cX10_canBorrow 3 (some .boolean) 7 0 0 [.ref M, .int (nI n)] X T (sr I (M + 1) w) (Ex (some (.int (bI (w (22 + 6 * n + 1) < nI 2)))) X T (sr (u2 I M 0 (nI 0)) (M + 1) w)) := by
  refine Mc.of (by decide) (Nat.le_of_ble_eq_true rfl) (fun k hfl C => ?_)
  refine r_lo (lo' := [(0, _), (1, _)]) rfl ?_
  refine r_aload_n (pc := 0) C 0 dX10_canBorrow_0 rfl rfl ?_
  refine r_iload_n (pc := 1) C 1 dX10_canBorrow_1 rfl rfl ?_
  refine r_iconst (pc := 2) (v := 1) C dX10_canBorrow_2 rfl ?_
  refine r_cVi (pc := 3) C hfl k_X10_187 (c_asksBorrower__v hm hB hB6 hn (by omega)) hm.1 ca_X10 rfl rfl (Nat.le_of_ble_eq_true rfl) (by decide) (by decide) dX10_canBorrow_3 ?_
  refine r_istore_n (pc := 6) (lo' := [(2, _), (0, _), (1, _)]) C dX10_canBorrow_6 rfl (by decide) rfl ?_
  refine r_aload_n (pc := 7) C 1 dX10_canBorrow_7 rfl rfl ?_
  refine r_wget (pc := 8) (by omega) C f_X10_1 hm.1 rfl dX10_canBorrow_8 ?_
  refine r_t (y := nI 0) u2_g ?_
  refine r_ifneN (pc := 11) (tgt := 23) C dX10_canBorrow_11 rfl (by omega) (fun c_11 => False.elim (by omega)) (fun c_11 => ?_)
  refine r_iload_n (pc := 14) C 0 dX10_canBorrow_14 rfl rfl ?_
  refine r_iconst (pc := 15) (v := 2) C dX10_canBorrow_15 rfl ?_
  refine r_cge (pc := 16) (tgt := 23) C dX10_canBorrow_16 rfl (fun c_16 => ?_) (fun c_16 => ?_)
  · skip
    replace c_16 := Int32.not_lt.mpr c_16
    refine r_iconst (pc := 23) (v := 0) C dX10_canBorrow_23 rfl ?_
    exact r_zret (pc := 24) C rfl dX10_canBorrow_24 ⟨congrArg (fun z => some (Value.int z)) (bI_f c_16).symm, rfl, rfl, rfl⟩ (by decide)
  · skip
    replace c_16 := Int32.not_le.mp c_16
    refine r_iconst (pc := 19) (v := 1) C dX10_canBorrow_19 rfl ?_
    refine r_goto (pc := 20) (tgt := 24) C dX10_canBorrow_20 rfl ?_
    exact r_zret (pc := 24) C rfl dX10_canBorrow_24 ⟨congrArg (fun z => some (Value.int z)) (bI_t c_16).symm, rfl, rfl, rfl⟩ (by decide)

set_option maxHeartbeats 1000000 in
theorem c_canBorrow__x {g : GG} {X : va_W} {T : TT} {I : II} {M : Nat} {w : Nat → Int32} (hm : isMd T M) {b : Int32} {B : Nat} (hB : w 1 = nI B) (hB6 : B ≤ 6) (hx : ¬ okB B b) : Mc g yX10_canBorrow cX10_canBorrow 3 (some .boolean) 7 0 0 [.ref M, .int b] X T (sr I (M + 1) w) (Ex (some (.int (nI 0))) X T (sr (u2 I M 0 (nI 1)) (M + 1) w)) := by
  refine Mc.of (by decide) (Nat.le_of_ble_eq_true rfl) (fun k hfl C => ?_)
  refine r_lo (lo' := [(0, _), (1, _)]) rfl ?_
  refine r_aload_n (pc := 0) C 0 dX10_canBorrow_0 rfl rfl ?_
  refine r_iload_n (pc := 1) C 1 dX10_canBorrow_1 rfl rfl ?_
  refine r_iconst (pc := 2) (v := 1) C dX10_canBorrow_2 rfl ?_
  refine r_cVi (pc := 3) C hfl k_X10_187 (c_asksBorrower__x hm hB hB6 hx) hm.1 ca_X10 rfl rfl (Nat.le_of_ble_eq_true rfl) (by decide) (by decide) dX10_canBorrow_3 ?_
  refine r_istore_n (pc := 6) (lo' := [(2, _), (0, _), (1, _)]) C dX10_canBorrow_6 rfl (by decide) rfl ?_
  refine r_aload_n (pc := 7) C 1 dX10_canBorrow_7 rfl rfl ?_
  refine r_wget (pc := 8) (by omega) C f_X10_1 hm.1 rfl dX10_canBorrow_8 ?_
  refine r_t (y := nI 1) u2_g ?_
  refine r_ifneN (pc := 11) (tgt := 23) C dX10_canBorrow_11 rfl (by omega) (fun c_11 => ?_) (fun c_11 => False.elim (by omega))
  refine r_iconst (pc := 23) (v := 0) C dX10_canBorrow_23 rfl ?_
  exact r_zret (pc := 24) C rfl dX10_canBorrow_24 ⟨rfl, rfl, rfl, rfl⟩ (by decide)

set_option maxHeartbeats 1000000 in
theorem c_units__v {g : GG} {X : va_W} {T : TT} {I : II} {M : Nat} {w : Nat → Int32} (hm : isMd T M) {B : Nat} (hB : w 1 = nI B) (hB6 : B ≤ 6) {n : Nat} (hn : n < B) {m : Nat} (hm4 : m < 4) : Mc g yX10_units cX10_units 3 (some .int) 6 0 0 [.ref M, .int (nI n), .int (nI m)] X T (sr I (M + 1) w) (Ex (some (.int (w (22 + 6 * n + (2 + m))))) X T (sr (u2 I M 0 (nI 0)) (M + 1) w)) := by
  refine Mc.of (by decide) (Nat.le_of_ble_eq_true rfl) (fun k hfl C => ?_)
  refine r_lo (lo' := [(0, _), (1, _), (2, _)]) rfl ?_
  refine r_aload_n (pc := 0) C 0 dX10_units_0 rfl rfl ?_
  refine r_iconst (pc := 1) (v := 0) C dX10_units_1 rfl ?_
  refine r_wput (pc := 2) (by omega) C f_X10_1 hm.1 rfl rfl rfl dX10_units_2 ?_
  refine r_aload_n (pc := 5) C 0 dX10_units_5 rfl rfl ?_
  refine r_iload_n (pc := 6) C 1 dX10_units_6 rfl rfl ?_
  refine r_cVi (pc := 7) C hfl k_X10_88 (c_isBorrower hm hB hB6) hm.1 ca_X10 rfl rfl (Nat.le_of_ble_eq_true rfl) (by decide) (by decide) dX10_units_7 ?_
  refine r_ifeqB (pc := 10) (tgt := 31) C dX10_units_10 rfl (fun c_10 => False.elim (by exact c_10 (okB_nI hB6 hn))) (fun c_10 => ?_)
  refine r_iload_n (pc := 13) C 2 dX10_units_13 rfl rfl ?_
  refine r_cSi (pc := 14) C hfl k_X10_92 (c_isKind _) rfl rfl (Nat.le_of_ble_eq_true rfl) (by decide) (by decide) dX10_units_14 ?_
  refine r_ifeqB (pc := 17) (tgt := 31) C dX10_units_17 rfl (fun c_17 => False.elim (by exact c_17 (okK_nI hm4))) (fun c_17 => ?_)
  refine r_aload_n (pc := 20) C 0 dX10_units_20 rfl rfl ?_
  refine r_iload_n (pc := 21) C 1 dX10_units_21 rfl rfl ?_
  refine r_iconst (pc := 22) (v := 2) C dX10_units_22 rfl ?_
  refine r_iload_n (pc := 23) C 2 dX10_units_23 rfl rfl ?_
  refine r_iaddN (pc := 24) C dX10_units_24 ?_
  refine r_cVi (pc := 25) C hfl k_X10_95 (c_of hm (by omega) (by omega)) hm.1 ca_X10 rfl rfl (Nat.le_of_ble_eq_true rfl) (by decide) (by decide) dX10_units_25 ?_
  refine r_goto (pc := 28) (tgt := 36) C dX10_units_28 rfl ?_
  exact r_iret (pc := 36) C dX10_units_36 ⟨rfl, rfl, rfl, rfl⟩ (by decide)

set_option maxHeartbeats 1000000 in
theorem c_units__x {g : GG} {X : va_W} {T : TT} {I : II} {M : Nat} {w : Nat → Int32} (hm : isMd T M) {b k_ : Int32} {B : Nat} (hB : w 1 = nI B) (hB6 : B ≤ 6) (hx : ¬ (okB B b ∧ okK k_)) : Mc g yX10_units cX10_units 3 (some .int) 6 0 0 [.ref M, .int b, .int k_] X T (sr I (M + 1) w) (Ex (some (.int (nI 0))) X T (sr (u2 I M 0 (nI 1)) (M + 1) w)) := by
  refine Mc.of (by decide) (Nat.le_of_ble_eq_true rfl) (fun k hfl C => ?_)
  refine r_lo (lo' := [(0, _), (1, _), (2, _)]) rfl ?_
  refine r_aload_n (pc := 0) C 0 dX10_units_0 rfl rfl ?_
  refine r_iconst (pc := 1) (v := 0) C dX10_units_1 rfl ?_
  refine r_wput (pc := 2) (by omega) C f_X10_1 hm.1 rfl rfl rfl dX10_units_2 ?_
  refine r_aload_n (pc := 5) C 0 dX10_units_5 rfl rfl ?_
  refine r_iload_n (pc := 6) C 1 dX10_units_6 rfl rfl ?_
  refine r_cVi (pc := 7) C hfl k_X10_88 (c_isBorrower hm hB hB6) hm.1 ca_X10 rfl rfl (Nat.le_of_ble_eq_true rfl) (by decide) (by decide) dX10_units_7 ?_
  refine r_ifeqB (pc := 10) (tgt := 31) C dX10_units_10 rfl (fun c_10 => ?_) (fun c_10 => ?_)
  · skip
    refine r_aload_n (pc := 31) C 0 dX10_units_31 rfl rfl ?_
    refine r_iconst (pc := 32) (v := 1) C dX10_units_32 rfl ?_
    refine r_cVi (pc := 33) C hfl k_X10_79 (c_fails hm ) hm.1 ca_X10 rfl rfl (Nat.le_of_ble_eq_true rfl) (by decide) (by decide) dX10_units_33 ?_
    exact r_iret (pc := 36) C dX10_units_36 ⟨rfl, rfl, rfl, by rw [u2_u2]⟩ (by decide)
  · skip
    refine r_iload_n (pc := 13) C 2 dX10_units_13 rfl rfl ?_
    refine r_cSi (pc := 14) C hfl k_X10_92 (c_isKind _) rfl rfl (Nat.le_of_ble_eq_true rfl) (by decide) (by decide) dX10_units_14 ?_
    refine r_ifeqB (pc := 17) (tgt := 31) C dX10_units_17 rfl (fun c_17 => ?_) (fun c_17 => False.elim (by exact hx ⟨c_10, c_17⟩))
    refine r_aload_n (pc := 31) C 0 dX10_units_31 rfl rfl ?_
    refine r_iconst (pc := 32) (v := 1) C dX10_units_32 rfl ?_
    refine r_cVi (pc := 33) C hfl k_X10_79 (c_fails hm ) hm.1 ca_X10 rfl rfl (Nat.le_of_ble_eq_true rfl) (by decide) (by decide) dX10_units_33 ?_
    exact r_iret (pc := 36) C dX10_units_36 ⟨rfl, rfl, rfl, by rw [u2_u2]⟩ (by decide)

set_option maxHeartbeats 1000000 in
theorem c_pledgedUnits__v {g : GG} {X : va_W} {T : TT} {I : II} {M : Nat} {w : Nat → Int32} (hm : isMd T M) {B : Nat} (hB : w 1 = nI B) (hB6 : B ≤ 6) {N : Nat} (hN : w 2 = nI N) (hN10 : N ≤ 10) {n : Nat} (hn : n < B) {m : Nat} (hm4 : m < 4) : Mc g yX10_pledgedUnits cX10_pledgedUnits 3 (some .int) 6 0 0 [.ref M, .int (nI n), .int (nI m)] X T (sr I (M + 1) w) (Ex (some (.int (pledV w N (nI n) m))) X T (sr (u2 I M 0 (nI 0)) (M + 1) w)) := by
  refine Mc.of (by decide) (Nat.le_of_ble_eq_true rfl) (fun k hfl C => ?_)
  refine r_lo (lo' := [(0, _), (1, _), (2, _)]) rfl ?_
  refine r_aload_n (pc := 0) C 0 dX10_pledgedUnits_0 rfl rfl ?_
  refine r_iconst (pc := 1) (v := 0) C dX10_pledgedUnits_1 rfl ?_
  refine r_wput (pc := 2) (by omega) C f_X10_1 hm.1 rfl rfl rfl dX10_pledgedUnits_2 ?_
  refine r_aload_n (pc := 5) C 0 dX10_pledgedUnits_5 rfl rfl ?_
  refine r_iload_n (pc := 6) C 1 dX10_pledgedUnits_6 rfl rfl ?_
  refine r_cVi (pc := 7) C hfl k_X10_88 (c_isBorrower hm hB hB6) hm.1 ca_X10 rfl rfl (Nat.le_of_ble_eq_true rfl) (by decide) (by decide) dX10_pledgedUnits_7 ?_
  refine r_ifeqB (pc := 10) (tgt := 29) C dX10_pledgedUnits_10 rfl (fun c_10 => False.elim (by exact c_10 (okB_nI hB6 hn))) (fun c_10 => ?_)
  refine r_iload_n (pc := 13) C 2 dX10_pledgedUnits_13 rfl rfl ?_
  refine r_cSi (pc := 14) C hfl k_X10_92 (c_isKind _) rfl rfl (Nat.le_of_ble_eq_true rfl) (by decide) (by decide) dX10_pledgedUnits_14 ?_
  refine r_ifeqB (pc := 17) (tgt := 29) C dX10_pledgedUnits_17 rfl (fun c_17 => False.elim (by exact c_17 (okK_nI hm4))) (fun c_17 => ?_)
  refine r_aload_n (pc := 20) C 0 dX10_pledgedUnits_20 rfl rfl ?_
  refine r_iload_n (pc := 21) C 1 dX10_pledgedUnits_21 rfl rfl ?_
  refine r_iload_n (pc := 22) C 2 dX10_pledgedUnits_22 rfl rfl ?_
  refine r_cVi (pc := 23) C hfl k_X10_190 (c_pledgedBy hm (by omega) hN hN10) hm.1 ca_X10 rfl rfl (Nat.le_of_ble_eq_true rfl) (by decide) (by decide) dX10_pledgedUnits_23 ?_
  refine r_goto (pc := 26) (tgt := 34) C dX10_pledgedUnits_26 rfl ?_
  exact r_iret (pc := 34) C dX10_pledgedUnits_34 ⟨rfl, rfl, rfl, rfl⟩ (by decide)

set_option maxHeartbeats 1000000 in
theorem c_pledgedUnits__x {g : GG} {X : va_W} {T : TT} {I : II} {M : Nat} {w : Nat → Int32} (hm : isMd T M) {b k_ : Int32} {B : Nat} (hB : w 1 = nI B) (hB6 : B ≤ 6) (hx : ¬ (okB B b ∧ okK k_)) : Mc g yX10_pledgedUnits cX10_pledgedUnits 3 (some .int) 6 0 0 [.ref M, .int b, .int k_] X T (sr I (M + 1) w) (Ex (some (.int (nI 0))) X T (sr (u2 I M 0 (nI 1)) (M + 1) w)) := by
  refine Mc.of (by decide) (Nat.le_of_ble_eq_true rfl) (fun k hfl C => ?_)
  refine r_lo (lo' := [(0, _), (1, _), (2, _)]) rfl ?_
  refine r_aload_n (pc := 0) C 0 dX10_pledgedUnits_0 rfl rfl ?_
  refine r_iconst (pc := 1) (v := 0) C dX10_pledgedUnits_1 rfl ?_
  refine r_wput (pc := 2) (by omega) C f_X10_1 hm.1 rfl rfl rfl dX10_pledgedUnits_2 ?_
  refine r_aload_n (pc := 5) C 0 dX10_pledgedUnits_5 rfl rfl ?_
  refine r_iload_n (pc := 6) C 1 dX10_pledgedUnits_6 rfl rfl ?_
  refine r_cVi (pc := 7) C hfl k_X10_88 (c_isBorrower hm hB hB6) hm.1 ca_X10 rfl rfl (Nat.le_of_ble_eq_true rfl) (by decide) (by decide) dX10_pledgedUnits_7 ?_
  refine r_ifeqB (pc := 10) (tgt := 29) C dX10_pledgedUnits_10 rfl (fun c_10 => ?_) (fun c_10 => ?_)
  · skip
    refine r_aload_n (pc := 29) C 0 dX10_pledgedUnits_29 rfl rfl ?_
    refine r_iconst (pc := 30) (v := 1) C dX10_pledgedUnits_30 rfl ?_
    refine r_cVi (pc := 31) C hfl k_X10_79 (c_fails hm ) hm.1 ca_X10 rfl rfl (Nat.le_of_ble_eq_true rfl) (by decide) (by decide) dX10_pledgedUnits_31 ?_
    exact r_iret (pc := 34) C dX10_pledgedUnits_34 ⟨rfl, rfl, rfl, by rw [u2_u2]⟩ (by decide)
  · skip
    refine r_iload_n (pc := 13) C 2 dX10_pledgedUnits_13 rfl rfl ?_
    refine r_cSi (pc := 14) C hfl k_X10_92 (c_isKind _) rfl rfl (Nat.le_of_ble_eq_true rfl) (by decide) (by decide) dX10_pledgedUnits_14 ?_
    refine r_ifeqB (pc := 17) (tgt := 29) C dX10_pledgedUnits_17 rfl (fun c_17 => ?_) (fun c_17 => False.elim (by exact hx ⟨c_10, c_17⟩))
    refine r_aload_n (pc := 29) C 0 dX10_pledgedUnits_29 rfl rfl ?_
    refine r_iconst (pc := 30) (v := 1) C dX10_pledgedUnits_30 rfl ?_
    refine r_cVi (pc := 31) C hfl k_X10_79 (c_fails hm ) hm.1 ca_X10 rfl rfl (Nat.le_of_ble_eq_true rfl) (by decide) (by decide) dX10_pledgedUnits_31 ?_
    exact r_iret (pc := 34) C dX10_pledgedUnits_34 ⟨rfl, rfl, rfl, by rw [u2_u2]⟩ (by decide)

set_option maxHeartbeats 1000000 in
theorem c_loansOf__v {g : GG} {X : va_W} {T : TT} {I : II} {M : Nat} {w : Nat → Int32} (hm : isMd T M) {B : Nat} (hB : w 1 = nI B) (hB6 : B ≤ 6) {N : Nat} (hN : w 2 = nI N) (hN10 : N ≤ 10) {n : Nat} (hn : n < B) : Mc g yX10_loansOf cX10_loansOf 2 (some .int) 6 0 0 [.ref M, .int (nI n)] X T (sr I (M + 1) w) (Ex (some (.int (withV w N (nI n)))) X T (sr (u2 I M 0 (nI 0)) (M + 1) w)) := by
  refine Mc.of (by decide) (Nat.le_of_ble_eq_true rfl) (fun k hfl C => ?_)
  refine r_lo (lo' := [(0, _), (1, _)]) rfl ?_
  refine r_aload_n (pc := 0) C 0 dX10_loansOf_0 rfl rfl ?_
  refine r_iconst (pc := 1) (v := 0) C dX10_loansOf_1 rfl ?_
  refine r_wput (pc := 2) (by omega) C f_X10_1 hm.1 rfl rfl rfl dX10_loansOf_2 ?_
  refine r_aload_n (pc := 5) C 0 dX10_loansOf_5 rfl rfl ?_
  refine r_iload_n (pc := 6) C 1 dX10_loansOf_6 rfl rfl ?_
  refine r_cVi (pc := 7) C hfl k_X10_88 (c_isBorrower hm hB hB6) hm.1 ca_X10 rfl rfl (Nat.le_of_ble_eq_true rfl) (by decide) (by decide) dX10_loansOf_7 ?_
  refine r_ifeqB (pc := 10) (tgt := 21) C dX10_loansOf_10 rfl (fun c_10 => False.elim (by exact c_10 (okB_nI hB6 hn))) (fun c_10 => ?_)
  refine r_aload_n (pc := 13) C 0 dX10_loansOf_13 rfl rfl ?_
  refine r_iload_n (pc := 14) C 1 dX10_loansOf_14 rfl rfl ?_
  refine r_cVi (pc := 15) C hfl k_X10_111 (c_loansWith hm hN hN10) hm.1 ca_X10 rfl rfl (Nat.le_of_ble_eq_true rfl) (by decide) (by decide) dX10_loansOf_15 ?_
  refine r_goto (pc := 18) (tgt := 26) C dX10_loansOf_18 rfl ?_
  exact r_iret (pc := 26) C dX10_loansOf_26 ⟨rfl, rfl, rfl, rfl⟩ (by decide)

set_option maxHeartbeats 1000000 in
theorem c_loansOf__x {g : GG} {X : va_W} {T : TT} {I : II} {M : Nat} {w : Nat → Int32} (hm : isMd T M) {b : Int32} {B : Nat} (hB : w 1 = nI B) (hB6 : B ≤ 6) (hx : ¬ okB B b) : Mc g yX10_loansOf cX10_loansOf 2 (some .int) 6 0 0 [.ref M, .int b] X T (sr I (M + 1) w) (Ex (some (.int (nI 0))) X T (sr (u2 I M 0 (nI 1)) (M + 1) w)) := by
  refine Mc.of (by decide) (Nat.le_of_ble_eq_true rfl) (fun k hfl C => ?_)
  refine r_lo (lo' := [(0, _), (1, _)]) rfl ?_
  refine r_aload_n (pc := 0) C 0 dX10_loansOf_0 rfl rfl ?_
  refine r_iconst (pc := 1) (v := 0) C dX10_loansOf_1 rfl ?_
  refine r_wput (pc := 2) (by omega) C f_X10_1 hm.1 rfl rfl rfl dX10_loansOf_2 ?_
  refine r_aload_n (pc := 5) C 0 dX10_loansOf_5 rfl rfl ?_
  refine r_iload_n (pc := 6) C 1 dX10_loansOf_6 rfl rfl ?_
  refine r_cVi (pc := 7) C hfl k_X10_88 (c_isBorrower hm hB hB6) hm.1 ca_X10 rfl rfl (Nat.le_of_ble_eq_true rfl) (by decide) (by decide) dX10_loansOf_7 ?_
  refine r_ifeqB (pc := 10) (tgt := 21) C dX10_loansOf_10 rfl (fun c_10 => ?_) (fun c_10 => False.elim (by exact hx c_10))
  refine r_aload_n (pc := 21) C 0 dX10_loansOf_21 rfl rfl ?_
  refine r_iconst (pc := 22) (v := 1) C dX10_loansOf_22 rfl ?_
  refine r_cVi (pc := 23) C hfl k_X10_79 (c_fails hm ) hm.1 ca_X10 rfl rfl (Nat.le_of_ble_eq_true rfl) (by decide) (by decide) dX10_loansOf_23 ?_
  exact r_iret (pc := 26) C dX10_loansOf_26 ⟨rfl, rfl, rfl, by rw [u2_u2]⟩ (by decide)

set_option maxHeartbeats 1000000 in
theorem c_debtOf__v {g : GG} {X : va_W} {T : TT} {I : II} {M : Nat} {w : Nat → Int32} (hm : isMd T M) {B : Nat} (hB : w 1 = nI B) (hB6 : B ≤ 6) {N : Nat} (hN : w 2 = nI N) (hN10 : N ≤ 10) {n : Nat} (hn : n < B) : Mc g yX10_debtOf cX10_debtOf 2 (some .int) 6 0 0 [.ref M, .int (nI n)] X T (sr I (M + 1) w) (Ex (some (.int (debtsV w N (nI n)))) X T (sr (u2 I M 0 (nI 0)) (M + 1) w)) := by
  refine Mc.of (by decide) (Nat.le_of_ble_eq_true rfl) (fun k hfl C => ?_)
  refine r_lo (lo' := [(0, _), (1, _)]) rfl ?_
  refine r_aload_n (pc := 0) C 0 dX10_debtOf_0 rfl rfl ?_
  refine r_iconst (pc := 1) (v := 0) C dX10_debtOf_1 rfl ?_
  refine r_wput (pc := 2) (by omega) C f_X10_1 hm.1 rfl rfl rfl dX10_debtOf_2 ?_
  refine r_aload_n (pc := 5) C 0 dX10_debtOf_5 rfl rfl ?_
  refine r_iload_n (pc := 6) C 1 dX10_debtOf_6 rfl rfl ?_
  refine r_cVi (pc := 7) C hfl k_X10_88 (c_isBorrower hm hB hB6) hm.1 ca_X10 rfl rfl (Nat.le_of_ble_eq_true rfl) (by decide) (by decide) dX10_debtOf_7 ?_
  refine r_ifeqB (pc := 10) (tgt := 21) C dX10_debtOf_10 rfl (fun c_10 => False.elim (by exact c_10 (okB_nI hB6 hn))) (fun c_10 => ?_)
  refine r_aload_n (pc := 13) C 0 dX10_debtOf_13 rfl rfl ?_
  refine r_iload_n (pc := 14) C 1 dX10_debtOf_14 rfl rfl ?_
  refine r_cVi (pc := 15) C hfl k_X10_193 (c_debtsOf hm hN hN10) hm.1 ca_X10 rfl rfl (Nat.le_of_ble_eq_true rfl) (by decide) (by decide) dX10_debtOf_15 ?_
  refine r_goto (pc := 18) (tgt := 26) C dX10_debtOf_18 rfl ?_
  exact r_iret (pc := 26) C dX10_debtOf_26 ⟨rfl, rfl, rfl, rfl⟩ (by decide)

set_option maxHeartbeats 1000000 in
theorem c_debtOf__x {g : GG} {X : va_W} {T : TT} {I : II} {M : Nat} {w : Nat → Int32} (hm : isMd T M) {b : Int32} {B : Nat} (hB : w 1 = nI B) (hB6 : B ≤ 6) (hx : ¬ okB B b) : Mc g yX10_debtOf cX10_debtOf 2 (some .int) 6 0 0 [.ref M, .int b] X T (sr I (M + 1) w) (Ex (some (.int (nI 0))) X T (sr (u2 I M 0 (nI 1)) (M + 1) w)) := by
  refine Mc.of (by decide) (Nat.le_of_ble_eq_true rfl) (fun k hfl C => ?_)
  refine r_lo (lo' := [(0, _), (1, _)]) rfl ?_
  refine r_aload_n (pc := 0) C 0 dX10_debtOf_0 rfl rfl ?_
  refine r_iconst (pc := 1) (v := 0) C dX10_debtOf_1 rfl ?_
  refine r_wput (pc := 2) (by omega) C f_X10_1 hm.1 rfl rfl rfl dX10_debtOf_2 ?_
  refine r_aload_n (pc := 5) C 0 dX10_debtOf_5 rfl rfl ?_
  refine r_iload_n (pc := 6) C 1 dX10_debtOf_6 rfl rfl ?_
  refine r_cVi (pc := 7) C hfl k_X10_88 (c_isBorrower hm hB hB6) hm.1 ca_X10 rfl rfl (Nat.le_of_ble_eq_true rfl) (by decide) (by decide) dX10_debtOf_7 ?_
  refine r_ifeqB (pc := 10) (tgt := 21) C dX10_debtOf_10 rfl (fun c_10 => ?_) (fun c_10 => False.elim (by exact hx c_10))
  refine r_aload_n (pc := 21) C 0 dX10_debtOf_21 rfl rfl ?_
  refine r_iconst (pc := 22) (v := 1) C dX10_debtOf_22 rfl ?_
  refine r_cVi (pc := 23) C hfl k_X10_79 (c_fails hm ) hm.1 ca_X10 rfl rfl (Nat.le_of_ble_eq_true rfl) (by decide) (by decide) dX10_debtOf_23 ?_
  exact r_iret (pc := 26) C dX10_debtOf_26 ⟨rfl, rfl, rfl, by rw [u2_u2]⟩ (by decide)

set_option maxHeartbeats 1000000 in
theorem c_wealth__v {g : GG} {X : va_W} {T : TT} {I : II} {M : Nat} {w : Nat → Int32} (hm : isMd T M) {B : Nat} (hB : w 1 = nI B) (hB6 : B ≤ 6) {N : Nat} (hN : w 2 = nI N) (hN10 : N ≤ 10) {n : Nat} (hn : n < B) : Mc g yX10_wealth cX10_wealth 4 (some .int) 6 0 0 [.ref M, .int (nI n)] X T (sr I (M + 1) w) (Ex (some (.int (wlV w N n))) X T (sr (u2 I M 0 (nI 0)) (M + 1) w)) := by
  refine Mc.of (by decide) (Nat.le_of_ble_eq_true rfl) (fun k hfl C => ?_)
  refine r_lo (lo' := [(0, _), (1, _)]) rfl ?_
  refine r_aload_n (pc := 0) C 0 dX10_wealth_0 rfl rfl ?_
  refine r_iconst (pc := 1) (v := 0) C dX10_wealth_1 rfl ?_
  refine r_wput (pc := 2) (by omega) C f_X10_1 hm.1 rfl rfl rfl dX10_wealth_2 ?_
  refine r_aload_n (pc := 5) C 0 dX10_wealth_5 rfl rfl ?_
  refine r_iload_n (pc := 6) C 1 dX10_wealth_6 rfl rfl ?_
  refine r_cVi (pc := 7) C hfl k_X10_88 (c_isBorrower hm hB hB6) hm.1 ca_X10 rfl rfl (Nat.le_of_ble_eq_true rfl) (by decide) (by decide) dX10_wealth_7 ?_
  refine r_ifneB (pc := 10) (tgt := 19) C dX10_wealth_10 rfl (fun c_10 => ?_) (fun c_10 => False.elim (by exact c_10 (okB_nI hB6 hn)))
  refine r_aload_n (pc := 19) C 0 dX10_wealth_19 rfl rfl ?_
  refine r_iload_n (pc := 20) C 1 dX10_wealth_20 rfl rfl ?_
  refine r_iconst (pc := 21) (v := 0) C dX10_wealth_21 rfl ?_
  refine r_cVi (pc := 22) C hfl k_X10_95 (c_of hm (by omega) (by omega)) hm.1 ca_X10 rfl rfl (Nat.le_of_ble_eq_true rfl) (by decide) (by decide) dX10_wealth_22 ?_
  refine r_aload_n (pc := 25) C 0 dX10_wealth_25 rfl rfl ?_
  refine r_iload_n (pc := 26) C 1 dX10_wealth_26 rfl rfl ?_
  refine r_cVi (pc := 27) C hfl k_X10_193 (c_debtsOf hm hN hN10) hm.1 ca_X10 rfl rfl (Nat.le_of_ble_eq_true rfl) (by decide) (by decide) dX10_wealth_27 ?_
  refine r_isub (pc := 30) C dX10_wealth_30 ?_
  refine r_istore_n (pc := 31) (lo' := [(2, _), (0, _), (1, _)]) C dX10_wealth_31 rfl (by decide) rfl ?_
  refine r_iconst (pc := 32) (v := 0) C dX10_wealth_32 rfl ?_
  refine r_istore_n (pc := 33) (lo' := [(3, _), (2, _), (0, _), (1, _)]) C dX10_wealth_33 rfl (by decide) rfl ?_
  refine r_iload_n (pc := 34) C 0 dX10_wealth_34 rfl rfl ?_
  refine r_iconst (pc := 35) (v := 4) C dX10_wealth_35 rfl ?_
  refine r_cgeN (pc := 36) (tgt := 73) C dX10_wealth_36 rfl (by omega) (by omega) (fun c_36 => False.elim (by omega)) (fun c_36 => ?_)
  refine r_iload_n (pc := 39) C 1 dX10_wealth_39 rfl rfl ?_
  refine r_aload_n (pc := 40) C 2 dX10_wealth_40 rfl rfl ?_
  refine r_iload_n (pc := 41) C 3 dX10_wealth_41 rfl rfl ?_
  refine r_iconst (pc := 42) (v := 2) C dX10_wealth_42 rfl ?_
  refine r_iload_n (pc := 43) C 0 dX10_wealth_43 rfl rfl ?_
  refine r_iaddN (pc := 44) C dX10_wealth_44 ?_
  refine r_cVi (pc := 45) C hfl k_X10_95 (c_of hm (by omega) (by omega)) hm.1 ca_X10 rfl rfl (Nat.le_of_ble_eq_true rfl) (by decide) (by decide) dX10_wealth_45 ?_
  refine r_aload_n (pc := 48) C 2 dX10_wealth_48 rfl rfl ?_
  refine r_iload_n (pc := 49) C 3 dX10_wealth_49 rfl rfl ?_
  refine r_iload_n (pc := 50) C 0 dX10_wealth_50 rfl rfl ?_
  refine r_cVi (pc := 51) C hfl k_X10_190 (c_pledgedBy hm (by omega) hN hN10) hm.1 ca_X10 rfl rfl (Nat.le_of_ble_eq_true rfl) (by decide) (by decide) dX10_wealth_51 ?_
  refine r_iadd (pc := 54) C dX10_wealth_54 ?_
  refine r_aload_n (pc := 55) C 2 dX10_wealth_55 rfl rfl ?_
  refine r_getR (pc := 56) (x := M + 1) C f_X10_13 hm.1 rfl rfl dX10_wealth_56 ?_
  refine r_bipush (pc := 59) (v := 10) C dX10_wealth_59 rfl ?_
  refine r_iload_n (pc := 61) C 0 dX10_wealth_61 rfl rfl ?_
  refine r_iaddN (pc := 62) C dX10_wealth_62 ?_
  refine r_wld (pc := 63) (x := 10 + 0) C hm.2.1 rfl (by omega) (by decide) dX10_wealth_63 ?_
  refine r_imul (pc := 64) C dX10_wealth_64 ?_
  refine r_iadd (pc := 65) C dX10_wealth_65 ?_
  refine r_istore_n (pc := 66) (lo' := [(2, _), (3, _), (0, _), (1, _)]) C dX10_wealth_66 rfl (by decide) rfl ?_
  refine r_iincN (pc := 67) (m := 1) (lo' := [(3, _), (2, _), (0, _), (1, _)]) C 1 dX10_wealth_67 rfl rfl (by decide) rfl ?_
  refine r_goto (pc := 70) (tgt := 34) C dX10_wealth_70 rfl ?_
  refine r_iload_n (pc := 34) C 0 dX10_wealth_34 rfl rfl ?_
  refine r_iconst (pc := 35) (v := 4) C dX10_wealth_35 rfl ?_
  refine r_cgeN (pc := 36) (tgt := 73) C dX10_wealth_36 rfl (by omega) (by omega) (fun c_36 => False.elim (by omega)) (fun c_36 => ?_)
  refine r_iload_n (pc := 39) C 1 dX10_wealth_39 rfl rfl ?_
  refine r_aload_n (pc := 40) C 2 dX10_wealth_40 rfl rfl ?_
  refine r_iload_n (pc := 41) C 3 dX10_wealth_41 rfl rfl ?_
  refine r_iconst (pc := 42) (v := 2) C dX10_wealth_42 rfl ?_
  refine r_iload_n (pc := 43) C 0 dX10_wealth_43 rfl rfl ?_
  refine r_iaddN (pc := 44) C dX10_wealth_44 ?_
  refine r_cVi (pc := 45) C hfl k_X10_95 (c_of hm (by omega) (by omega)) hm.1 ca_X10 rfl rfl (Nat.le_of_ble_eq_true rfl) (by decide) (by decide) dX10_wealth_45 ?_
  refine r_aload_n (pc := 48) C 2 dX10_wealth_48 rfl rfl ?_
  refine r_iload_n (pc := 49) C 3 dX10_wealth_49 rfl rfl ?_
  refine r_iload_n (pc := 50) C 0 dX10_wealth_50 rfl rfl ?_
  refine r_cVi (pc := 51) C hfl k_X10_190 (c_pledgedBy hm (by omega) hN hN10) hm.1 ca_X10 rfl rfl (Nat.le_of_ble_eq_true rfl) (by decide) (by decide) dX10_wealth_51 ?_
  refine r_iadd (pc := 54) C dX10_wealth_54 ?_
  refine r_aload_n (pc := 55) C 2 dX10_wealth_55 rfl rfl ?_
  refine r_getR (pc := 56) (x := M + 1) C f_X10_13 hm.1 rfl rfl dX10_wealth_56 ?_
  refine r_bipush (pc := 59) (v := 10) C dX10_wealth_59 rfl ?_
  refine r_iload_n (pc := 61) C 0 dX10_wealth_61 rfl rfl ?_
  refine r_iaddN (pc := 62) C dX10_wealth_62 ?_
  refine r_wld (pc := 63) (x := 10 + (0 + 1)) C hm.2.1 rfl (by omega) (by decide) dX10_wealth_63 ?_
  refine r_imul (pc := 64) C dX10_wealth_64 ?_
  refine r_iadd (pc := 65) C dX10_wealth_65 ?_
  refine r_istore_n (pc := 66) (lo' := [(2, _), (3, _), (0, _), (1, _)]) C dX10_wealth_66 rfl (by decide) rfl ?_
  refine r_iincN (pc := 67) (m := 1) (lo' := [(3, _), (2, _), (0, _), (1, _)]) C 1 dX10_wealth_67 rfl rfl (by decide) rfl ?_
  refine r_goto (pc := 70) (tgt := 34) C dX10_wealth_70 rfl ?_
  refine r_iload_n (pc := 34) C 0 dX10_wealth_34 rfl rfl ?_
  refine r_iconst (pc := 35) (v := 4) C dX10_wealth_35 rfl ?_
  refine r_cgeN (pc := 36) (tgt := 73) C dX10_wealth_36 rfl (by omega) (by omega) (fun c_36 => False.elim (by omega)) (fun c_36 => ?_)
  refine r_iload_n (pc := 39) C 1 dX10_wealth_39 rfl rfl ?_
  refine r_aload_n (pc := 40) C 2 dX10_wealth_40 rfl rfl ?_
  refine r_iload_n (pc := 41) C 3 dX10_wealth_41 rfl rfl ?_
  refine r_iconst (pc := 42) (v := 2) C dX10_wealth_42 rfl ?_
  refine r_iload_n (pc := 43) C 0 dX10_wealth_43 rfl rfl ?_
  refine r_iaddN (pc := 44) C dX10_wealth_44 ?_
  refine r_cVi (pc := 45) C hfl k_X10_95 (c_of hm (by omega) (by omega)) hm.1 ca_X10 rfl rfl (Nat.le_of_ble_eq_true rfl) (by decide) (by decide) dX10_wealth_45 ?_
  refine r_aload_n (pc := 48) C 2 dX10_wealth_48 rfl rfl ?_
  refine r_iload_n (pc := 49) C 3 dX10_wealth_49 rfl rfl ?_
  refine r_iload_n (pc := 50) C 0 dX10_wealth_50 rfl rfl ?_
  refine r_cVi (pc := 51) C hfl k_X10_190 (c_pledgedBy hm (by omega) hN hN10) hm.1 ca_X10 rfl rfl (Nat.le_of_ble_eq_true rfl) (by decide) (by decide) dX10_wealth_51 ?_
  refine r_iadd (pc := 54) C dX10_wealth_54 ?_
  refine r_aload_n (pc := 55) C 2 dX10_wealth_55 rfl rfl ?_
  refine r_getR (pc := 56) (x := M + 1) C f_X10_13 hm.1 rfl rfl dX10_wealth_56 ?_
  refine r_bipush (pc := 59) (v := 10) C dX10_wealth_59 rfl ?_
  refine r_iload_n (pc := 61) C 0 dX10_wealth_61 rfl rfl ?_
  refine r_iaddN (pc := 62) C dX10_wealth_62 ?_
  refine r_wld (pc := 63) (x := 10 + (0 + 1 + 1)) C hm.2.1 rfl (by omega) (by decide) dX10_wealth_63 ?_
  refine r_imul (pc := 64) C dX10_wealth_64 ?_
  refine r_iadd (pc := 65) C dX10_wealth_65 ?_
  refine r_istore_n (pc := 66) (lo' := [(2, _), (3, _), (0, _), (1, _)]) C dX10_wealth_66 rfl (by decide) rfl ?_
  refine r_iincN (pc := 67) (m := 1) (lo' := [(3, _), (2, _), (0, _), (1, _)]) C 1 dX10_wealth_67 rfl rfl (by decide) rfl ?_
  refine r_goto (pc := 70) (tgt := 34) C dX10_wealth_70 rfl ?_
  refine r_iload_n (pc := 34) C 0 dX10_wealth_34 rfl rfl ?_
  refine r_iconst (pc := 35) (v := 4) C dX10_wealth_35 rfl ?_
  refine r_cgeN (pc := 36) (tgt := 73) C dX10_wealth_36 rfl (by omega) (by omega) (fun c_36 => False.elim (by omega)) (fun c_36 => ?_)
  refine r_iload_n (pc := 39) C 1 dX10_wealth_39 rfl rfl ?_
  refine r_aload_n (pc := 40) C 2 dX10_wealth_40 rfl rfl ?_
  refine r_iload_n (pc := 41) C 3 dX10_wealth_41 rfl rfl ?_
  refine r_iconst (pc := 42) (v := 2) C dX10_wealth_42 rfl ?_
  refine r_iload_n (pc := 43) C 0 dX10_wealth_43 rfl rfl ?_
  refine r_iaddN (pc := 44) C dX10_wealth_44 ?_
  refine r_cVi (pc := 45) C hfl k_X10_95 (c_of hm (by omega) (by omega)) hm.1 ca_X10 rfl rfl (Nat.le_of_ble_eq_true rfl) (by decide) (by decide) dX10_wealth_45 ?_
  refine r_aload_n (pc := 48) C 2 dX10_wealth_48 rfl rfl ?_
  refine r_iload_n (pc := 49) C 3 dX10_wealth_49 rfl rfl ?_
  refine r_iload_n (pc := 50) C 0 dX10_wealth_50 rfl rfl ?_
  refine r_cVi (pc := 51) C hfl k_X10_190 (c_pledgedBy hm (by omega) hN hN10) hm.1 ca_X10 rfl rfl (Nat.le_of_ble_eq_true rfl) (by decide) (by decide) dX10_wealth_51 ?_
  refine r_iadd (pc := 54) C dX10_wealth_54 ?_
  refine r_aload_n (pc := 55) C 2 dX10_wealth_55 rfl rfl ?_
  refine r_getR (pc := 56) (x := M + 1) C f_X10_13 hm.1 rfl rfl dX10_wealth_56 ?_
  refine r_bipush (pc := 59) (v := 10) C dX10_wealth_59 rfl ?_
  refine r_iload_n (pc := 61) C 0 dX10_wealth_61 rfl rfl ?_
  refine r_iaddN (pc := 62) C dX10_wealth_62 ?_
  refine r_wld (pc := 63) (x := 10 + (0 + 1 + 1 + 1)) C hm.2.1 rfl (by omega) (by decide) dX10_wealth_63 ?_
  refine r_imul (pc := 64) C dX10_wealth_64 ?_
  refine r_iadd (pc := 65) C dX10_wealth_65 ?_
  refine r_istore_n (pc := 66) (lo' := [(2, _), (3, _), (0, _), (1, _)]) C dX10_wealth_66 rfl (by decide) rfl ?_
  refine r_iincN (pc := 67) (m := 1) (lo' := [(3, _), (2, _), (0, _), (1, _)]) C 1 dX10_wealth_67 rfl rfl (by decide) rfl ?_
  refine r_goto (pc := 70) (tgt := 34) C dX10_wealth_70 rfl ?_
  refine r_iload_n (pc := 34) C 0 dX10_wealth_34 rfl rfl ?_
  refine r_iconst (pc := 35) (v := 4) C dX10_wealth_35 rfl ?_
  refine r_cgeN (pc := 36) (tgt := 73) C dX10_wealth_36 rfl (by omega) (by omega) (fun c_36 => ?_) (fun c_36 => False.elim (by omega))
  refine r_iload_n (pc := 73) C 1 dX10_wealth_73 rfl rfl ?_
  exact r_iret (pc := 74) C dX10_wealth_74 ⟨rfl, rfl, rfl, rfl⟩ (by decide)

set_option maxHeartbeats 1000000 in
theorem c_wealth__x {g : GG} {X : va_W} {T : TT} {I : II} {M : Nat} {w : Nat → Int32} (hm : isMd T M) {b : Int32} {B : Nat} (hB : w 1 = nI B) (hB6 : B ≤ 6) (hx : ¬ okB B b) : Mc g yX10_wealth cX10_wealth 4 (some .int) 6 0 0 [.ref M, .int b] X T (sr I (M + 1) w) (Ex (some (.int (nI 0))) X T (sr (u2 I M 0 (nI 1)) (M + 1) w)) := by
  refine Mc.of (by decide) (Nat.le_of_ble_eq_true rfl) (fun k hfl C => ?_)
  refine r_lo (lo' := [(0, _), (1, _)]) rfl ?_
  refine r_aload_n (pc := 0) C 0 dX10_wealth_0 rfl rfl ?_
  refine r_iconst (pc := 1) (v := 0) C dX10_wealth_1 rfl ?_
  refine r_wput (pc := 2) (by omega) C f_X10_1 hm.1 rfl rfl rfl dX10_wealth_2 ?_
  refine r_aload_n (pc := 5) C 0 dX10_wealth_5 rfl rfl ?_
  refine r_iload_n (pc := 6) C 1 dX10_wealth_6 rfl rfl ?_
  refine r_cVi (pc := 7) C hfl k_X10_88 (c_isBorrower hm hB hB6) hm.1 ca_X10 rfl rfl (Nat.le_of_ble_eq_true rfl) (by decide) (by decide) dX10_wealth_7 ?_
  refine r_ifneB (pc := 10) (tgt := 19) C dX10_wealth_10 rfl (fun c_10 => False.elim (by exact hx c_10)) (fun c_10 => ?_)
  refine r_aload_n (pc := 13) C 0 dX10_wealth_13 rfl rfl ?_
  refine r_iconst (pc := 14) (v := 1) C dX10_wealth_14 rfl ?_
  refine r_cVi (pc := 15) C hfl k_X10_79 (c_fails hm ) hm.1 ca_X10 rfl rfl (Nat.le_of_ble_eq_true rfl) (by decide) (by decide) dX10_wealth_15 ?_
  exact r_iret (pc := 18) C dX10_wealth_18 ⟨rfl, rfl, rfl, by rw [u2_u2]⟩ (by decide)

set_option maxHeartbeats 1000000 in
theorem c_exists__s {g : GG} {X : va_W} {T : TT} {I : II} {M : Nat} {w : Nat → Int32} (hm : isMd T M) {id : Int32} {N : Nat} (hN : w 2 = nI N) (hN10 : N ≤ 10) {s : Nat} (hs : s < N) (hr : atS w N id (nI s)) : Mc g yX10_exists cX10_exists 2 (some .boolean) 6 0 0 [.ref M, .int id] X T (sr I (M + 1) w) (Ex (some (.int (nI 1))) X T (sr (u2 I M 0 (nI 0)) (M + 1) w)) := by
  refine Mc.of (by decide) (Nat.le_of_ble_eq_true rfl) (fun k hfl C => ?_)
  refine r_lo (lo' := [(0, _), (1, _)]) rfl ?_
  refine r_aload_n (pc := 0) C 0 dX10_exists_0 rfl rfl ?_
  refine r_iconst (pc := 1) (v := 0) C dX10_exists_1 rfl ?_
  refine r_wput (pc := 2) (by omega) C f_X10_1 hm.1 rfl rfl rfl dX10_exists_2 ?_
  refine r_aload_n (pc := 5) C 0 dX10_exists_5 rfl rfl ?_
  refine r_iload_n (pc := 6) C 1 dX10_exists_6 rfl rfl ?_
  refine r_cVi (pc := 7) C hfl k_X10_121 (c_slotOf hm hN hN10 hr) hm.1 ca_X10 rfl rfl (Nat.le_of_ble_eq_true rfl) (by decide) (by decide) dX10_exists_7 ?_
  refine r_ifltN (pc := 10) C dX10_exists_10 (by omega) ?_
  refine r_iconst (pc := 13) (v := 1) C dX10_exists_13 rfl ?_
  refine r_goto (pc := 14) (tgt := 18) C dX10_exists_14 rfl ?_
  exact r_zret (pc := 18) C rfl dX10_exists_18 ⟨rfl, rfl, rfl, rfl⟩ (by decide)

set_option maxHeartbeats 1000000 in
theorem c_exists__n {g : GG} {X : va_W} {T : TT} {I : II} {M : Nat} {w : Nat → Int32} (hm : isMd T M) {id : Int32} {N : Nat} (hN : w 2 = nI N) (hN10 : N ≤ 10) (hr : atS w N id (-1)) : Mc g yX10_exists cX10_exists 2 (some .boolean) 6 0 0 [.ref M, .int id] X T (sr I (M + 1) w) (Ex (some (.int (nI 0))) X T (sr (u2 I M 0 (nI 0)) (M + 1) w)) := by
  refine Mc.of (by decide) (Nat.le_of_ble_eq_true rfl) (fun k hfl C => ?_)
  refine r_lo (lo' := [(0, _), (1, _)]) rfl ?_
  refine r_aload_n (pc := 0) C 0 dX10_exists_0 rfl rfl ?_
  refine r_iconst (pc := 1) (v := 0) C dX10_exists_1 rfl ?_
  refine r_wput (pc := 2) (by omega) C f_X10_1 hm.1 rfl rfl rfl dX10_exists_2 ?_
  refine r_aload_n (pc := 5) C 0 dX10_exists_5 rfl rfl ?_
  refine r_iload_n (pc := 6) C 1 dX10_exists_6 rfl rfl ?_
  refine r_cVi (pc := 7) C hfl k_X10_121 (c_slotOf hm hN hN10 hr) hm.1 ca_X10 rfl rfl (Nat.le_of_ble_eq_true rfl) (by decide) (by decide) dX10_exists_7 ?_
  refine r_iflt (pc := 10) (tgt := 17) C dX10_exists_10 rfl (fun _ => ?_) (fun c => absurd (by decide) c)
  refine r_iconst (pc := 17) (v := 0) C dX10_exists_17 rfl ?_
  exact r_zret (pc := 18) C rfl dX10_exists_18 ⟨rfl, rfl, rfl, rfl⟩ (by decide)

set_option maxHeartbeats 1000000 in
theorem c_idAt__v {g : GG} {X : va_W} {T : TT} {I : II} {M : Nat} {w : Nat → Int32} (hm : isMd T M) {N : Nat} (hN : w 2 = nI N) (hN10 : N ≤ 10) {q : Nat} (hq : q < N) : Mc g yX10_idAt cX10_idAt 2 (some .int) 6 0 0 [.ref M, .int (nI q)] X T (sr I (M + 1) w) (Ex (some (.int (w (58 + 10 * q + 0)))) X T (sr (u2 I M 0 (nI 0)) (M + 1) w)) := by
  refine Mc.of (by decide) (Nat.le_of_ble_eq_true rfl) (fun k hfl C => ?_)
  refine r_lo (lo' := [(0, _), (1, _)]) rfl ?_
  refine r_aload_n (pc := 0) C 0 dX10_idAt_0 rfl rfl ?_
  refine r_iconst (pc := 1) (v := 0) C dX10_idAt_1 rfl ?_
  refine r_wput (pc := 2) (by omega) C f_X10_1 hm.1 rfl rfl rfl dX10_idAt_2 ?_
  refine r_iload_n (pc := 5) C 1 dX10_idAt_5 rfl rfl ?_
  refine r_iconst (pc := 6) (v := 0) C dX10_idAt_6 rfl ?_
  refine r_aload_n (pc := 7) C 0 dX10_idAt_7 rfl rfl ?_
  refine r_getR (pc := 8) (x := M + 1) C f_X10_13 hm.1 rfl rfl dX10_idAt_8 ?_
  refine r_iconst (pc := 11) (v := 2) C dX10_idAt_11 rfl ?_
  refine r_wld (pc := 12) (x := 2) C hm.2.1 rfl (by omega) (by decide) dX10_idAt_12 ?_
  refine r_t (y := nI N) hN ?_
  refine r_iconst (pc := 13) (v := 1) C dX10_idAt_13 rfl ?_
  refine r_isub (pc := 14) C dX10_idAt_14 ?_
  refine r_cSi (pc := 15) C hfl k_X10_54 (c_isBetween _ _ _) rfl rfl (Nat.le_of_ble_eq_true rfl) (by decide) (by decide) dX10_idAt_15 ?_
  refine r_ifeqB (pc := 18) (tgt := 30) C dX10_idAt_18 rfl (fun c_18 => False.elim (by exact c_18 (okN_nI (by omega) hq))) (fun c_18 => ?_)
  refine r_aload_n (pc := 21) C 0 dX10_idAt_21 rfl rfl ?_
  refine r_iload_n (pc := 22) C 1 dX10_idAt_22 rfl rfl ?_
  refine r_iconst (pc := 23) (v := 0) C dX10_idAt_23 rfl ?_
  refine r_cVi (pc := 24) C hfl k_X10_58 (c_is hm (by omega) (by omega)) hm.1 ca_X10 rfl rfl (Nat.le_of_ble_eq_true rfl) (by decide) (by decide) dX10_idAt_24 ?_
  refine r_goto (pc := 27) (tgt := 35) C dX10_idAt_27 rfl ?_
  exact r_iret (pc := 35) C dX10_idAt_35 ⟨rfl, rfl, rfl, rfl⟩ (by decide)

set_option maxHeartbeats 1000000 in
theorem c_idAt__x {g : GG} {X : va_W} {T : TT} {I : II} {M : Nat} {w : Nat → Int32} (hm : isMd T M) {x : Int32} {N : Nat} (hN : w 2 = nI N) (hN10 : N ≤ 10) (hx : ¬ okN N x) : Mc g yX10_idAt cX10_idAt 2 (some .int) 6 0 0 [.ref M, .int x] X T (sr I (M + 1) w) (Ex (some (.int (nI 0))) X T (sr (u2 I M 0 (nI 1)) (M + 1) w)) := by
  refine Mc.of (by decide) (Nat.le_of_ble_eq_true rfl) (fun k hfl C => ?_)
  refine r_lo (lo' := [(0, _), (1, _)]) rfl ?_
  refine r_aload_n (pc := 0) C 0 dX10_idAt_0 rfl rfl ?_
  refine r_iconst (pc := 1) (v := 0) C dX10_idAt_1 rfl ?_
  refine r_wput (pc := 2) (by omega) C f_X10_1 hm.1 rfl rfl rfl dX10_idAt_2 ?_
  refine r_iload_n (pc := 5) C 1 dX10_idAt_5 rfl rfl ?_
  refine r_iconst (pc := 6) (v := 0) C dX10_idAt_6 rfl ?_
  refine r_aload_n (pc := 7) C 0 dX10_idAt_7 rfl rfl ?_
  refine r_getR (pc := 8) (x := M + 1) C f_X10_13 hm.1 rfl rfl dX10_idAt_8 ?_
  refine r_iconst (pc := 11) (v := 2) C dX10_idAt_11 rfl ?_
  refine r_wld (pc := 12) (x := 2) C hm.2.1 rfl (by omega) (by decide) dX10_idAt_12 ?_
  refine r_t (y := nI N) hN ?_
  refine r_iconst (pc := 13) (v := 1) C dX10_idAt_13 rfl ?_
  refine r_isub (pc := 14) C dX10_idAt_14 ?_
  refine r_cSi (pc := 15) C hfl k_X10_54 (c_isBetween _ _ _) rfl rfl (Nat.le_of_ble_eq_true rfl) (by decide) (by decide) dX10_idAt_15 ?_
  refine r_ifeqB (pc := 18) (tgt := 30) C dX10_idAt_18 rfl (fun c_18 => ?_) (fun c_18 => False.elim (by exact hx c_18))
  refine r_aload_n (pc := 30) C 0 dX10_idAt_30 rfl rfl ?_
  refine r_iconst (pc := 31) (v := 1) C dX10_idAt_31 rfl ?_
  refine r_cVi (pc := 32) C hfl k_X10_79 (c_fails hm ) hm.1 ca_X10 rfl rfl (Nat.le_of_ble_eq_true rfl) (by decide) (by decide) dX10_idAt_32 ?_
  exact r_iret (pc := 35) C dX10_idAt_35 ⟨rfl, rfl, rfl, by rw [u2_u2]⟩ (by decide)

set_option maxHeartbeats 1000000 in
theorem c_asksLoan__s {g : GG} {X : va_W} {T : TT} {I : II} {M : Nat} {w : Nat → Int32} (hm : isMd T M) {id : Int32} {N : Nat} (hN : w 2 = nI N) (hN10 : N ≤ 10) {s : Nat} (hs : s < N) (hr : atS w N id (nI s)) {j : Nat} (hj : j < 10) : Mc g yX10_asksLoan cX10_asksLoan 3 (some .int) 6 0 0 [.ref M, .int id, .int (nI j)] X T (sr I (M + 1) w) (Ex (some (.int (w (58 + 10 * s + j)))) X T (sr (u2 I M 0 (nI 0)) (M + 1) w)) := by
  refine Mc.of (by decide) (Nat.le_of_ble_eq_true rfl) (fun k hfl C => ?_)
  refine r_lo (lo' := [(0, _), (1, _), (2, _)]) rfl ?_
  refine r_aload_n (pc := 0) C 0 dX10_asksLoan_0 rfl rfl ?_
  refine r_iconst (pc := 1) (v := 0) C dX10_asksLoan_1 rfl ?_
  refine r_wput (pc := 2) (by omega) C f_X10_1 hm.1 rfl rfl rfl dX10_asksLoan_2 ?_
  refine r_aload_n (pc := 5) C 0 dX10_asksLoan_5 rfl rfl ?_
  refine r_iload_n (pc := 6) C 1 dX10_asksLoan_6 rfl rfl ?_
  refine r_cVi (pc := 7) C hfl k_X10_121 (c_slotOf hm hN hN10 hr) hm.1 ca_X10 rfl rfl (Nat.le_of_ble_eq_true rfl) (by decide) (by decide) dX10_asksLoan_7 ?_
  refine r_ifgeN (pc := 10) (tgt := 21) C dX10_asksLoan_10 rfl (by omega) ?_
  refine r_aload_n (pc := 21) C 0 dX10_asksLoan_21 rfl rfl ?_
  refine r_aload_n (pc := 22) C 0 dX10_asksLoan_22 rfl rfl ?_
  refine r_iload_n (pc := 23) C 1 dX10_asksLoan_23 rfl rfl ?_
  refine r_cVi (pc := 24) C hfl k_X10_121 (c_slotOf hm hN hN10 hr) hm.1 ca_X10 rfl rfl (Nat.le_of_ble_eq_true rfl) (by decide) (by decide) dX10_asksLoan_24 ?_
  refine r_iload_n (pc := 27) C 2 dX10_asksLoan_27 rfl rfl ?_
  refine r_cVi (pc := 28) C hfl k_X10_58 (c_is hm (by omega) (by omega)) hm.1 ca_X10 rfl rfl (Nat.le_of_ble_eq_true rfl) (by decide) (by decide) dX10_asksLoan_28 ?_
  exact r_iret (pc := 31) C dX10_asksLoan_31 ⟨rfl, rfl, rfl, rfl⟩ (by decide)

set_option maxHeartbeats 1000000 in
theorem c_asksLoan__n {g : GG} {X : va_W} {T : TT} {I : II} {M : Nat} {w : Nat → Int32} (hm : isMd T M) {id : Int32} {N : Nat} (hN : w 2 = nI N) (hN10 : N ≤ 10) (hr : atS w N id (-1)) {j : Nat} : Mc g yX10_asksLoan cX10_asksLoan 3 (some .int) 6 0 0 [.ref M, .int id, .int (nI j)] X T (sr I (M + 1) w) (Ex (some (.int (nI 0))) X T (sr (u2 I M 0 (nI 1)) (M + 1) w)) := by
  refine Mc.of (by decide) (Nat.le_of_ble_eq_true rfl) (fun k hfl C => ?_)
  refine r_lo (lo' := [(0, _), (1, _), (2, _)]) rfl ?_
  refine r_aload_n (pc := 0) C 0 dX10_asksLoan_0 rfl rfl ?_
  refine r_iconst (pc := 1) (v := 0) C dX10_asksLoan_1 rfl ?_
  refine r_wput (pc := 2) (by omega) C f_X10_1 hm.1 rfl rfl rfl dX10_asksLoan_2 ?_
  refine r_aload_n (pc := 5) C 0 dX10_asksLoan_5 rfl rfl ?_
  refine r_iload_n (pc := 6) C 1 dX10_asksLoan_6 rfl rfl ?_
  refine r_cVi (pc := 7) C hfl k_X10_121 (c_slotOf hm hN hN10 hr) hm.1 ca_X10 rfl rfl (Nat.le_of_ble_eq_true rfl) (by decide) (by decide) dX10_asksLoan_7 ?_
  refine r_ifge (pc := 10) (tgt := 21) C dX10_asksLoan_10 rfl (fun c => absurd c (by decide)) (fun _ => ?_)
  refine r_aload_n (pc := 13) C 0 dX10_asksLoan_13 rfl rfl ?_
  refine r_iconst (pc := 14) (v := 1) C dX10_asksLoan_14 rfl ?_
  refine r_cVi (pc := 15) C hfl k_X10_79 (c_fails hm ) hm.1 ca_X10 rfl rfl (Nat.le_of_ble_eq_true rfl) (by decide) (by decide) dX10_asksLoan_15 ?_
  refine r_goto (pc := 18) (tgt := 31) C dX10_asksLoan_18 rfl ?_
  exact r_iret (pc := 31) C dX10_asksLoan_31 ⟨rfl, rfl, rfl, by rw [u2_u2]⟩ (by decide)

set_option maxHeartbeats 1000000 in
theorem c_borrowerOf__s {g : GG} {X : va_W} {T : TT} {I : II} {M : Nat} {w : Nat → Int32} (hm : isMd T M) {id : Int32} {N : Nat} (hN : w 2 = nI N) (hN10 : N ≤ 10) {s : Nat} (hs : s < N) (hr : atS w N id (nI s)) : Mc g yX10_borrowerOf cX10_borrowerOf 2 (some .int) 7 0 0 [.ref M, .int id] X T (sr I (M + 1) w) (Ex (some (.int (w (58 + 10 * s + 1)))) X T (sr (u2 I M 0 (nI 0)) (M + 1) w)) := by
  refine Mc.of (by decide) (Nat.le_of_ble_eq_true rfl) (fun k hfl C => ?_)
  refine r_lo (lo' := [(0, _), (1, _)]) rfl ?_
  refine r_aload_n (pc := 0) C 0 dX10_borrowerOf_0 rfl rfl ?_
  refine r_iload_n (pc := 1) C 1 dX10_borrowerOf_1 rfl rfl ?_
  refine r_iconst (pc := 2) (v := 1) C dX10_borrowerOf_2 rfl ?_
  refine r_cVi (pc := 3) C hfl k_X10_196 (c_asksLoan__s hm hN hN10 hs hr (by omega)) hm.1 ca_X10 rfl rfl (Nat.le_of_ble_eq_true rfl) (by decide) (by decide) dX10_borrowerOf_3 ?_
  exact r_iret (pc := 6) C dX10_borrowerOf_6 ⟨rfl, rfl, rfl, rfl⟩ (by decide)

set_option maxHeartbeats 1000000 in
theorem c_borrowerOf__n {g : GG} {X : va_W} {T : TT} {I : II} {M : Nat} {w : Nat → Int32} (hm : isMd T M) {id : Int32} {N : Nat} (hN : w 2 = nI N) (hN10 : N ≤ 10) (hr : atS w N id (-1)) : Mc g yX10_borrowerOf cX10_borrowerOf 2 (some .int) 7 0 0 [.ref M, .int id] X T (sr I (M + 1) w) (Ex (some (.int (nI 0))) X T (sr (u2 I M 0 (nI 1)) (M + 1) w)) := by
  refine Mc.of (by decide) (Nat.le_of_ble_eq_true rfl) (fun k hfl C => ?_)
  refine r_lo (lo' := [(0, _), (1, _)]) rfl ?_
  refine r_aload_n (pc := 0) C 0 dX10_borrowerOf_0 rfl rfl ?_
  refine r_iload_n (pc := 1) C 1 dX10_borrowerOf_1 rfl rfl ?_
  refine r_iconst (pc := 2) (v := 1) C dX10_borrowerOf_2 rfl ?_
  refine r_cVi (pc := 3) C hfl k_X10_196 (c_asksLoan__n hm hN hN10 hr) hm.1 ca_X10 rfl rfl (Nat.le_of_ble_eq_true rfl) (by decide) (by decide) dX10_borrowerOf_3 ?_
  exact r_iret (pc := 6) C dX10_borrowerOf_6 ⟨rfl, rfl, rfl, rfl⟩ (by decide)

set_option maxHeartbeats 1000000 in
theorem c_principal__s {g : GG} {X : va_W} {T : TT} {I : II} {M : Nat} {w : Nat → Int32} (hm : isMd T M) {id : Int32} {N : Nat} (hN : w 2 = nI N) (hN10 : N ≤ 10) {s : Nat} (hs : s < N) (hr : atS w N id (nI s)) : Mc g yX10_principal cX10_principal 2 (some .int) 7 0 0 [.ref M, .int id] X T (sr I (M + 1) w) (Ex (some (.int (w (58 + 10 * s + 2)))) X T (sr (u2 I M 0 (nI 0)) (M + 1) w)) := by
  refine Mc.of (by decide) (Nat.le_of_ble_eq_true rfl) (fun k hfl C => ?_)
  refine r_lo (lo' := [(0, _), (1, _)]) rfl ?_
  refine r_aload_n (pc := 0) C 0 dX10_principal_0 rfl rfl ?_
  refine r_iload_n (pc := 1) C 1 dX10_principal_1 rfl rfl ?_
  refine r_iconst (pc := 2) (v := 2) C dX10_principal_2 rfl ?_
  refine r_cVi (pc := 3) C hfl k_X10_196 (c_asksLoan__s hm hN hN10 hs hr (by omega)) hm.1 ca_X10 rfl rfl (Nat.le_of_ble_eq_true rfl) (by decide) (by decide) dX10_principal_3 ?_
  exact r_iret (pc := 6) C dX10_principal_6 ⟨rfl, rfl, rfl, rfl⟩ (by decide)

set_option maxHeartbeats 1000000 in
theorem c_principal__n {g : GG} {X : va_W} {T : TT} {I : II} {M : Nat} {w : Nat → Int32} (hm : isMd T M) {id : Int32} {N : Nat} (hN : w 2 = nI N) (hN10 : N ≤ 10) (hr : atS w N id (-1)) : Mc g yX10_principal cX10_principal 2 (some .int) 7 0 0 [.ref M, .int id] X T (sr I (M + 1) w) (Ex (some (.int (nI 0))) X T (sr (u2 I M 0 (nI 1)) (M + 1) w)) := by
  refine Mc.of (by decide) (Nat.le_of_ble_eq_true rfl) (fun k hfl C => ?_)
  refine r_lo (lo' := [(0, _), (1, _)]) rfl ?_
  refine r_aload_n (pc := 0) C 0 dX10_principal_0 rfl rfl ?_
  refine r_iload_n (pc := 1) C 1 dX10_principal_1 rfl rfl ?_
  refine r_iconst (pc := 2) (v := 2) C dX10_principal_2 rfl ?_
  refine r_cVi (pc := 3) C hfl k_X10_196 (c_asksLoan__n hm hN hN10 hr) hm.1 ca_X10 rfl rfl (Nat.le_of_ble_eq_true rfl) (by decide) (by decide) dX10_principal_3 ?_
  exact r_iret (pc := 6) C dX10_principal_6 ⟨rfl, rfl, rfl, rfl⟩ (by decide)

set_option maxHeartbeats 1000000 in
theorem c_interest__s {g : GG} {X : va_W} {T : TT} {I : II} {M : Nat} {w : Nat → Int32} (hm : isMd T M) {id : Int32} {N : Nat} (hN : w 2 = nI N) (hN10 : N ≤ 10) {s : Nat} (hs : s < N) (hr : atS w N id (nI s)) : Mc g yX10_interest cX10_interest 2 (some .int) 7 0 0 [.ref M, .int id] X T (sr I (M + 1) w) (Ex (some (.int (w (58 + 10 * s + 3)))) X T (sr (u2 I M 0 (nI 0)) (M + 1) w)) := by
  refine Mc.of (by decide) (Nat.le_of_ble_eq_true rfl) (fun k hfl C => ?_)
  refine r_lo (lo' := [(0, _), (1, _)]) rfl ?_
  refine r_aload_n (pc := 0) C 0 dX10_interest_0 rfl rfl ?_
  refine r_iload_n (pc := 1) C 1 dX10_interest_1 rfl rfl ?_
  refine r_iconst (pc := 2) (v := 3) C dX10_interest_2 rfl ?_
  refine r_cVi (pc := 3) C hfl k_X10_196 (c_asksLoan__s hm hN hN10 hs hr (by omega)) hm.1 ca_X10 rfl rfl (Nat.le_of_ble_eq_true rfl) (by decide) (by decide) dX10_interest_3 ?_
  exact r_iret (pc := 6) C dX10_interest_6 ⟨rfl, rfl, rfl, rfl⟩ (by decide)

set_option maxHeartbeats 1000000 in
theorem c_interest__n {g : GG} {X : va_W} {T : TT} {I : II} {M : Nat} {w : Nat → Int32} (hm : isMd T M) {id : Int32} {N : Nat} (hN : w 2 = nI N) (hN10 : N ≤ 10) (hr : atS w N id (-1)) : Mc g yX10_interest cX10_interest 2 (some .int) 7 0 0 [.ref M, .int id] X T (sr I (M + 1) w) (Ex (some (.int (nI 0))) X T (sr (u2 I M 0 (nI 1)) (M + 1) w)) := by
  refine Mc.of (by decide) (Nat.le_of_ble_eq_true rfl) (fun k hfl C => ?_)
  refine r_lo (lo' := [(0, _), (1, _)]) rfl ?_
  refine r_aload_n (pc := 0) C 0 dX10_interest_0 rfl rfl ?_
  refine r_iload_n (pc := 1) C 1 dX10_interest_1 rfl rfl ?_
  refine r_iconst (pc := 2) (v := 3) C dX10_interest_2 rfl ?_
  refine r_cVi (pc := 3) C hfl k_X10_196 (c_asksLoan__n hm hN hN10 hr) hm.1 ca_X10 rfl rfl (Nat.le_of_ble_eq_true rfl) (by decide) (by decide) dX10_interest_3 ?_
  exact r_iret (pc := 6) C dX10_interest_6 ⟨rfl, rfl, rfl, rfl⟩ (by decide)

set_option maxHeartbeats 1000000 in
theorem c_rate__s {g : GG} {X : va_W} {T : TT} {I : II} {M : Nat} {w : Nat → Int32} (hm : isMd T M) {id : Int32} {N : Nat} (hN : w 2 = nI N) (hN10 : N ≤ 10) {s : Nat} (hs : s < N) (hr : atS w N id (nI s)) : Mc g yX10_rate cX10_rate 2 (some .int) 7 0 0 [.ref M, .int id] X T (sr I (M + 1) w) (Ex (some (.int (w (58 + 10 * s + 4)))) X T (sr (u2 I M 0 (nI 0)) (M + 1) w)) := by
  refine Mc.of (by decide) (Nat.le_of_ble_eq_true rfl) (fun k hfl C => ?_)
  refine r_lo (lo' := [(0, _), (1, _)]) rfl ?_
  refine r_aload_n (pc := 0) C 0 dX10_rate_0 rfl rfl ?_
  refine r_iload_n (pc := 1) C 1 dX10_rate_1 rfl rfl ?_
  refine r_iconst (pc := 2) (v := 4) C dX10_rate_2 rfl ?_
  refine r_cVi (pc := 3) C hfl k_X10_196 (c_asksLoan__s hm hN hN10 hs hr (by omega)) hm.1 ca_X10 rfl rfl (Nat.le_of_ble_eq_true rfl) (by decide) (by decide) dX10_rate_3 ?_
  exact r_iret (pc := 6) C dX10_rate_6 ⟨rfl, rfl, rfl, rfl⟩ (by decide)

set_option maxHeartbeats 1000000 in
theorem c_rate__n {g : GG} {X : va_W} {T : TT} {I : II} {M : Nat} {w : Nat → Int32} (hm : isMd T M) {id : Int32} {N : Nat} (hN : w 2 = nI N) (hN10 : N ≤ 10) (hr : atS w N id (-1)) : Mc g yX10_rate cX10_rate 2 (some .int) 7 0 0 [.ref M, .int id] X T (sr I (M + 1) w) (Ex (some (.int (nI 0))) X T (sr (u2 I M 0 (nI 1)) (M + 1) w)) := by
  refine Mc.of (by decide) (Nat.le_of_ble_eq_true rfl) (fun k hfl C => ?_)
  refine r_lo (lo' := [(0, _), (1, _)]) rfl ?_
  refine r_aload_n (pc := 0) C 0 dX10_rate_0 rfl rfl ?_
  refine r_iload_n (pc := 1) C 1 dX10_rate_1 rfl rfl ?_
  refine r_iconst (pc := 2) (v := 4) C dX10_rate_2 rfl ?_
  refine r_cVi (pc := 3) C hfl k_X10_196 (c_asksLoan__n hm hN hN10 hr) hm.1 ca_X10 rfl rfl (Nat.le_of_ble_eq_true rfl) (by decide) (by decide) dX10_rate_3 ?_
  exact r_iret (pc := 6) C dX10_rate_6 ⟨rfl, rfl, rfl, rfl⟩ (by decide)

set_option maxHeartbeats 1000000 in
theorem c_dueDay__s {g : GG} {X : va_W} {T : TT} {I : II} {M : Nat} {w : Nat → Int32} (hm : isMd T M) {id : Int32} {N : Nat} (hN : w 2 = nI N) (hN10 : N ≤ 10) {s : Nat} (hs : s < N) (hr : atS w N id (nI s)) : Mc g yX10_dueDay cX10_dueDay 2 (some .int) 7 0 0 [.ref M, .int id] X T (sr I (M + 1) w) (Ex (some (.int (w (58 + 10 * s + 5)))) X T (sr (u2 I M 0 (nI 0)) (M + 1) w)) := by
  refine Mc.of (by decide) (Nat.le_of_ble_eq_true rfl) (fun k hfl C => ?_)
  refine r_lo (lo' := [(0, _), (1, _)]) rfl ?_
  refine r_aload_n (pc := 0) C 0 dX10_dueDay_0 rfl rfl ?_
  refine r_iload_n (pc := 1) C 1 dX10_dueDay_1 rfl rfl ?_
  refine r_iconst (pc := 2) (v := 5) C dX10_dueDay_2 rfl ?_
  refine r_cVi (pc := 3) C hfl k_X10_196 (c_asksLoan__s hm hN hN10 hs hr (by omega)) hm.1 ca_X10 rfl rfl (Nat.le_of_ble_eq_true rfl) (by decide) (by decide) dX10_dueDay_3 ?_
  exact r_iret (pc := 6) C dX10_dueDay_6 ⟨rfl, rfl, rfl, rfl⟩ (by decide)

set_option maxHeartbeats 1000000 in
theorem c_dueDay__n {g : GG} {X : va_W} {T : TT} {I : II} {M : Nat} {w : Nat → Int32} (hm : isMd T M) {id : Int32} {N : Nat} (hN : w 2 = nI N) (hN10 : N ≤ 10) (hr : atS w N id (-1)) : Mc g yX10_dueDay cX10_dueDay 2 (some .int) 7 0 0 [.ref M, .int id] X T (sr I (M + 1) w) (Ex (some (.int (nI 0))) X T (sr (u2 I M 0 (nI 1)) (M + 1) w)) := by
  refine Mc.of (by decide) (Nat.le_of_ble_eq_true rfl) (fun k hfl C => ?_)
  refine r_lo (lo' := [(0, _), (1, _)]) rfl ?_
  refine r_aload_n (pc := 0) C 0 dX10_dueDay_0 rfl rfl ?_
  refine r_iload_n (pc := 1) C 1 dX10_dueDay_1 rfl rfl ?_
  refine r_iconst (pc := 2) (v := 5) C dX10_dueDay_2 rfl ?_
  refine r_cVi (pc := 3) C hfl k_X10_196 (c_asksLoan__n hm hN hN10 hr) hm.1 ca_X10 rfl rfl (Nat.le_of_ble_eq_true rfl) (by decide) (by decide) dX10_dueDay_3 ?_
  exact r_iret (pc := 6) C dX10_dueDay_6 ⟨rfl, rfl, rfl, rfl⟩ (by decide)

set_option maxHeartbeats 1000000 in
theorem c_debt__s {g : GG} {X : va_W} {T : TT} {I : II} {M : Nat} {w : Nat → Int32} (hm : isMd T M) {id : Int32} {N : Nat} (hN : w 2 = nI N) (hN10 : N ≤ 10) {s : Nat} (hs : s < N) (hr : atS w N id (nI s)) : Mc g yX10_debt cX10_debt 2 (some .int) 6 0 0 [.ref M, .int id] X T (sr I (M + 1) w) (Ex (some (.int (debtV w s))) X T (sr (u2 I M 0 (nI 0)) (M + 1) w)) := by
  refine Mc.of (by decide) (Nat.le_of_ble_eq_true rfl) (fun k hfl C => ?_)
  refine r_lo (lo' := [(0, _), (1, _)]) rfl ?_
  refine r_aload_n (pc := 0) C 0 dX10_debt_0 rfl rfl ?_
  refine r_iconst (pc := 1) (v := 0) C dX10_debt_1 rfl ?_
  refine r_wput (pc := 2) (by omega) C f_X10_1 hm.1 rfl rfl rfl dX10_debt_2 ?_
  refine r_aload_n (pc := 5) C 0 dX10_debt_5 rfl rfl ?_
  refine r_iload_n (pc := 6) C 1 dX10_debt_6 rfl rfl ?_
  refine r_cVi (pc := 7) C hfl k_X10_121 (c_slotOf hm hN hN10 hr) hm.1 ca_X10 rfl rfl (Nat.le_of_ble_eq_true rfl) (by decide) (by decide) dX10_debt_7 ?_
  refine r_ifgeN (pc := 10) (tgt := 21) C dX10_debt_10 rfl (by omega) ?_
  refine r_aload_n (pc := 21) C 0 dX10_debt_21 rfl rfl ?_
  refine r_aload_n (pc := 22) C 0 dX10_debt_22 rfl rfl ?_
  refine r_iload_n (pc := 23) C 1 dX10_debt_23 rfl rfl ?_
  refine r_cVi (pc := 24) C hfl k_X10_121 (c_slotOf hm hN hN10 hr) hm.1 ca_X10 rfl rfl (Nat.le_of_ble_eq_true rfl) (by decide) (by decide) dX10_debt_24 ?_
  refine r_cVi (pc := 27) C hfl k_X10_62 (c_debtAt hm (by omega)) hm.1 ca_X10 rfl rfl (Nat.le_of_ble_eq_true rfl) (by decide) (by decide) dX10_debt_27 ?_
  exact r_iret (pc := 30) C dX10_debt_30 ⟨rfl, rfl, rfl, rfl⟩ (by decide)

set_option maxHeartbeats 1000000 in
theorem c_debt__n {g : GG} {X : va_W} {T : TT} {I : II} {M : Nat} {w : Nat → Int32} (hm : isMd T M) {id : Int32} {N : Nat} (hN : w 2 = nI N) (hN10 : N ≤ 10) (hr : atS w N id (-1)) : Mc g yX10_debt cX10_debt 2 (some .int) 6 0 0 [.ref M, .int id] X T (sr I (M + 1) w) (Ex (some (.int (nI 0))) X T (sr (u2 I M 0 (nI 1)) (M + 1) w)) := by
  refine Mc.of (by decide) (Nat.le_of_ble_eq_true rfl) (fun k hfl C => ?_)
  refine r_lo (lo' := [(0, _), (1, _)]) rfl ?_
  refine r_aload_n (pc := 0) C 0 dX10_debt_0 rfl rfl ?_
  refine r_iconst (pc := 1) (v := 0) C dX10_debt_1 rfl ?_
  refine r_wput (pc := 2) (by omega) C f_X10_1 hm.1 rfl rfl rfl dX10_debt_2 ?_
  refine r_aload_n (pc := 5) C 0 dX10_debt_5 rfl rfl ?_
  refine r_iload_n (pc := 6) C 1 dX10_debt_6 rfl rfl ?_
  refine r_cVi (pc := 7) C hfl k_X10_121 (c_slotOf hm hN hN10 hr) hm.1 ca_X10 rfl rfl (Nat.le_of_ble_eq_true rfl) (by decide) (by decide) dX10_debt_7 ?_
  refine r_ifge (pc := 10) (tgt := 21) C dX10_debt_10 rfl (fun c => absurd c (by decide)) (fun _ => ?_)
  refine r_aload_n (pc := 13) C 0 dX10_debt_13 rfl rfl ?_
  refine r_iconst (pc := 14) (v := 1) C dX10_debt_14 rfl ?_
  refine r_cVi (pc := 15) C hfl k_X10_79 (c_fails hm ) hm.1 ca_X10 rfl rfl (Nat.le_of_ble_eq_true rfl) (by decide) (by decide) dX10_debt_15 ?_
  refine r_goto (pc := 18) (tgt := 30) C dX10_debt_18 rfl ?_
  exact r_iret (pc := 30) C dX10_debt_30 ⟨rfl, rfl, rfl, by rw [u2_u2]⟩ (by decide)

set_option maxHeartbeats 1000000 in
theorem c_collateralValue__s {g : GG} {X : va_W} {T : TT} {I : II} {M : Nat} {w : Nat → Int32} (hm : isMd T M) {id : Int32} {N : Nat} (hN : w 2 = nI N) (hN10 : N ≤ 10) {s : Nat} (hs : s < N) (hr : atS w N id (nI s)) : Mc g yX10_collateralValue cX10_collateralValue 2 (some .int) 6 0 0 [.ref M, .int id] X T (sr I (M + 1) w) (Ex (some (.int (valV w s))) X T (sr (u2 I M 0 (nI 0)) (M + 1) w)) := by
  refine Mc.of (by decide) (Nat.le_of_ble_eq_true rfl) (fun k hfl C => ?_)
  refine r_lo (lo' := [(0, _), (1, _)]) rfl ?_
  refine r_aload_n (pc := 0) C 0 dX10_collateralValue_0 rfl rfl ?_
  refine r_iconst (pc := 1) (v := 0) C dX10_collateralValue_1 rfl ?_
  refine r_wput (pc := 2) (by omega) C f_X10_1 hm.1 rfl rfl rfl dX10_collateralValue_2 ?_
  refine r_aload_n (pc := 5) C 0 dX10_collateralValue_5 rfl rfl ?_
  refine r_iload_n (pc := 6) C 1 dX10_collateralValue_6 rfl rfl ?_
  refine r_cVi (pc := 7) C hfl k_X10_121 (c_slotOf hm hN hN10 hr) hm.1 ca_X10 rfl rfl (Nat.le_of_ble_eq_true rfl) (by decide) (by decide) dX10_collateralValue_7 ?_
  refine r_ifgeN (pc := 10) (tgt := 21) C dX10_collateralValue_10 rfl (by omega) ?_
  refine r_aload_n (pc := 21) C 0 dX10_collateralValue_21 rfl rfl ?_
  refine r_aload_n (pc := 22) C 0 dX10_collateralValue_22 rfl rfl ?_
  refine r_iload_n (pc := 23) C 1 dX10_collateralValue_23 rfl rfl ?_
  refine r_cVi (pc := 24) C hfl k_X10_121 (c_slotOf hm hN hN10 hr) hm.1 ca_X10 rfl rfl (Nat.le_of_ble_eq_true rfl) (by decide) (by decide) dX10_collateralValue_24 ?_
  refine r_cVi (pc := 27) C hfl k_X10_66 (c_valueAt hm (by omega)) hm.1 ca_X10 rfl rfl (Nat.le_of_ble_eq_true rfl) (by decide) (by decide) dX10_collateralValue_27 ?_
  exact r_iret (pc := 30) C dX10_collateralValue_30 ⟨rfl, rfl, rfl, rfl⟩ (by decide)

set_option maxHeartbeats 1000000 in
theorem c_collateralValue__n {g : GG} {X : va_W} {T : TT} {I : II} {M : Nat} {w : Nat → Int32} (hm : isMd T M) {id : Int32} {N : Nat} (hN : w 2 = nI N) (hN10 : N ≤ 10) (hr : atS w N id (-1)) : Mc g yX10_collateralValue cX10_collateralValue 2 (some .int) 6 0 0 [.ref M, .int id] X T (sr I (M + 1) w) (Ex (some (.int (nI 0))) X T (sr (u2 I M 0 (nI 1)) (M + 1) w)) := by
  refine Mc.of (by decide) (Nat.le_of_ble_eq_true rfl) (fun k hfl C => ?_)
  refine r_lo (lo' := [(0, _), (1, _)]) rfl ?_
  refine r_aload_n (pc := 0) C 0 dX10_collateralValue_0 rfl rfl ?_
  refine r_iconst (pc := 1) (v := 0) C dX10_collateralValue_1 rfl ?_
  refine r_wput (pc := 2) (by omega) C f_X10_1 hm.1 rfl rfl rfl dX10_collateralValue_2 ?_
  refine r_aload_n (pc := 5) C 0 dX10_collateralValue_5 rfl rfl ?_
  refine r_iload_n (pc := 6) C 1 dX10_collateralValue_6 rfl rfl ?_
  refine r_cVi (pc := 7) C hfl k_X10_121 (c_slotOf hm hN hN10 hr) hm.1 ca_X10 rfl rfl (Nat.le_of_ble_eq_true rfl) (by decide) (by decide) dX10_collateralValue_7 ?_
  refine r_ifge (pc := 10) (tgt := 21) C dX10_collateralValue_10 rfl (fun c => absurd c (by decide)) (fun _ => ?_)
  refine r_aload_n (pc := 13) C 0 dX10_collateralValue_13 rfl rfl ?_
  refine r_iconst (pc := 14) (v := 1) C dX10_collateralValue_14 rfl ?_
  refine r_cVi (pc := 15) C hfl k_X10_79 (c_fails hm ) hm.1 ca_X10 rfl rfl (Nat.le_of_ble_eq_true rfl) (by decide) (by decide) dX10_collateralValue_15 ?_
  refine r_goto (pc := 18) (tgt := 30) C dX10_collateralValue_18 rfl ?_
  exact r_iret (pc := 30) C dX10_collateralValue_30 ⟨rfl, rfl, rfl, by rw [u2_u2]⟩ (by decide)

set_option maxHeartbeats 1000000 in
theorem c_collateral__s {g : GG} {X : va_W} {T : TT} {I : II} {M : Nat} {w : Nat → Int32} (hm : isMd T M) {id : Int32} {N : Nat} (hN : w 2 = nI N) (hN10 : N ≤ 10) {s : Nat} (hs : s < N) (hr : atS w N id (nI s)) {m : Nat} (hm4 : m < 4) : Mc g yX10_collateral cX10_collateral 3 (some .int) 6 0 0 [.ref M, .int id, .int (nI m)] X T (sr I (M + 1) w) (Ex (some (.int (w (58 + 10 * s + (6 + m))))) X T (sr (u2 I M 0 (nI 0)) (M + 1) w)) := by
  refine Mc.of (by decide) (Nat.le_of_ble_eq_true rfl) (fun k hfl C => ?_)
  refine r_lo (lo' := [(0, _), (1, _), (2, _)]) rfl ?_
  refine r_aload_n (pc := 0) C 0 dX10_collateral_0 rfl rfl ?_
  refine r_iconst (pc := 1) (v := 0) C dX10_collateral_1 rfl ?_
  refine r_wput (pc := 2) (by omega) C f_X10_1 hm.1 rfl rfl rfl dX10_collateral_2 ?_
  refine r_aload_n (pc := 5) C 0 dX10_collateral_5 rfl rfl ?_
  refine r_iload_n (pc := 6) C 1 dX10_collateral_6 rfl rfl ?_
  refine r_cVi (pc := 7) C hfl k_X10_121 (c_slotOf hm hN hN10 hr) hm.1 ca_X10 rfl rfl (Nat.le_of_ble_eq_true rfl) (by decide) (by decide) dX10_collateral_7 ?_
  refine r_ifgeN (pc := 10) (tgt := 19) C dX10_collateral_10 rfl (by omega) ?_
  refine r_iload_n (pc := 19) C 2 dX10_collateral_19 rfl rfl ?_
  refine r_cSi (pc := 20) C hfl k_X10_92 (c_isKind _) rfl rfl (Nat.le_of_ble_eq_true rfl) (by decide) (by decide) dX10_collateral_20 ?_
  refine r_ifeqB (pc := 23) (tgt := 42) C dX10_collateral_23 rfl (fun c_23 => False.elim (by exact c_23 (okK_nI hm4))) (fun c_23 => ?_)
  refine r_aload_n (pc := 26) C 0 dX10_collateral_26 rfl rfl ?_
  refine r_aload_n (pc := 27) C 0 dX10_collateral_27 rfl rfl ?_
  refine r_iload_n (pc := 28) C 1 dX10_collateral_28 rfl rfl ?_
  refine r_cVi (pc := 29) C hfl k_X10_121 (c_slotOf hm hN hN10 hr) hm.1 ca_X10 rfl rfl (Nat.le_of_ble_eq_true rfl) (by decide) (by decide) dX10_collateral_29 ?_
  refine r_bipush (pc := 32) (v := 6) C dX10_collateral_32 rfl ?_
  refine r_iload_n (pc := 34) C 2 dX10_collateral_34 rfl rfl ?_
  refine r_iaddN (pc := 35) C dX10_collateral_35 ?_
  refine r_cVi (pc := 36) C hfl k_X10_58 (c_is hm (by omega) (by omega)) hm.1 ca_X10 rfl rfl (Nat.le_of_ble_eq_true rfl) (by decide) (by decide) dX10_collateral_36 ?_
  refine r_goto (pc := 39) (tgt := 47) C dX10_collateral_39 rfl ?_
  exact r_iret (pc := 47) C dX10_collateral_47 ⟨rfl, rfl, rfl, rfl⟩ (by decide)

set_option maxHeartbeats 1000000 in
theorem c_collateral__x {g : GG} {X : va_W} {T : TT} {I : II} {M : Nat} {w : Nat → Int32} (hm : isMd T M) {id k_ : Int32} {N : Nat} (hN : w 2 = nI N) (hN10 : N ≤ 10) {s : Nat} (hs : s < N) (hr : atS w N id (nI s)) (hk : ¬ okK k_) : Mc g yX10_collateral cX10_collateral 3 (some .int) 6 0 0 [.ref M, .int id, .int k_] X T (sr I (M + 1) w) (Ex (some (.int (nI 0))) X T (sr (u2 I M 0 (nI 2)) (M + 1) w)) := by
  refine Mc.of (by decide) (Nat.le_of_ble_eq_true rfl) (fun k hfl C => ?_)
  refine r_lo (lo' := [(0, _), (1, _), (2, _)]) rfl ?_
  refine r_aload_n (pc := 0) C 0 dX10_collateral_0 rfl rfl ?_
  refine r_iconst (pc := 1) (v := 0) C dX10_collateral_1 rfl ?_
  refine r_wput (pc := 2) (by omega) C f_X10_1 hm.1 rfl rfl rfl dX10_collateral_2 ?_
  refine r_aload_n (pc := 5) C 0 dX10_collateral_5 rfl rfl ?_
  refine r_iload_n (pc := 6) C 1 dX10_collateral_6 rfl rfl ?_
  refine r_cVi (pc := 7) C hfl k_X10_121 (c_slotOf hm hN hN10 hr) hm.1 ca_X10 rfl rfl (Nat.le_of_ble_eq_true rfl) (by decide) (by decide) dX10_collateral_7 ?_
  refine r_ifgeN (pc := 10) (tgt := 19) C dX10_collateral_10 rfl (by omega) ?_
  refine r_iload_n (pc := 19) C 2 dX10_collateral_19 rfl rfl ?_
  refine r_cSi (pc := 20) C hfl k_X10_92 (c_isKind _) rfl rfl (Nat.le_of_ble_eq_true rfl) (by decide) (by decide) dX10_collateral_20 ?_
  refine r_ifeqB (pc := 23) (tgt := 42) C dX10_collateral_23 rfl (fun c_23 => ?_) (fun c_23 => False.elim (by exact hk c_23))
  refine r_aload_n (pc := 42) C 0 dX10_collateral_42 rfl rfl ?_
  refine r_iconst (pc := 43) (v := 2) C dX10_collateral_43 rfl ?_
  refine r_cVi (pc := 44) C hfl k_X10_79 (c_fails hm ) hm.1 ca_X10 rfl rfl (Nat.le_of_ble_eq_true rfl) (by decide) (by decide) dX10_collateral_44 ?_
  exact r_iret (pc := 47) C dX10_collateral_47 ⟨rfl, rfl, rfl, by rw [u2_u2]⟩ (by decide)

set_option maxHeartbeats 1000000 in
theorem c_collateral__n {g : GG} {X : va_W} {T : TT} {I : II} {M : Nat} {w : Nat → Int32} (hm : isMd T M) {id k_ : Int32} {N : Nat} (hN : w 2 = nI N) (hN10 : N ≤ 10) (hr : atS w N id (-1)) : Mc g yX10_collateral cX10_collateral 3 (some .int) 6 0 0 [.ref M, .int id, .int k_] X T (sr I (M + 1) w) (Ex (some (.int (nI 0))) X T (sr (u2 I M 0 (nI 1)) (M + 1) w)) := by
  refine Mc.of (by decide) (Nat.le_of_ble_eq_true rfl) (fun k hfl C => ?_)
  refine r_lo (lo' := [(0, _), (1, _), (2, _)]) rfl ?_
  refine r_aload_n (pc := 0) C 0 dX10_collateral_0 rfl rfl ?_
  refine r_iconst (pc := 1) (v := 0) C dX10_collateral_1 rfl ?_
  refine r_wput (pc := 2) (by omega) C f_X10_1 hm.1 rfl rfl rfl dX10_collateral_2 ?_
  refine r_aload_n (pc := 5) C 0 dX10_collateral_5 rfl rfl ?_
  refine r_iload_n (pc := 6) C 1 dX10_collateral_6 rfl rfl ?_
  refine r_cVi (pc := 7) C hfl k_X10_121 (c_slotOf hm hN hN10 hr) hm.1 ca_X10 rfl rfl (Nat.le_of_ble_eq_true rfl) (by decide) (by decide) dX10_collateral_7 ?_
  refine r_ifge (pc := 10) (tgt := 19) C dX10_collateral_10 rfl (fun c => absurd c (by decide)) (fun _ => ?_)
  refine r_aload_n (pc := 13) C 0 dX10_collateral_13 rfl rfl ?_
  refine r_iconst (pc := 14) (v := 1) C dX10_collateral_14 rfl ?_
  refine r_cVi (pc := 15) C hfl k_X10_79 (c_fails hm ) hm.1 ca_X10 rfl rfl (Nat.le_of_ble_eq_true rfl) (by decide) (by decide) dX10_collateral_15 ?_
  exact r_iret (pc := 18) C dX10_collateral_18 ⟨rfl, rfl, rfl, by rw [u2_u2]⟩ (by decide)

set_option maxHeartbeats 1000000 in
theorem c_isCovered__s {g : GG} {X : va_W} {T : TT} {I : II} {M : Nat} {w : Nat → Int32} (hm : isMd T M) {id : Int32} {N : Nat} (hN : w 2 = nI N) (hN10 : N ≤ 10) {s : Nat} (hs : s < N) (hr : atS w N id (nI s)) : Mc g yX10_isCovered cX10_isCovered 2 (some .boolean) 6 0 0 [.ref M, .int id] X T (sr I (M + 1) w) (Ex (some (.int (bI (nI 3 * debtV w s ≤ nI 2 * valV w s)))) X T (sr (u2 I M 0 (nI 0)) (M + 1) w)) := by
  refine Mc.of (by decide) (Nat.le_of_ble_eq_true rfl) (fun k hfl C => ?_)
  refine r_lo (lo' := [(0, _), (1, _)]) rfl ?_
  refine r_aload_n (pc := 0) C 0 dX10_isCovered_0 rfl rfl ?_
  refine r_iconst (pc := 1) (v := 0) C dX10_isCovered_1 rfl ?_
  refine r_wput (pc := 2) (by omega) C f_X10_1 hm.1 rfl rfl rfl dX10_isCovered_2 ?_
  refine r_aload_n (pc := 5) C 0 dX10_isCovered_5 rfl rfl ?_
  refine r_iload_n (pc := 6) C 1 dX10_isCovered_6 rfl rfl ?_
  refine r_cVi (pc := 7) C hfl k_X10_121 (c_slotOf hm hN hN10 hr) hm.1 ca_X10 rfl rfl (Nat.le_of_ble_eq_true rfl) (by decide) (by decide) dX10_isCovered_7 ?_
  refine r_ifgeN (pc := 10) (tgt := 27) C dX10_isCovered_10 rfl (by omega) ?_
  refine r_aload_n (pc := 27) C 0 dX10_isCovered_27 rfl rfl ?_
  refine r_aload_n (pc := 28) C 0 dX10_isCovered_28 rfl rfl ?_
  refine r_iload_n (pc := 29) C 1 dX10_isCovered_29 rfl rfl ?_
  refine r_cVi (pc := 30) C hfl k_X10_121 (c_slotOf hm hN hN10 hr) hm.1 ca_X10 rfl rfl (Nat.le_of_ble_eq_true rfl) (by decide) (by decide) dX10_isCovered_30 ?_
  refine r_cVi (pc := 33) C hfl k_X10_199 (c_isCoveredAt hm (by omega)) hm.1 ca_X10 rfl rfl (Nat.le_of_ble_eq_true rfl) (by decide) (by decide) dX10_isCovered_33 ?_
  exact r_zret (pc := 36) C bI_n dX10_isCovered_36 ⟨rfl, rfl, rfl, rfl⟩ (by decide)

set_option maxHeartbeats 1000000 in
theorem c_isCovered__n {g : GG} {X : va_W} {T : TT} {I : II} {M : Nat} {w : Nat → Int32} (hm : isMd T M) {id : Int32} {N : Nat} (hN : w 2 = nI N) (hN10 : N ≤ 10) (hr : atS w N id (-1)) : Mc g yX10_isCovered cX10_isCovered 2 (some .boolean) 6 0 0 [.ref M, .int id] X T (sr I (M + 1) w) (Ex (some (.int (nI 0))) X T (sr (u2 I M 0 (nI 1)) (M + 1) w)) := by
  refine Mc.of (by decide) (Nat.le_of_ble_eq_true rfl) (fun k hfl C => ?_)
  refine r_lo (lo' := [(0, _), (1, _)]) rfl ?_
  refine r_aload_n (pc := 0) C 0 dX10_isCovered_0 rfl rfl ?_
  refine r_iconst (pc := 1) (v := 0) C dX10_isCovered_1 rfl ?_
  refine r_wput (pc := 2) (by omega) C f_X10_1 hm.1 rfl rfl rfl dX10_isCovered_2 ?_
  refine r_aload_n (pc := 5) C 0 dX10_isCovered_5 rfl rfl ?_
  refine r_iload_n (pc := 6) C 1 dX10_isCovered_6 rfl rfl ?_
  refine r_cVi (pc := 7) C hfl k_X10_121 (c_slotOf hm hN hN10 hr) hm.1 ca_X10 rfl rfl (Nat.le_of_ble_eq_true rfl) (by decide) (by decide) dX10_isCovered_7 ?_
  refine r_ifge (pc := 10) (tgt := 27) C dX10_isCovered_10 rfl (fun c => absurd c (by decide)) (fun _ => ?_)
  refine r_aload_n (pc := 13) C 0 dX10_isCovered_13 rfl rfl ?_
  refine r_iconst (pc := 14) (v := 1) C dX10_isCovered_14 rfl ?_
  refine r_cVi (pc := 15) C hfl k_X10_79 (c_fails hm ) hm.1 ca_X10 rfl rfl (Nat.le_of_ble_eq_true rfl) (by decide) (by decide) dX10_isCovered_15 ?_
  refine r_ifleN (pc := 18) (tgt := 25) C dX10_isCovered_18 rfl (by omega) (fun c_18 => ?_) (fun c_18 => False.elim (by omega))
  refine r_iconst (pc := 25) (v := 0) C dX10_isCovered_25 rfl ?_
  exact r_zret (pc := 26) C rfl dX10_isCovered_26 ⟨rfl, rfl, rfl, by rw [u2_u2]⟩ (by decide)

set_option maxHeartbeats 1000000 in
theorem c_interestAfter__s {g : GG} {X : va_W} {T : TT} {I : II} {M : Nat} {w : Nat → Int32} (hm : isMd T M) {id d : Int32} {N : Nat} (hN : w 2 = nI N) (hN10 : N ≤ 10) {s : Nat} (hs : s < N) (hr : atS w N id (nI s)) (hd : okR 0 60 d) : Mc g yX10_interestAfter cX10_interestAfter 4 (some .int) 6 0 0 [.ref M, .int id, .int d] X T (sr I (M + 1) w) (Ex (some (.int (w (58 + 10 * s + 3) + d * dayV w s))) X T (sr (u2 I M 0 (nI 0)) (M + 1) w)) := by
  refine Mc.of (by decide) (Nat.le_of_ble_eq_true rfl) (fun k hfl C => ?_)
  refine r_lo (lo' := [(0, _), (1, _), (2, _)]) rfl ?_
  refine r_aload_n (pc := 0) C 0 dX10_interestAfter_0 rfl rfl ?_
  refine r_iconst (pc := 1) (v := 0) C dX10_interestAfter_1 rfl ?_
  refine r_wput (pc := 2) (by omega) C f_X10_1 hm.1 rfl rfl rfl dX10_interestAfter_2 ?_
  refine r_aload_n (pc := 5) C 0 dX10_interestAfter_5 rfl rfl ?_
  refine r_iload_n (pc := 6) C 1 dX10_interestAfter_6 rfl rfl ?_
  refine r_cVi (pc := 7) C hfl k_X10_121 (c_slotOf hm hN hN10 hr) hm.1 ca_X10 rfl rfl (Nat.le_of_ble_eq_true rfl) (by decide) (by decide) dX10_interestAfter_7 ?_
  refine r_istore_n (pc := 10) (lo' := [(3, _), (0, _), (1, _), (2, _)]) C dX10_interestAfter_10 rfl (by decide) rfl ?_
  refine r_iload_n (pc := 11) C 0 dX10_interestAfter_11 rfl rfl ?_
  refine r_ifgeN (pc := 12) (tgt := 21) C dX10_interestAfter_12 rfl (by omega) ?_
  refine r_iload_n (pc := 21) C 3 dX10_interestAfter_21 rfl rfl ?_
  refine r_iconst (pc := 22) (v := 0) C dX10_interestAfter_22 rfl ?_
  refine r_bipush (pc := 23) (v := 60) C dX10_interestAfter_23 rfl ?_
  refine r_cSi (pc := 25) C hfl k_X10_54 (c_isBetween _ _ _) rfl rfl (Nat.le_of_ble_eq_true rfl) (by decide) (by decide) dX10_interestAfter_25 ?_
  refine r_ifeqB (pc := 28) (tgt := 48) C dX10_interestAfter_28 rfl (fun c_28 => False.elim (by exact c_28 hd)) (fun c_28 => ?_)
  refine r_aload_n (pc := 31) C 1 dX10_interestAfter_31 rfl rfl ?_
  refine r_iload_n (pc := 32) C 0 dX10_interestAfter_32 rfl rfl ?_
  refine r_iconst (pc := 33) (v := 3) C dX10_interestAfter_33 rfl ?_
  refine r_cVi (pc := 34) C hfl k_X10_58 (c_is hm (by omega) (by omega)) hm.1 ca_X10 rfl rfl (Nat.le_of_ble_eq_true rfl) (by decide) (by decide) dX10_interestAfter_34 ?_
  refine r_iload_n (pc := 37) C 3 dX10_interestAfter_37 rfl rfl ?_
  refine r_aload_n (pc := 38) C 1 dX10_interestAfter_38 rfl rfl ?_
  refine r_iload_n (pc := 39) C 0 dX10_interestAfter_39 rfl rfl ?_
  refine r_cVi (pc := 40) C hfl k_X10_162 (c_interestPerDay hm (by omega)) hm.1 ca_X10 rfl rfl (Nat.le_of_ble_eq_true rfl) (by decide) (by decide) dX10_interestAfter_40 ?_
  refine r_imul (pc := 43) C dX10_interestAfter_43 ?_
  refine r_iadd (pc := 44) C dX10_interestAfter_44 ?_
  refine r_goto (pc := 45) (tgt := 53) C dX10_interestAfter_45 rfl ?_
  exact r_iret (pc := 53) C dX10_interestAfter_53 ⟨rfl, rfl, rfl, rfl⟩ (by decide)

set_option maxHeartbeats 1000000 in
theorem c_interestAfter__x {g : GG} {X : va_W} {T : TT} {I : II} {M : Nat} {w : Nat → Int32} (hm : isMd T M) {id d : Int32} {N : Nat} (hN : w 2 = nI N) (hN10 : N ≤ 10) {s : Nat} (hs : s < N) (hr : atS w N id (nI s)) (hd : ¬ okR 0 60 d) : Mc g yX10_interestAfter cX10_interestAfter 4 (some .int) 6 0 0 [.ref M, .int id, .int d] X T (sr I (M + 1) w) (Ex (some (.int (nI 0))) X T (sr (u2 I M 0 (nI 2)) (M + 1) w)) := by
  refine Mc.of (by decide) (Nat.le_of_ble_eq_true rfl) (fun k hfl C => ?_)
  refine r_lo (lo' := [(0, _), (1, _), (2, _)]) rfl ?_
  refine r_aload_n (pc := 0) C 0 dX10_interestAfter_0 rfl rfl ?_
  refine r_iconst (pc := 1) (v := 0) C dX10_interestAfter_1 rfl ?_
  refine r_wput (pc := 2) (by omega) C f_X10_1 hm.1 rfl rfl rfl dX10_interestAfter_2 ?_
  refine r_aload_n (pc := 5) C 0 dX10_interestAfter_5 rfl rfl ?_
  refine r_iload_n (pc := 6) C 1 dX10_interestAfter_6 rfl rfl ?_
  refine r_cVi (pc := 7) C hfl k_X10_121 (c_slotOf hm hN hN10 hr) hm.1 ca_X10 rfl rfl (Nat.le_of_ble_eq_true rfl) (by decide) (by decide) dX10_interestAfter_7 ?_
  refine r_istore_n (pc := 10) (lo' := [(3, _), (0, _), (1, _), (2, _)]) C dX10_interestAfter_10 rfl (by decide) rfl ?_
  refine r_iload_n (pc := 11) C 0 dX10_interestAfter_11 rfl rfl ?_
  refine r_ifgeN (pc := 12) (tgt := 21) C dX10_interestAfter_12 rfl (by omega) ?_
  refine r_iload_n (pc := 21) C 3 dX10_interestAfter_21 rfl rfl ?_
  refine r_iconst (pc := 22) (v := 0) C dX10_interestAfter_22 rfl ?_
  refine r_bipush (pc := 23) (v := 60) C dX10_interestAfter_23 rfl ?_
  refine r_cSi (pc := 25) C hfl k_X10_54 (c_isBetween _ _ _) rfl rfl (Nat.le_of_ble_eq_true rfl) (by decide) (by decide) dX10_interestAfter_25 ?_
  refine r_ifeqB (pc := 28) (tgt := 48) C dX10_interestAfter_28 rfl (fun c_28 => ?_) (fun c_28 => False.elim (by exact hd c_28))
  refine r_aload_n (pc := 48) C 1 dX10_interestAfter_48 rfl rfl ?_
  refine r_iconst (pc := 49) (v := 2) C dX10_interestAfter_49 rfl ?_
  refine r_cVi (pc := 50) C hfl k_X10_79 (c_fails hm ) hm.1 ca_X10 rfl rfl (Nat.le_of_ble_eq_true rfl) (by decide) (by decide) dX10_interestAfter_50 ?_
  exact r_iret (pc := 53) C dX10_interestAfter_53 ⟨rfl, rfl, rfl, by rw [u2_u2]⟩ (by decide)

set_option maxHeartbeats 1000000 in
theorem c_interestAfter__n {g : GG} {X : va_W} {T : TT} {I : II} {M : Nat} {w : Nat → Int32} (hm : isMd T M) {id d : Int32} {N : Nat} (hN : w 2 = nI N) (hN10 : N ≤ 10) (hr : atS w N id (-1)) : Mc g yX10_interestAfter cX10_interestAfter 4 (some .int) 6 0 0 [.ref M, .int id, .int d] X T (sr I (M + 1) w) (Ex (some (.int (nI 0))) X T (sr (u2 I M 0 (nI 1)) (M + 1) w)) := by
  refine Mc.of (by decide) (Nat.le_of_ble_eq_true rfl) (fun k hfl C => ?_)
  refine r_lo (lo' := [(0, _), (1, _), (2, _)]) rfl ?_
  refine r_aload_n (pc := 0) C 0 dX10_interestAfter_0 rfl rfl ?_
  refine r_iconst (pc := 1) (v := 0) C dX10_interestAfter_1 rfl ?_
  refine r_wput (pc := 2) (by omega) C f_X10_1 hm.1 rfl rfl rfl dX10_interestAfter_2 ?_
  refine r_aload_n (pc := 5) C 0 dX10_interestAfter_5 rfl rfl ?_
  refine r_iload_n (pc := 6) C 1 dX10_interestAfter_6 rfl rfl ?_
  refine r_cVi (pc := 7) C hfl k_X10_121 (c_slotOf hm hN hN10 hr) hm.1 ca_X10 rfl rfl (Nat.le_of_ble_eq_true rfl) (by decide) (by decide) dX10_interestAfter_7 ?_
  refine r_istore_n (pc := 10) (lo' := [(3, _), (0, _), (1, _), (2, _)]) C dX10_interestAfter_10 rfl (by decide) rfl ?_
  refine r_iload_n (pc := 11) C 0 dX10_interestAfter_11 rfl rfl ?_
  refine r_ifge (pc := 12) (tgt := 21) C dX10_interestAfter_12 rfl (fun c => absurd c (by decide)) (fun _ => ?_)
  refine r_aload_n (pc := 15) C 1 dX10_interestAfter_15 rfl rfl ?_
  refine r_iconst (pc := 16) (v := 1) C dX10_interestAfter_16 rfl ?_
  refine r_cVi (pc := 17) C hfl k_X10_79 (c_fails hm ) hm.1 ca_X10 rfl rfl (Nat.le_of_ble_eq_true rfl) (by decide) (by decide) dX10_interestAfter_17 ?_
  exact r_iret (pc := 20) C dX10_interestAfter_20 ⟨rfl, rfl, rfl, by rw [u2_u2]⟩ (by decide)

set_option maxHeartbeats 1000000 in
theorem c_daysLeft {g : GG} {X : va_W} {T : TT} {I : II} {M : Nat} {w : Nat → Int32} (hm : isMd T M) {s K : Nat} (hs : s < 15) (hK : dlOk w s K) : Mc g yX10_daysLeft cX10_daysLeft 3 (some .int) 3 0 0 [.ref M, .int (nI s)] X T (sr I (M + 1) w) (Ex (some (.int (nI K))) X T (sr I (M + 1) w)) := by
  refine Mc.of (by decide) (Nat.le_of_ble_eq_true rfl) (fun k hfl C => ?_)
  refine r_lo (lo' := [(0, _), (1, _)]) rfl ?_
  refine r_iconst (pc := 0) (v := 1) C dX10_daysLeft_0 rfl ?_
  refine r_istore_n (pc := 1) (lo' := [(2, _), (0, _), (1, _)]) C dX10_daysLeft_1 rfl (by decide) rfl ?_
  have loop_2 : ∀ (n_2 : Nat) (q : Nat), K - q < n_2 → (1 ≤ q) → (q ≤ K) → Go g k 3 (Qm g k (Ex (some (.int (nI K))) X T (sr I (M + 1) w)) 0 0) 0 0 2 [(0, .ref M), (1, .int (nI s)), (2, .int (nI q))] [] X T ((sr I (M + 1) w)) := by
    intro n_2
    induction n_2 with
    | zero => intro _ h_; exact absurd h_ (Nat.not_lt_zero _)
    | succ n_2 ih_2 =>
      intro q hq h1q hqK
      refine r_aload_n (pc := 2) C 0 dX10_daysLeft_2 rfl rfl ?_
      refine r_getR (pc := 3) (x := M + 1) C f_X10_13 hm.1 rfl rfl dX10_daysLeft_3 ?_
      refine r_iconst (pc := 6) (v := 0) C dX10_daysLeft_6 rfl ?_
      refine r_wld (pc := 7) (x := 0) C hm.2.1 rfl (by omega) (by decide) dX10_daysLeft_7 ?_
      refine r_iload_n (pc := 8) C 2 dX10_daysLeft_8 rfl rfl ?_
      refine r_iadd (pc := 9) C dX10_daysLeft_9 ?_
      refine r_aload_n (pc := 10) C 0 dX10_daysLeft_10 rfl rfl ?_
      refine r_iload_n (pc := 11) C 1 dX10_daysLeft_11 rfl rfl ?_
      refine r_iconst (pc := 12) (v := 5) C dX10_daysLeft_12 rfl ?_
      refine r_cVi (pc := 13) C hfl k_X10_58 (c_is hm (by omega) (by omega)) hm.1 ca_X10 rfl rfl (Nat.le_of_ble_eq_true rfl) (by decide) (by decide) dX10_daysLeft_13 ?_
      refine r_cgt (pc := 16) (tgt := 46) C dX10_daysLeft_16 rfl (fun c_16 => ?_) (fun c_16 => ?_)
      · skip
        refine r_iload_n (pc := 46) C 2 dX10_daysLeft_46 rfl rfl ?_
        exact r_iret (pc := 47) C dX10_daysLeft_47 ⟨congrArg (fun z => some (Value.int z)) (congrArg nI (by have h9 : ¬ q < K := fun z => ((hK.2.2 q h1q hqK).mpr z).1 c_16; omega)), rfl, rfl, rfl⟩ (by decide)
      · skip
        refine r_aload_n (pc := 19) C 0 dX10_daysLeft_19 rfl rfl ?_
        refine r_iload_n (pc := 20) C 1 dX10_daysLeft_20 rfl rfl ?_
        refine r_cVi (pc := 21) C hfl k_X10_62 (c_debtAt hm (by omega)) hm.1 ca_X10 rfl rfl (Nat.le_of_ble_eq_true rfl) (by decide) (by decide) dX10_daysLeft_21 ?_
        refine r_iload_n (pc := 24) C 2 dX10_daysLeft_24 rfl rfl ?_
        refine r_aload_n (pc := 25) C 0 dX10_daysLeft_25 rfl rfl ?_
        refine r_iload_n (pc := 26) C 1 dX10_daysLeft_26 rfl rfl ?_
        refine r_cVi (pc := 27) C hfl k_X10_162 (c_interestPerDay hm (by omega)) hm.1 ca_X10 rfl rfl (Nat.le_of_ble_eq_true rfl) (by decide) (by decide) dX10_daysLeft_27 ?_
        refine r_imul (pc := 30) C dX10_daysLeft_30 ?_
        refine r_iadd (pc := 31) C dX10_daysLeft_31 ?_
        refine r_aload_n (pc := 32) C 0 dX10_daysLeft_32 rfl rfl ?_
        refine r_iload_n (pc := 33) C 1 dX10_daysLeft_33 rfl rfl ?_
        refine r_cVi (pc := 34) C hfl k_X10_66 (c_valueAt hm (by omega)) hm.1 ca_X10 rfl rfl (Nat.le_of_ble_eq_true rfl) (by decide) (by decide) dX10_daysLeft_34 ?_
        refine r_cgt (pc := 37) (tgt := 46) C dX10_daysLeft_37 rfl (fun c_37 => ?_) (fun c_37 => ?_)
        · skip
          refine r_iload_n (pc := 46) C 2 dX10_daysLeft_46 rfl rfl ?_
          exact r_iret (pc := 47) C dX10_daysLeft_47 ⟨congrArg (fun z => some (Value.int z)) (congrArg nI (by have h9 : ¬ q < K := fun z => ((hK.2.2 q h1q hqK).mpr z).2 c_37; omega)), rfl, rfl, rfl⟩ (by decide)
        · skip
          refine r_iincN (pc := 40) (m := 1) (lo' := [(2, _), (0, _), (1, _)]) C 2 dX10_daysLeft_40 rfl rfl (by decide) rfl ?_
          refine r_goto (pc := 43) (tgt := 2) C dX10_daysLeft_43 rfl ?_
          refine r_ls [1, 2, 0] rfl ?_
          exact ih_2 (q + 1) (by have := (hK.2.2 q h1q hqK).mp ⟨c_16, c_37⟩; omega) (by omega) (by have := (hK.2.2 q h1q hqK).mp ⟨c_16, c_37⟩; omega)
  refine r_ls [1, 2, 0] rfl ?_
  exact loop_2 (K + 1) 1 (by have := hK.1; omega) (by omega) hK.1

set_option maxHeartbeats 1000000 in
theorem c_daysToDefault__s {g : GG} {X : va_W} {T : TT} {I : II} {M : Nat} {w : Nat → Int32} (hm : isMd T M) {id : Int32} {N : Nat} (hN : w 2 = nI N) (hN10 : N ≤ 10) {s : Nat} (hs : s < N) (hr : atS w N id (nI s)) {K : Nat} (hK : dlOk w s K) : Mc g yX10_daysToDefault cX10_daysToDefault 2 (some .int) 6 0 0 [.ref M, .int id] X T (sr I (M + 1) w) (Ex (some (.int (nI K))) X T (sr (u2 I M 0 (nI 0)) (M + 1) w)) := by
  refine Mc.of (by decide) (Nat.le_of_ble_eq_true rfl) (fun k hfl C => ?_)
  refine r_lo (lo' := [(0, _), (1, _)]) rfl ?_
  refine r_aload_n (pc := 0) C 0 dX10_daysToDefault_0 rfl rfl ?_
  refine r_iconst (pc := 1) (v := 0) C dX10_daysToDefault_1 rfl ?_
  refine r_wput (pc := 2) (by omega) C f_X10_1 hm.1 rfl rfl rfl dX10_daysToDefault_2 ?_
  refine r_aload_n (pc := 5) C 0 dX10_daysToDefault_5 rfl rfl ?_
  refine r_iload_n (pc := 6) C 1 dX10_daysToDefault_6 rfl rfl ?_
  refine r_cVi (pc := 7) C hfl k_X10_121 (c_slotOf hm hN hN10 hr) hm.1 ca_X10 rfl rfl (Nat.le_of_ble_eq_true rfl) (by decide) (by decide) dX10_daysToDefault_7 ?_
  refine r_ifgeN (pc := 10) (tgt := 21) C dX10_daysToDefault_10 rfl (by omega) ?_
  refine r_aload_n (pc := 21) C 0 dX10_daysToDefault_21 rfl rfl ?_
  refine r_aload_n (pc := 22) C 0 dX10_daysToDefault_22 rfl rfl ?_
  refine r_iload_n (pc := 23) C 1 dX10_daysToDefault_23 rfl rfl ?_
  refine r_cVi (pc := 24) C hfl k_X10_121 (c_slotOf hm hN hN10 hr) hm.1 ca_X10 rfl rfl (Nat.le_of_ble_eq_true rfl) (by decide) (by decide) dX10_daysToDefault_24 ?_
  refine r_cVi (pc := 27) C hfl k_X10_202 (c_daysLeft hm (by omega) hK) hm.1 ca_X10 rfl rfl (Nat.le_of_ble_eq_true rfl) (by decide) (by decide) dX10_daysToDefault_27 ?_
  exact r_iret (pc := 30) C dX10_daysToDefault_30 ⟨rfl, rfl, rfl, rfl⟩ (by decide)

set_option maxHeartbeats 1000000 in
theorem c_daysToDefault__n {g : GG} {X : va_W} {T : TT} {I : II} {M : Nat} {w : Nat → Int32} (hm : isMd T M) {id : Int32} {N : Nat} (hN : w 2 = nI N) (hN10 : N ≤ 10) (hr : atS w N id (-1)) : Mc g yX10_daysToDefault cX10_daysToDefault 2 (some .int) 6 0 0 [.ref M, .int id] X T (sr I (M + 1) w) (Ex (some (.int (nI 0))) X T (sr (u2 I M 0 (nI 1)) (M + 1) w)) := by
  refine Mc.of (by decide) (Nat.le_of_ble_eq_true rfl) (fun k hfl C => ?_)
  refine r_lo (lo' := [(0, _), (1, _)]) rfl ?_
  refine r_aload_n (pc := 0) C 0 dX10_daysToDefault_0 rfl rfl ?_
  refine r_iconst (pc := 1) (v := 0) C dX10_daysToDefault_1 rfl ?_
  refine r_wput (pc := 2) (by omega) C f_X10_1 hm.1 rfl rfl rfl dX10_daysToDefault_2 ?_
  refine r_aload_n (pc := 5) C 0 dX10_daysToDefault_5 rfl rfl ?_
  refine r_iload_n (pc := 6) C 1 dX10_daysToDefault_6 rfl rfl ?_
  refine r_cVi (pc := 7) C hfl k_X10_121 (c_slotOf hm hN hN10 hr) hm.1 ca_X10 rfl rfl (Nat.le_of_ble_eq_true rfl) (by decide) (by decide) dX10_daysToDefault_7 ?_
  refine r_ifge (pc := 10) (tgt := 21) C dX10_daysToDefault_10 rfl (fun c => absurd c (by decide)) (fun _ => ?_)
  refine r_aload_n (pc := 13) C 0 dX10_daysToDefault_13 rfl rfl ?_
  refine r_iconst (pc := 14) (v := 1) C dX10_daysToDefault_14 rfl ?_
  refine r_cVi (pc := 15) C hfl k_X10_79 (c_fails hm ) hm.1 ca_X10 rfl rfl (Nat.le_of_ble_eq_true rfl) (by decide) (by decide) dX10_daysToDefault_15 ?_
  refine r_goto (pc := 18) (tgt := 30) C dX10_daysToDefault_18 rfl ?_
  exact r_iret (pc := 30) C dX10_daysToDefault_30 ⟨rfl, rfl, rfl, by rw [u2_u2]⟩ (by decide)

set_option maxHeartbeats 1000000 in
theorem c_daysToDefaultByDays__s {g : GG} {X : va_W} {T : TT} {I : II} {M : Nat} {w : Nat → Int32} (hm : isMd T M) {id : Int32} {N : Nat} (hN : w 2 = nI N) (hN10 : N ≤ 10) {s : Nat} (hs : s < N) (hr : atS w N id (nI s)) {K : Nat} (hK : dlOk w s K) : Mc g yX10_daysToDefaultByDays cX10_daysToDefaultByDays 2 (some .int) 7 0 0 [.ref M, .int id] X T (sr I (M + 1) w) (Ex (some (.int (nI K))) X T (sr (u2 I M 0 (nI 0)) (M + 1) w)) := by
  refine Mc.of (by decide) (Nat.le_of_ble_eq_true rfl) (fun k hfl C => ?_)
  refine r_lo (lo' := [(0, _), (1, _)]) rfl ?_
  refine r_aload_n (pc := 0) C 0 dX10_daysToDefaultByDays_0 rfl rfl ?_
  refine r_iload_n (pc := 1) C 1 dX10_daysToDefaultByDays_1 rfl rfl ?_
  refine r_cVi (pc := 2) C hfl k_X10_205 (c_daysToDefault__s hm hN hN10 hs hr hK) hm.1 ca_X10 rfl rfl (Nat.le_of_ble_eq_true rfl) (by decide) (by decide) dX10_daysToDefaultByDays_2 ?_
  exact r_iret (pc := 5) C dX10_daysToDefaultByDays_5 ⟨rfl, rfl, rfl, rfl⟩ (by decide)

set_option maxHeartbeats 1000000 in
theorem c_daysToDefaultByDays__n {g : GG} {X : va_W} {T : TT} {I : II} {M : Nat} {w : Nat → Int32} (hm : isMd T M) {id : Int32} {N : Nat} (hN : w 2 = nI N) (hN10 : N ≤ 10) (hr : atS w N id (-1)) : Mc g yX10_daysToDefaultByDays cX10_daysToDefaultByDays 2 (some .int) 7 0 0 [.ref M, .int id] X T (sr I (M + 1) w) (Ex (some (.int (nI 0))) X T (sr (u2 I M 0 (nI 1)) (M + 1) w)) := by
  refine Mc.of (by decide) (Nat.le_of_ble_eq_true rfl) (fun k hfl C => ?_)
  refine r_lo (lo' := [(0, _), (1, _)]) rfl ?_
  refine r_aload_n (pc := 0) C 0 dX10_daysToDefaultByDays_0 rfl rfl ?_
  refine r_iload_n (pc := 1) C 1 dX10_daysToDefaultByDays_1 rfl rfl ?_
  refine r_cVi (pc := 2) C hfl k_X10_205 (c_daysToDefault__n hm hN hN10 hr) hm.1 ca_X10 rfl rfl (Nat.le_of_ble_eq_true rfl) (by decide) (by decide) dX10_daysToDefaultByDays_2 ?_
  exact r_iret (pc := 5) C dX10_daysToDefaultByDays_5 ⟨rfl, rfl, rfl, rfl⟩ (by decide)

set_option maxHeartbeats 1000000 in
theorem c_missingUnits__s {g : GG} {X : va_W} {T : TT} {I : II} {M : Nat} {w : Nat → Int32} (hm : isMd T M) {id : Int32} {N : Nat} (hN : w 2 = nI N) (hN10 : N ≤ 10) {s : Nat} (hs : s < N) (hr : atS w N id (nI s)) {m K : Nat} (hm4 : m < 4) (hK : muOk w s m K) : Mc g yX10_missingUnits cX10_missingUnits 5 (some .int) 6 0 0 [.ref M, .int id, .int (nI m)] X T (sr I (M + 1) w) (Ex (some (.int (nI K))) X T (sr (u2 I M 0 (nI 0)) (M + 1) w)) := by
  refine Mc.of (by decide) (Nat.le_of_ble_eq_true rfl) (fun k hfl C => ?_)
  refine r_lo (lo' := [(0, _), (1, _), (2, _)]) rfl ?_
  refine r_aload_n (pc := 0) C 0 dX10_missingUnits_0 rfl rfl ?_
  refine r_iconst (pc := 1) (v := 0) C dX10_missingUnits_1 rfl ?_
  refine r_wput (pc := 2) (by omega) C f_X10_1 hm.1 rfl rfl rfl dX10_missingUnits_2 ?_
  refine r_aload_n (pc := 5) C 0 dX10_missingUnits_5 rfl rfl ?_
  refine r_iload_n (pc := 6) C 1 dX10_missingUnits_6 rfl rfl ?_
  refine r_cVi (pc := 7) C hfl k_X10_121 (c_slotOf hm hN hN10 hr) hm.1 ca_X10 rfl rfl (Nat.le_of_ble_eq_true rfl) (by decide) (by decide) dX10_missingUnits_7 ?_
  refine r_istore_n (pc := 10) (lo' := [(3, _), (0, _), (1, _), (2, _)]) C dX10_missingUnits_10 rfl (by decide) rfl ?_
  refine r_iload_n (pc := 11) C 0 dX10_missingUnits_11 rfl rfl ?_
  refine r_ifgeN (pc := 12) (tgt := 21) C dX10_missingUnits_12 rfl (by omega) ?_
  refine r_iload_n (pc := 21) C 3 dX10_missingUnits_21 rfl rfl ?_
  refine r_cSi (pc := 22) C hfl k_X10_92 (c_isKind _) rfl rfl (Nat.le_of_ble_eq_true rfl) (by decide) (by decide) dX10_missingUnits_22 ?_
  refine r_ifneB (pc := 25) (tgt := 34) C dX10_missingUnits_25 rfl (fun c_25 => ?_) (fun c_25 => False.elim (by exact c_25 (okK_nI hm4)))
  refine r_iconst (pc := 34) (v := 0) C dX10_missingUnits_34 rfl ?_
  refine r_istore (pc := 35) (lo' := [(4, _), (3, _), (0, _), (1, _), (2, _)]) C dX10_missingUnits_35 (by decide) rfl ?_
  have loop_37 : ∀ (n_37 : Nat) (q : Nat), K - q < n_37 → (q ≤ K) → Go g k 5 (Qm g k (Ex (some (.int (nI K))) X T (sr (u2 I M 0 (nI 0)) (M + 1) w)) 0 0) 0 0 37 [(0, .ref M), (1, .int id), (2, .int (nI m)), (3, .int (nI s)), (4, .int (nI q))] [] X T ((sr (u2 I M 0 (nI 0)) (M + 1) w)) := by
    intro n_37
    induction n_37 with
    | zero => intro _ h_; exact absurd h_ (Nat.not_lt_zero _)
    | succ n_37 ih_37 =>
      intro q hq hqK
      refine r_iconst (pc := 37) (v := 3) C dX10_missingUnits_37 rfl ?_
      refine r_aload_n (pc := 38) C 0 dX10_missingUnits_38 rfl rfl ?_
      refine r_iload_n (pc := 39) C 3 dX10_missingUnits_39 rfl rfl ?_
      refine r_cVi (pc := 40) C hfl k_X10_62 (c_debtAt hm (by omega)) hm.1 ca_X10 rfl rfl (Nat.le_of_ble_eq_true rfl) (by decide) (by decide) dX10_missingUnits_40 ?_
      refine r_imul (pc := 43) C dX10_missingUnits_43 ?_
      refine r_iconst (pc := 44) (v := 2) C dX10_missingUnits_44 rfl ?_
      refine r_aload_n (pc := 45) C 0 dX10_missingUnits_45 rfl rfl ?_
      refine r_iload_n (pc := 46) C 3 dX10_missingUnits_46 rfl rfl ?_
      refine r_cVi (pc := 47) C hfl k_X10_66 (c_valueAt hm (by omega)) hm.1 ca_X10 rfl rfl (Nat.le_of_ble_eq_true rfl) (by decide) (by decide) dX10_missingUnits_47 ?_
      refine r_iload (pc := 50) C 4 dX10_missingUnits_50 rfl ?_
      refine r_aload_n (pc := 52) C 0 dX10_missingUnits_52 rfl rfl ?_
      refine r_getR (pc := 53) (x := M + 1) C f_X10_13 hm.1 rfl rfl dX10_missingUnits_53 ?_
      refine r_bipush (pc := 56) (v := 10) C dX10_missingUnits_56 rfl ?_
      refine r_iload_n (pc := 58) C 2 dX10_missingUnits_58 rfl rfl ?_
      refine r_iaddN (pc := 59) C dX10_missingUnits_59 ?_
      refine r_wld (pc := 60) (x := 10 + m) C hm.2.1 rfl (by omega) (by decide) dX10_missingUnits_60 ?_
      refine r_imul (pc := 61) C dX10_missingUnits_61 ?_
      refine r_iadd (pc := 62) C dX10_missingUnits_62 ?_
      refine r_imul (pc := 63) C dX10_missingUnits_63 ?_
      refine r_cle (pc := 64) (tgt := 73) C dX10_missingUnits_64 rfl (fun c_64 => ?_) (fun c_64 => ?_)
      · skip
        replace c_64 := Int32.not_lt.mpr c_64
        refine r_iload (pc := 73) C 4 dX10_missingUnits_73 rfl ?_
        exact r_iret (pc := 75) C dX10_missingUnits_75 ⟨congrArg (fun z => some (Value.int z)) (congrArg nI (by have h9 : ¬ q < K := fun z => c_64 ((hK.2 q hqK).mpr z); omega)), rfl, rfl, rfl⟩ (by decide)
      · skip
        replace c_64 := Int32.not_le.mp c_64
        refine r_iincN (pc := 67) (m := 1) (lo' := [(4, _), (0, _), (1, _), (2, _), (3, _)]) C 4 dX10_missingUnits_67 rfl rfl (by decide) rfl ?_
        refine r_goto (pc := 70) (tgt := 37) C dX10_missingUnits_70 rfl ?_
        refine r_ls [1, 2, 3, 4, 0] rfl ?_
        exact ih_37 (q + 1) (by have := (hK.2 q hqK).mp c_64; omega) (by have := (hK.2 q hqK).mp c_64; omega)
  refine r_ls [2, 3, 4, 1, 0] rfl ?_
  exact loop_37 (K + 1) 0 (by have := hK.1; omega) (by omega)

set_option maxHeartbeats 1000000 in
theorem c_missingUnits__x {g : GG} {X : va_W} {T : TT} {I : II} {M : Nat} {w : Nat → Int32} (hm : isMd T M) {id k_ : Int32} {N : Nat} (hN : w 2 = nI N) (hN10 : N ≤ 10) {s : Nat} (hs : s < N) (hr : atS w N id (nI s)) (hk : ¬ okK k_) : Mc g yX10_missingUnits cX10_missingUnits 5 (some .int) 6 0 0 [.ref M, .int id, .int k_] X T (sr I (M + 1) w) (Ex (some (.int (nI 0))) X T (sr (u2 I M 0 (nI 2)) (M + 1) w)) := by
  refine Mc.of (by decide) (Nat.le_of_ble_eq_true rfl) (fun k hfl C => ?_)
  refine r_lo (lo' := [(0, _), (1, _), (2, _)]) rfl ?_
  refine r_aload_n (pc := 0) C 0 dX10_missingUnits_0 rfl rfl ?_
  refine r_iconst (pc := 1) (v := 0) C dX10_missingUnits_1 rfl ?_
  refine r_wput (pc := 2) (by omega) C f_X10_1 hm.1 rfl rfl rfl dX10_missingUnits_2 ?_
  refine r_aload_n (pc := 5) C 0 dX10_missingUnits_5 rfl rfl ?_
  refine r_iload_n (pc := 6) C 1 dX10_missingUnits_6 rfl rfl ?_
  refine r_cVi (pc := 7) C hfl k_X10_121 (c_slotOf hm hN hN10 hr) hm.1 ca_X10 rfl rfl (Nat.le_of_ble_eq_true rfl) (by decide) (by decide) dX10_missingUnits_7 ?_
  refine r_istore_n (pc := 10) (lo' := [(3, _), (0, _), (1, _), (2, _)]) C dX10_missingUnits_10 rfl (by decide) rfl ?_
  refine r_iload_n (pc := 11) C 0 dX10_missingUnits_11 rfl rfl ?_
  refine r_ifgeN (pc := 12) (tgt := 21) C dX10_missingUnits_12 rfl (by omega) ?_
  refine r_iload_n (pc := 21) C 3 dX10_missingUnits_21 rfl rfl ?_
  refine r_cSi (pc := 22) C hfl k_X10_92 (c_isKind _) rfl rfl (Nat.le_of_ble_eq_true rfl) (by decide) (by decide) dX10_missingUnits_22 ?_
  refine r_ifneB (pc := 25) (tgt := 34) C dX10_missingUnits_25 rfl (fun c_25 => False.elim (by exact hk c_25)) (fun c_25 => ?_)
  refine r_aload_n (pc := 28) C 1 dX10_missingUnits_28 rfl rfl ?_
  refine r_iconst (pc := 29) (v := 2) C dX10_missingUnits_29 rfl ?_
  refine r_cVi (pc := 30) C hfl k_X10_79 (c_fails hm ) hm.1 ca_X10 rfl rfl (Nat.le_of_ble_eq_true rfl) (by decide) (by decide) dX10_missingUnits_30 ?_
  exact r_iret (pc := 33) C dX10_missingUnits_33 ⟨rfl, rfl, rfl, by rw [u2_u2]⟩ (by decide)

set_option maxHeartbeats 1000000 in
theorem c_missingUnits__n {g : GG} {X : va_W} {T : TT} {I : II} {M : Nat} {w : Nat → Int32} (hm : isMd T M) {id k_ : Int32} {N : Nat} (hN : w 2 = nI N) (hN10 : N ≤ 10) (hr : atS w N id (-1)) : Mc g yX10_missingUnits cX10_missingUnits 5 (some .int) 6 0 0 [.ref M, .int id, .int k_] X T (sr I (M + 1) w) (Ex (some (.int (nI 0))) X T (sr (u2 I M 0 (nI 1)) (M + 1) w)) := by
  refine Mc.of (by decide) (Nat.le_of_ble_eq_true rfl) (fun k hfl C => ?_)
  refine r_lo (lo' := [(0, _), (1, _), (2, _)]) rfl ?_
  refine r_aload_n (pc := 0) C 0 dX10_missingUnits_0 rfl rfl ?_
  refine r_iconst (pc := 1) (v := 0) C dX10_missingUnits_1 rfl ?_
  refine r_wput (pc := 2) (by omega) C f_X10_1 hm.1 rfl rfl rfl dX10_missingUnits_2 ?_
  refine r_aload_n (pc := 5) C 0 dX10_missingUnits_5 rfl rfl ?_
  refine r_iload_n (pc := 6) C 1 dX10_missingUnits_6 rfl rfl ?_
  refine r_cVi (pc := 7) C hfl k_X10_121 (c_slotOf hm hN hN10 hr) hm.1 ca_X10 rfl rfl (Nat.le_of_ble_eq_true rfl) (by decide) (by decide) dX10_missingUnits_7 ?_
  refine r_istore_n (pc := 10) (lo' := [(3, _), (0, _), (1, _), (2, _)]) C dX10_missingUnits_10 rfl (by decide) rfl ?_
  refine r_iload_n (pc := 11) C 0 dX10_missingUnits_11 rfl rfl ?_
  refine r_ifge (pc := 12) (tgt := 21) C dX10_missingUnits_12 rfl (fun c => absurd c (by decide)) (fun _ => ?_)
  refine r_aload_n (pc := 15) C 1 dX10_missingUnits_15 rfl rfl ?_
  refine r_iconst (pc := 16) (v := 1) C dX10_missingUnits_16 rfl ?_
  refine r_cVi (pc := 17) C hfl k_X10_79 (c_fails hm ) hm.1 ca_X10 rfl rfl (Nat.le_of_ble_eq_true rfl) (by decide) (by decide) dX10_missingUnits_17 ?_
  exact r_iret (pc := 20) C dX10_missingUnits_20 ⟨rfl, rfl, rfl, by rw [u2_u2]⟩ (by decide)
