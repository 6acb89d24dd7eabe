set_option maxHeartbeats 1000000 in
theorem c_ledgerAmount__s {g : GG} {X : va_W} {T : TT} {I : II} {M : Nat} {w : Nat → Int32} (hm : isMd T M) {E : Nat} (hE : w 5 = nI E) (hE20 : E ≤ 20) {s : Nat} (hs : s < E) {dy id : Int32} (hr : atE w E dy id (nI s)) : Mc g yX10_ledgerAmount cX10_ledgerAmount 4 (some .int) 6 0 0 [.ref M, .int dy, .int id] X T (sr I (M + 1) w) (Ex (some (.int (w (158 + 3 * s + 2)))) X T (sr (u2 I M 0 (nI 0)) (M + 1) w)) := by
  refine Mc.of (by decide) (Nat.le_of_ble_eq_true rfl) (fun k hfl C => ?_)
  refine r_lo (lo' := [(0, _), (1, _), (2, _)]) rfl ?_
  refine r_aload_n (pc := 0) C 0 dX10_ledgerAmount_0 rfl rfl ?_
  refine r_iconst (pc := 1) (v := 0) C dX10_ledgerAmount_1 rfl ?_
  refine r_wput (pc := 2) (by omega) C f_X10_1 hm.1 rfl rfl rfl dX10_ledgerAmount_2 ?_
  refine r_aload_n (pc := 5) C 0 dX10_ledgerAmount_5 rfl rfl ?_
  refine r_iload_n (pc := 6) C 1 dX10_ledgerAmount_6 rfl rfl ?_
  refine r_iload_n (pc := 7) C 2 dX10_ledgerAmount_7 rfl rfl ?_
  refine r_cVi (pc := 8) C hfl k_X10_136 (c_entryFor hm hE hE20 hr) hm.1 ca_X10 rfl rfl (Nat.le_of_ble_eq_true rfl) (by decide) (by decide) dX10_ledgerAmount_8 ?_
  refine r_istore_n (pc := 11) (lo' := [(3, _), (0, _), (1, _), (2, _)]) C dX10_ledgerAmount_11 rfl (by decide) rfl ?_
  refine r_iload_n (pc := 12) C 0 dX10_ledgerAmount_12 rfl rfl ?_
  refine r_ifgeN (pc := 13) (tgt := 24) C dX10_ledgerAmount_13 rfl (by omega) ?_
  refine r_aload_n (pc := 24) C 1 dX10_ledgerAmount_24 rfl rfl ?_
  refine r_iload_n (pc := 25) C 0 dX10_ledgerAmount_25 rfl rfl ?_
  refine r_iconst (pc := 26) (v := 2) C dX10_ledgerAmount_26 rfl ?_
  refine r_cVi (pc := 27) C hfl k_X10_133 (c_entry hm (by omega) (by omega)) hm.1 ca_X10 rfl rfl (Nat.le_of_ble_eq_true rfl) (by decide) (by decide) dX10_ledgerAmount_27 ?_
  exact r_iret (pc := 30) C dX10_ledgerAmount_30 ⟨rfl, rfl, rfl, rfl⟩ (by decide)

set_option maxHeartbeats 1000000 in
theorem c_ledgerAmount__n {g : GG} {X : va_W} {T : TT} {I : II} {M : Nat} {w : Nat → Int32} (hm : isMd T M) {E : Nat} (hE : w 5 = nI E) (hE20 : E ≤ 20) {dy id : Int32} (hr : atE w E dy id (-1)) : Mc g yX10_ledgerAmount cX10_ledgerAmount 4 (some .int) 6 0 0 [.ref M, .int dy, .int id] X T (sr I (M + 1) w) (Ex (some (.int (nI 0))) X T (sr (u2 I M 0 (nI 1)) (M + 1) w)) := by
  refine Mc.of (by decide) (Nat.le_of_ble_eq_true rfl) (fun k hfl C => ?_)
  refine r_lo (lo' := [(0, _), (1, _), (2, _)]) rfl ?_
  refine r_aload_n (pc := 0) C 0 dX10_ledgerAmount_0 rfl rfl ?_
  refine r_iconst (pc := 1) (v := 0) C dX10_ledgerAmount_1 rfl ?_
  refine r_wput (pc := 2) (by omega) C f_X10_1 hm.1 rfl rfl rfl dX10_ledgerAmount_2 ?_
  refine r_aload_n (pc := 5) C 0 dX10_ledgerAmount_5 rfl rfl ?_
  refine r_iload_n (pc := 6) C 1 dX10_ledgerAmount_6 rfl rfl ?_
  refine r_iload_n (pc := 7) C 2 dX10_ledgerAmount_7 rfl rfl ?_
  refine r_cVi (pc := 8) C hfl k_X10_136 (c_entryFor hm hE hE20 hr) hm.1 ca_X10 rfl rfl (Nat.le_of_ble_eq_true rfl) (by decide) (by decide) dX10_ledgerAmount_8 ?_
  refine r_istore_n (pc := 11) (lo' := [(3, _), (0, _), (1, _), (2, _)]) C dX10_ledgerAmount_11 rfl (by decide) rfl ?_
  refine r_iload_n (pc := 12) C 0 dX10_ledgerAmount_12 rfl rfl ?_
  refine r_ifge (pc := 13) (tgt := 24) C dX10_ledgerAmount_13 rfl (fun c => absurd c (by decide)) (fun _ => ?_)
  refine r_aload_n (pc := 16) C 1 dX10_ledgerAmount_16 rfl rfl ?_
  refine r_iconst (pc := 17) (v := 1) C dX10_ledgerAmount_17 rfl ?_
  refine r_cVi (pc := 18) C hfl k_X10_79 (c_fails hm ) hm.1 ca_X10 rfl rfl (Nat.le_of_ble_eq_true rfl) (by decide) (by decide) dX10_ledgerAmount_18 ?_
  refine r_goto (pc := 21) (tgt := 30) C dX10_ledgerAmount_21 rfl ?_
  exact r_iret (pc := 30) C dX10_ledgerAmount_30 ⟨rfl, rfl, rfl, by rw [u2_u2]⟩ (by decide)

set_option maxHeartbeats 1000000 in
theorem c_asksEntry__v {g : GG} {X : va_W} {T : TT} {I : II} {M : Nat} {w : Nat → Int32} (hm : isMd T M) {E : Nat} (hE : w 5 = nI E) (hE20 : E ≤ 20) {q j : Nat} (hq : q < E) (hj : j < 3) : Mc g yX10_asksEntry cX10_asksEntry 3 (some .int) 6 0 0 [.ref M, .int (nI q), .int (nI j)] X T (sr I (M + 1) w) (Ex (some (.int (w (158 + 3 * q + j)))) X T (sr (u2 I M 0 (nI 0)) (M + 1) w)) := by
  refine Mc.of (by decide) (Nat.le_of_ble_eq_true rfl) (fun k hfl C => ?_)
  refine r_lo (lo' := [(0, _), (1, _), (2, _)]) rfl ?_
  refine r_aload_n (pc := 0) C 0 dX10_asksEntry_0 rfl rfl ?_
  refine r_iconst (pc := 1) (v := 0) C dX10_asksEntry_1 rfl ?_
  refine r_wput (pc := 2) (by omega) C f_X10_1 hm.1 rfl rfl rfl dX10_asksEntry_2 ?_
  refine r_iload_n (pc := 5) C 1 dX10_asksEntry_5 rfl rfl ?_
  refine r_iconst (pc := 6) (v := 0) C dX10_asksEntry_6 rfl ?_
  refine r_aload_n (pc := 7) C 0 dX10_asksEntry_7 rfl rfl ?_
  refine r_getR (pc := 8) (x := M + 1) C f_X10_13 hm.1 rfl rfl dX10_asksEntry_8 ?_
  refine r_iconst (pc := 11) (v := 5) C dX10_asksEntry_11 rfl ?_
  refine r_wld (pc := 12) (x := 5) C hm.2.1 rfl (by omega) (by decide) dX10_asksEntry_12 ?_
  refine r_t (y := nI E) hE ?_
  refine r_iconst (pc := 13) (v := 1) C dX10_asksEntry_13 rfl ?_
  refine r_isub (pc := 14) C dX10_asksEntry_14 ?_
  refine r_cSi (pc := 15) C hfl k_X10_54 (c_isBetween _ _ _) rfl rfl (Nat.le_of_ble_eq_true rfl) (by decide) (by decide) dX10_asksEntry_15 ?_
  refine r_ifeqB (pc := 18) (tgt := 30) C dX10_asksEntry_18 rfl (fun c_18 => False.elim (by exact c_18 (okN_nI (by omega) hq))) (fun c_18 => ?_)
  refine r_aload_n (pc := 21) C 0 dX10_asksEntry_21 rfl rfl ?_
  refine r_iload_n (pc := 22) C 1 dX10_asksEntry_22 rfl rfl ?_
  refine r_iload_n (pc := 23) C 2 dX10_asksEntry_23 rfl rfl ?_
  refine r_cVi (pc := 24) C hfl k_X10_133 (c_entry hm (by omega) (by omega)) hm.1 ca_X10 rfl rfl (Nat.le_of_ble_eq_true rfl) (by decide) (by decide) dX10_asksEntry_24 ?_
  refine r_goto (pc := 27) (tgt := 35) C dX10_asksEntry_27 rfl ?_
  exact r_iret (pc := 35) C dX10_asksEntry_35 ⟨rfl, rfl, rfl, rfl⟩ (by decide)

set_option maxHeartbeats 1000000 in
theorem c_asksEntry__x {g : GG} {X : va_W} {T : TT} {I : II} {M : Nat} {w : Nat → Int32} (hm : isMd T M) {x : Int32} {j : Nat} {E : Nat} (hE : w 5 = nI E) (hE20 : E ≤ 20) (hx : ¬ okN E x) : Mc g yX10_asksEntry cX10_asksEntry 3 (some .int) 6 0 0 [.ref M, .int x, .int (nI j)] X T (sr I (M + 1) w) (Ex (some (.int (nI 0))) X T (sr (u2 I M 0 (nI 1)) (M + 1) w)) := by
  refine Mc.of (by decide) (Nat.le_of_ble_eq_true rfl) (fun k hfl C => ?_)
  refine r_lo (lo' := [(0, _), (1, _), (2, _)]) rfl ?_
  refine r_aload_n (pc := 0) C 0 dX10_asksEntry_0 rfl rfl ?_
  refine r_iconst (pc := 1) (v := 0) C dX10_asksEntry_1 rfl ?_
  refine r_wput (pc := 2) (by omega) C f_X10_1 hm.1 rfl rfl rfl dX10_asksEntry_2 ?_
  refine r_iload_n (pc := 5) C 1 dX10_asksEntry_5 rfl rfl ?_
  refine r_iconst (pc := 6) (v := 0) C dX10_asksEntry_6 rfl ?_
  refine r_aload_n (pc := 7) C 0 dX10_asksEntry_7 rfl rfl ?_
  refine r_getR (pc := 8) (x := M + 1) C f_X10_13 hm.1 rfl rfl dX10_asksEntry_8 ?_
  refine r_iconst (pc := 11) (v := 5) C dX10_asksEntry_11 rfl ?_
  refine r_wld (pc := 12) (x := 5) C hm.2.1 rfl (by omega) (by decide) dX10_asksEntry_12 ?_
  refine r_t (y := nI E) hE ?_
  refine r_iconst (pc := 13) (v := 1) C dX10_asksEntry_13 rfl ?_
  refine r_isub (pc := 14) C dX10_asksEntry_14 ?_
  refine r_cSi (pc := 15) C hfl k_X10_54 (c_isBetween _ _ _) rfl rfl (Nat.le_of_ble_eq_true rfl) (by decide) (by decide) dX10_asksEntry_15 ?_
  refine r_ifeqB (pc := 18) (tgt := 30) C dX10_asksEntry_18 rfl (fun c_18 => ?_) (fun c_18 => False.elim (by exact hx c_18))
  refine r_aload_n (pc := 30) C 0 dX10_asksEntry_30 rfl rfl ?_
  refine r_iconst (pc := 31) (v := 1) C dX10_asksEntry_31 rfl ?_
  refine r_cVi (pc := 32) C hfl k_X10_79 (c_fails hm ) hm.1 ca_X10 rfl rfl (Nat.le_of_ble_eq_true rfl) (by decide) (by decide) dX10_asksEntry_32 ?_
  exact r_iret (pc := 35) C dX10_asksEntry_35 ⟨rfl, rfl, rfl, by rw [u2_u2]⟩ (by decide)

set_option maxHeartbeats 1000000 in
theorem c_ledgerDay__v {g : GG} {X : va_W} {T : TT} {I : II} {M : Nat} {w : Nat → Int32} (hm : isMd T M) {E : Nat} (hE : w 5 = nI E) (hE20 : E ≤ 20) {q : Nat} (hq : q < E) : Mc g yX10_ledgerDay cX10_ledgerDay 2 (some .int) 7 0 0 [.ref M, .int (nI q)] X T (sr I (M + 1) w) (Ex (some (.int (w (158 + 3 * q + 0)))) X T (sr (u2 I M 0 (nI 0)) (M + 1) w)) := by
  refine Mc.of (by decide) (Nat.le_of_ble_eq_true rfl) (fun k hfl C => ?_)
  refine r_lo (lo' := [(0, _), (1, _)]) rfl ?_
  refine r_aload_n (pc := 0) C 0 dX10_ledgerDay_0 rfl rfl ?_
  refine r_iload_n (pc := 1) C 1 dX10_ledgerDay_1 rfl rfl ?_
  refine r_iconst (pc := 2) (v := 0) C dX10_ledgerDay_2 rfl ?_
  refine r_cVi (pc := 3) C hfl k_X10_212 (c_asksEntry__v hm hE hE20 hq (by omega)) hm.1 ca_X10 rfl rfl (Nat.le_of_ble_eq_true rfl) (by decide) (by decide) dX10_ledgerDay_3 ?_
  exact r_iret (pc := 6) C dX10_ledgerDay_6 ⟨rfl, rfl, rfl, rfl⟩ (by decide)

set_option maxHeartbeats 1000000 in
theorem c_ledgerDay__x {g : GG} {X : va_W} {T : TT} {I : II} {M : Nat} {w : Nat → Int32} (hm : isMd T M) {x : Int32} {E : Nat} (hE : w 5 = nI E) (hE20 : E ≤ 20) (hx : ¬ okN E x) : Mc g yX10_ledgerDay cX10_ledgerDay 2 (some .int) 7 0 0 [.ref M, .int x] X T (sr I (M + 1) w) (Ex (some (.int (nI 0))) X T (sr (u2 I M 0 (nI 1)) (M + 1) w)) := by
  refine Mc.of (by decide) (Nat.le_of_ble_eq_true rfl) (fun k hfl C => ?_)
  refine r_lo (lo' := [(0, _), (1, _)]) rfl ?_
  refine r_aload_n (pc := 0) C 0 dX10_ledgerDay_0 rfl rfl ?_
  refine r_iload_n (pc := 1) C 1 dX10_ledgerDay_1 rfl rfl ?_
  refine r_iconst (pc := 2) (v := 0) C dX10_ledgerDay_2 rfl ?_
  refine r_cVi (pc := 3) C hfl k_X10_212 (c_asksEntry__x hm hE hE20 hx) hm.1 ca_X10 rfl rfl (Nat.le_of_ble_eq_true rfl) (by decide) (by decide) dX10_ledgerDay_3 ?_
  exact r_iret (pc := 6) C dX10_ledgerDay_6 ⟨rfl, rfl, rfl, rfl⟩ (by decide)

set_option maxHeartbeats 1000000 in
theorem c_ledgerLoan__v {g : GG} {X : va_W} {T : TT} {I : II} {M : Nat} {w : Nat → Int32} (hm : isMd T M) {E : Nat} (hE : w 5 = nI E) (hE20 : E ≤ 20) {q : Nat} (hq : q < E) : Mc g yX10_ledgerLoan cX10_ledgerLoan 2 (some .int) 7 0 0 [.ref M, .int (nI q)] X T (sr I (M + 1) w) (Ex (some (.int (w (158 + 3 * q + 1)))) X T (sr (u2 I M 0 (nI 0)) (M + 1) w)) := by
  refine Mc.of (by decide) (Nat.le_of_ble_eq_true rfl) (fun k hfl C => ?_)
  refine r_lo (lo' := [(0, _), (1, _)]) rfl ?_
  refine r_aload_n (pc := 0) C 0 dX10_ledgerLoan_0 rfl rfl ?_
  refine r_iload_n (pc := 1) C 1 dX10_ledgerLoan_1 rfl rfl ?_
  refine r_iconst (pc := 2) (v := 1) C dX10_ledgerLoan_2 rfl ?_
  refine r_cVi (pc := 3) C hfl k_X10_212 (c_asksEntry__v hm hE hE20 hq (by omega)) hm.1 ca_X10 rfl rfl (Nat.le_of_ble_eq_true rfl) (by decide) (by decide) dX10_ledgerLoan_3 ?_
  exact r_iret (pc := 6) C dX10_ledgerLoan_6 ⟨rfl, rfl, rfl, rfl⟩ (by decide)

set_option maxHeartbeats 1000000 in
theorem c_ledgerLoan__x {g : GG} {X : va_W} {T : TT} {I : II} {M : Nat} {w : Nat → Int32} (hm : isMd T M) {x : Int32} {E : Nat} (hE : w 5 = nI E) (hE20 : E ≤ 20) (hx : ¬ okN E x) : Mc g yX10_ledgerLoan cX10_ledgerLoan 2 (some .int) 7 0 0 [.ref M, .int x] X T (sr I (M + 1) w) (Ex (some (.int (nI 0))) X T (sr (u2 I M 0 (nI 1)) (M + 1) w)) := by
  refine Mc.of (by decide) (Nat.le_of_ble_eq_true rfl) (fun k hfl C => ?_)
  refine r_lo (lo' := [(0, _), (1, _)]) rfl ?_
  refine r_aload_n (pc := 0) C 0 dX10_ledgerLoan_0 rfl rfl ?_
  refine r_iload_n (pc := 1) C 1 dX10_ledgerLoan_1 rfl rfl ?_
  refine r_iconst (pc := 2) (v := 1) C dX10_ledgerLoan_2 rfl ?_
  refine r_cVi (pc := 3) C hfl k_X10_212 (c_asksEntry__x hm hE hE20 hx) hm.1 ca_X10 rfl rfl (Nat.le_of_ble_eq_true rfl) (by decide) (by decide) dX10_ledgerLoan_3 ?_
  exact r_iret (pc := 6) C dX10_ledgerLoan_6 ⟨rfl, rfl, rfl, rfl⟩ (by decide)

set_option maxHeartbeats 1000000 in
theorem c_ledgerOf {g : GG} {X : va_W} {T : TT} {I : II} {M : Nat} {w : Nat → Int32} (hm : isMd T M) {id : Int32} {E : Nat} (hE : w 5 = nI E) (hE20 : E ≤ 20) : Mc g yX10_ledgerOf cX10_ledgerOf 4 (some .int) 6 0 0 [.ref M, .int id] X T (sr I (M + 1) w) (Ex (some (.int (ledV w E id))) X T (sr (u2 I M 0 (nI 0)) (M + 1) w)) := by
  refine Mc.of (by decide) (Nat.le_of_ble_eq_true rfl) (fun k hfl C => ?_)
  refine r_lo (lo' := [(0, _), (1, _)]) rfl ?_
  refine r_aload_n (pc := 0) C 0 dX10_ledgerOf_0 rfl rfl ?_
  refine r_iconst (pc := 1) (v := 0) C dX10_ledgerOf_1 rfl ?_
  refine r_wput (pc := 2) (by omega) C f_X10_1 hm.1 rfl rfl rfl dX10_ledgerOf_2 ?_
  refine r_iconst (pc := 5) (v := 0) C dX10_ledgerOf_5 rfl ?_
  refine r_istore_n (pc := 6) (lo' := [(2, _), (0, _), (1, _)]) C dX10_ledgerOf_6 rfl (by decide) rfl ?_
  refine r_iconst (pc := 7) (v := 0) C dX10_ledgerOf_7 rfl ?_
  refine r_istore_n (pc := 8) (lo' := [(3, _), (2, _), (0, _), (1, _)]) C dX10_ledgerOf_8 rfl (by decide) rfl ?_
  have loop_9 : ∀ (n_9 : Nat) (q : Nat) (a : Int32), E - q < n_9 → (q ≤ E) → (sm (fLed w id) (E - q) q a = ledV w E id) → Go g k 4 (Qm g k (Ex (some (.int (ledV w E id))) X T (sr (u2 I M 0 (nI 0)) (M + 1) w)) 0 0) 0 0 9 [(0, .ref M), (1, .int id), (2, .int a), (3, .int (nI q))] [] X T ((sr (u2 I M 0 (nI 0)) (M + 1) w)) := by
    intro n_9
    induction n_9 with
    | zero => intro _ _ h_; exact absurd h_ (Nat.not_lt_zero _)
    | succ n_9 ih_9 =>
      intro q a hq hqN hinv
      refine r_iload_n (pc := 9) C 3 dX10_ledgerOf_9 rfl rfl ?_
      refine r_aload_n (pc := 10) C 0 dX10_ledgerOf_10 rfl rfl ?_
      refine r_getR (pc := 11) (x := M + 1) C f_X10_13 hm.1 rfl rfl dX10_ledgerOf_11 ?_
      refine r_iconst (pc := 14) (v := 5) C dX10_ledgerOf_14 rfl ?_
      refine r_wld (pc := 15) (x := 5) C hm.2.1 rfl (by omega) (by decide) dX10_ledgerOf_15 ?_
      refine r_t (y := nI E) hE ?_
      refine r_cgeN (pc := 16) (tgt := 48) C dX10_ledgerOf_16 rfl (by omega) (by omega) (fun c_16 => ?_) (fun c_16 => ?_)
      · skip
        refine r_iload_n (pc := 48) C 2 dX10_ledgerOf_48 rfl rfl ?_
        exact r_iret (pc := 49) C dX10_ledgerOf_49 ⟨congrArg (fun z => some (Value.int z)) (sm_end c_16 hinv), rfl, rfl, rfl⟩ (by decide)
      · skip
        refine r_iload_n (pc := 19) C 2 dX10_ledgerOf_19 rfl rfl ?_
        refine r_aload_n (pc := 20) C 0 dX10_ledgerOf_20 rfl rfl ?_
        refine r_iload_n (pc := 21) C 3 dX10_ledgerOf_21 rfl rfl ?_
        refine r_iconst (pc := 22) (v := 1) C dX10_ledgerOf_22 rfl ?_
        refine r_cVi (pc := 23) C hfl k_X10_133 (c_entry hm (by omega) (by omega)) hm.1 ca_X10 rfl rfl (Nat.le_of_ble_eq_true rfl) (by decide) (by decide) dX10_ledgerOf_23 ?_
        refine r_iload_n (pc := 26) C 1 dX10_ledgerOf_26 rfl rfl ?_
        refine r_cne (pc := 27) (tgt := 39) C dX10_ledgerOf_27 rfl (fun c_27 => ?_) (fun c_27 => ?_)
        · skip
          refine r_iconst (pc := 39) (v := 0) C dX10_ledgerOf_39 rfl ?_
          refine r_iadd (pc := 40) C dX10_ledgerOf_40 ?_
          refine r_istore_n (pc := 41) (lo' := [(2, _), (0, _), (1, _), (3, _)]) C dX10_ledgerOf_41 rfl (by decide) rfl ?_
          refine r_iincN (pc := 42) (m := 1) (lo' := [(3, _), (2, _), (0, _), (1, _)]) C 3 dX10_ledgerOf_42 rfl rfl (by decide) rfl ?_
          refine r_goto (pc := 45) (tgt := 9) C dX10_ledgerOf_45 rfl ?_
          refine r_ls [2, 3, 1, 0] rfl ?_
          exact ih_9 (q + 1) _ (by omega) (by omega) (sm_go c_16 hinv (if_neg c_27))
        · skip
          refine r_aload_n (pc := 30) C 0 dX10_ledgerOf_30 rfl rfl ?_
          refine r_iload_n (pc := 31) C 3 dX10_ledgerOf_31 rfl rfl ?_
          refine r_iconst (pc := 32) (v := 2) C dX10_ledgerOf_32 rfl ?_
          refine r_cVi (pc := 33) C hfl k_X10_133 (c_entry hm (by omega) (by omega)) hm.1 ca_X10 rfl rfl (Nat.le_of_ble_eq_true rfl) (by decide) (by decide) dX10_ledgerOf_33 ?_
          refine r_goto (pc := 36) (tgt := 40) C dX10_ledgerOf_36 rfl ?_
          refine r_iadd (pc := 40) C dX10_ledgerOf_40 ?_
          refine r_istore_n (pc := 41) (lo' := [(2, _), (0, _), (1, _), (3, _)]) C dX10_ledgerOf_41 rfl (by decide) rfl ?_
          refine r_iincN (pc := 42) (m := 1) (lo' := [(3, _), (2, _), (0, _), (1, _)]) C 3 dX10_ledgerOf_42 rfl rfl (by decide) rfl ?_
          refine r_goto (pc := 45) (tgt := 9) C dX10_ledgerOf_45 rfl ?_
          refine r_ls [2, 3, 1, 0] rfl ?_
          exact ih_9 (q + 1) _ (by omega) (by omega) (sm_go c_16 hinv (if_pos c_27))
  refine r_ls [2, 3, 1, 0] rfl ?_
  exact loop_9 (E + 1) 0 (nI 0) (by omega) (by omega) rfl

set_option maxHeartbeats 1000000 in
theorem c_coinsAll {g : GG} {X : va_W} {T : TT} {I : II} {M : Nat} {w : Nat → Int32} (hm : isMd T M) {B : Nat} (hB : w 1 = nI B) (hB6 : B ≤ 6) : Mc g yX10_coinsAll cX10_coinsAll 3 (some .int) 3 0 0 [.ref M] X T (sr I (M + 1) w) (Ex (some (.int (coinsV w B))) X T (sr I (M + 1) w)) := by
  refine Mc.of (by decide) (Nat.le_of_ble_eq_true rfl) (fun k hfl C => ?_)
  refine r_lo (lo' := [(0, _)]) rfl ?_
  refine r_aload_n (pc := 0) C 0 dX10_coinsAll_0 rfl rfl ?_
  refine r_getR (pc := 1) (x := M + 1) C f_X10_13 hm.1 rfl rfl dX10_coinsAll_1 ?_
  refine r_iconst (pc := 4) (v := 4) C dX10_coinsAll_4 rfl ?_
  refine r_wld (pc := 5) (x := 4) C hm.2.1 rfl (by omega) (by decide) dX10_coinsAll_5 ?_
  refine r_istore_n (pc := 6) (lo' := [(1, _), (0, _)]) C dX10_coinsAll_6 rfl (by decide) rfl ?_
  refine r_iconst (pc := 7) (v := 0) C dX10_coinsAll_7 rfl ?_
  refine r_istore_n (pc := 8) (lo' := [(2, _), (1, _), (0, _)]) C dX10_coinsAll_8 rfl (by decide) rfl ?_
  have loop_9 : ∀ (n_9 : Nat) (q : Nat) (a : Int32), B - q < n_9 → (q ≤ B) → (sm (fun b => w (22 + 6 * b + 0)) (B - q) q a = coinsV w B) → Go g k 3 (Qm g k (Ex (some (.int (coinsV w B))) X T (sr I (M + 1) w)) 0 0) 0 0 9 [(0, .ref M), (1, .int a), (2, .int (nI q))] [] X T ((sr I (M + 1) w)) := by
    intro n_9
    induction n_9 with
    | zero => intro _ _ h_; exact absurd h_ (Nat.not_lt_zero _)
    | succ n_9 ih_9 =>
      intro q a hq hqN hinv
      refine r_iload_n (pc := 9) C 2 dX10_coinsAll_9 rfl rfl ?_
      refine r_aload_n (pc := 10) C 0 dX10_coinsAll_10 rfl rfl ?_
      refine r_getR (pc := 11) (x := M + 1) C f_X10_13 hm.1 rfl rfl dX10_coinsAll_11 ?_
      refine r_iconst (pc := 14) (v := 1) C dX10_coinsAll_14 rfl ?_
      refine r_wld (pc := 15) (x := 1) C hm.2.1 rfl (by omega) (by decide) dX10_coinsAll_15 ?_
      refine r_t (y := nI B) hB ?_
      refine r_cgeN (pc := 16) (tgt := 34) C dX10_coinsAll_16 rfl (by omega) (by omega) (fun c_16 => ?_) (fun c_16 => ?_)
      · skip
        refine r_iload_n (pc := 34) C 1 dX10_coinsAll_34 rfl rfl ?_
        exact r_iret (pc := 35) C dX10_coinsAll_35 ⟨congrArg (fun z => some (Value.int z)) (sm_end c_16 hinv), rfl, rfl, rfl⟩ (by decide)
      · skip
        refine r_iload_n (pc := 19) C 1 dX10_coinsAll_19 rfl rfl ?_
        refine r_aload_n (pc := 20) C 0 dX10_coinsAll_20 rfl rfl ?_
        refine r_iload_n (pc := 21) C 2 dX10_coinsAll_21 rfl rfl ?_
        refine r_iconst (pc := 22) (v := 0) C dX10_coinsAll_22 rfl ?_
        refine r_cVi (pc := 23) C hfl k_X10_95 (c_of hm (by omega) (by omega)) hm.1 ca_X10 rfl rfl (Nat.le_of_ble_eq_true rfl) (by decide) (by decide) dX10_coinsAll_23 ?_
        refine r_iadd (pc := 26) C dX10_coinsAll_26 ?_
        refine r_istore_n (pc := 27) (lo' := [(1, _), (0, _), (2, _)]) C dX10_coinsAll_27 rfl (by decide) rfl ?_
        refine r_iincN (pc := 28) (m := 1) (lo' := [(2, _), (1, _), (0, _)]) C 2 dX10_coinsAll_28 rfl rfl (by decide) rfl ?_
        refine r_goto (pc := 31) (tgt := 9) C dX10_coinsAll_31 rfl ?_
        refine r_ls [2, 1, 0] rfl ?_
        exact ih_9 (q + 1) _ (by omega) (by omega) (sm_go c_16 hinv rfl)
  refine r_ls [2, 1, 0] rfl ?_
  exact loop_9 (B + 1) 0 _ (by omega) (by omega) rfl

set_option maxHeartbeats 1000000 in
theorem c_unitsAll {g : GG} {X : va_W} {T : TT} {I : II} {M : Nat} {w : Nat → Int32} (hm : isMd T M) {m : Nat} (hm4 : m < 4) {B : Nat} (hB : w 1 = nI B) (hB6 : B ≤ 6) {N : Nat} (hN : w 2 = nI N) (hN10 : N ≤ 10) : Mc g yX10_unitsAll cX10_unitsAll 4 (some .int) 4 0 0 [.ref M, .int (nI m)] X T (sr I (M + 1) w) (Ex (some (.int (unitsV w B N m))) X T (sr I (M + 1) w)) := by
  refine Mc.of (by decide) (Nat.le_of_ble_eq_true rfl) (fun k hfl C => ?_)
  refine r_lo (lo' := [(0, _), (1, _)]) rfl ?_
  refine r_aload_n (pc := 0) C 0 dX10_unitsAll_0 rfl rfl ?_
  refine r_getR (pc := 1) (x := M + 1) C f_X10_13 hm.1 rfl rfl dX10_unitsAll_1 ?_
  refine r_bipush (pc := 4) (v := 14) C dX10_unitsAll_4 rfl ?_
  refine r_iload_n (pc := 6) C 1 dX10_unitsAll_6 rfl rfl ?_
  refine r_iaddN (pc := 7) C dX10_unitsAll_7 ?_
  refine r_wld (pc := 8) (x := 14 + m) C hm.2.1 rfl (by omega) (by decide) dX10_unitsAll_8 ?_
  refine r_istore_n (pc := 9) (lo' := [(2, _), (0, _), (1, _)]) C dX10_unitsAll_9 rfl (by decide) rfl ?_
  refine r_iconst (pc := 10) (v := 0) C dX10_unitsAll_10 rfl ?_
  refine r_istore_n (pc := 11) (lo' := [(3, _), (2, _), (0, _), (1, _)]) C dX10_unitsAll_11 rfl (by decide) rfl ?_
  have loop_12 : ∀ (n_12 : Nat) (q : Nat) (a : Int32), B - q < n_12 → (q ≤ B) → (sm (fun b => w (22 + 6 * b + (2 + m)) + pledV w N (nI b) m) (B - q) q a = unitsV w B N m) → Go g k 4 (Qm g k (Ex (some (.int (unitsV w B N m))) X T (sr I (M + 1) w)) 0 0) 0 0 12 [(0, .ref M), (1, .int (nI m)), (2, .int a), (3, .int (nI q))] [] X T ((sr I (M + 1) w)) := by
    intro n_12
    induction n_12 with
    | zero => intro _ _ h_; exact absurd h_ (Nat.not_lt_zero _)
    | succ n_12 ih_12 =>
      intro q a hq hqN hinv
      refine r_iload_n (pc := 12) C 3 dX10_unitsAll_12 rfl rfl ?_
      refine r_aload_n (pc := 13) C 0 dX10_unitsAll_13 rfl rfl ?_
      refine r_getR (pc := 14) (x := M + 1) C f_X10_13 hm.1 rfl rfl dX10_unitsAll_14 ?_
      refine r_iconst (pc := 17) (v := 1) C dX10_unitsAll_17 rfl ?_
      refine r_wld (pc := 18) (x := 1) C hm.2.1 rfl (by omega) (by decide) dX10_unitsAll_18 ?_
      refine r_t (y := nI B) hB ?_
      refine r_cgeN (pc := 19) (tgt := 46) C dX10_unitsAll_19 rfl (by omega) (by omega) (fun c_19 => ?_) (fun c_19 => ?_)
      · skip
        refine r_iload_n (pc := 46) C 2 dX10_unitsAll_46 rfl rfl ?_
        exact r_iret (pc := 47) C dX10_unitsAll_47 ⟨congrArg (fun z => some (Value.int z)) (sm_end c_19 hinv), rfl, rfl, rfl⟩ (by decide)
      · skip
        refine r_iload_n (pc := 22) C 2 dX10_unitsAll_22 rfl rfl ?_
        refine r_aload_n (pc := 23) C 0 dX10_unitsAll_23 rfl rfl ?_
        refine r_iload_n (pc := 24) C 3 dX10_unitsAll_24 rfl rfl ?_
        refine r_iconst (pc := 25) (v := 2) C dX10_unitsAll_25 rfl ?_
        refine r_iload_n (pc := 26) C 1 dX10_unitsAll_26 rfl rfl ?_
        refine r_iaddN (pc := 27) C dX10_unitsAll_27 ?_
        refine r_cVi (pc := 28) C hfl k_X10_95 (c_of hm (by omega) (by omega)) hm.1 ca_X10 rfl rfl (Nat.le_of_ble_eq_true rfl) (by decide) (by decide) dX10_unitsAll_28 ?_
        refine r_aload_n (pc := 31) C 0 dX10_unitsAll_31 rfl rfl ?_
        refine r_iload_n (pc := 32) C 3 dX10_unitsAll_32 rfl rfl ?_
        refine r_iload_n (pc := 33) C 1 dX10_unitsAll_33 rfl rfl ?_
        refine r_cVi (pc := 34) C hfl k_X10_190 (c_pledgedBy hm (by omega) hN hN10) hm.1 ca_X10 rfl rfl (Nat.le_of_ble_eq_true rfl) (by decide) (by decide) dX10_unitsAll_34 ?_
        refine r_iadd (pc := 37) C dX10_unitsAll_37 ?_
        refine r_iadd (pc := 38) C dX10_unitsAll_38 ?_
        refine r_istore_n (pc := 39) (lo' := [(2, _), (0, _), (1, _), (3, _)]) C dX10_unitsAll_39 rfl (by decide) rfl ?_
        refine r_iincN (pc := 40) (m := 1) (lo' := [(3, _), (2, _), (0, _), (1, _)]) C 3 dX10_unitsAll_40 rfl rfl (by decide) rfl ?_
        refine r_goto (pc := 43) (tgt := 12) C dX10_unitsAll_43 rfl ?_
        refine r_ls [2, 3, 1, 0] rfl ?_
        exact ih_12 (q + 1) _ (by omega) (by omega) (sm_go c_19 hinv rfl)
  refine r_ls [2, 3, 1, 0] rfl ?_
  exact loop_12 (B + 1) 0 _ (by omega) (by omega) rfl

set_option maxHeartbeats 1000000 in
theorem c_totalCoins {g : GG} {X : va_W} {T : TT} {I : II} {M : Nat} {w : Nat → Int32} (hm : isMd T M) {B : Nat} (hB : w 1 = nI B) (hB6 : B ≤ 6) : Mc g yX10_totalCoins cX10_totalCoins 1 (some .int) 6 0 0 [.ref M] X T (sr I (M + 1) w) (Ex (some (.int (coinsV w B))) X T (sr (u2 I M 0 (nI 0)) (M + 1) w)) := by
  refine Mc.of (by decide) (Nat.le_of_ble_eq_true rfl) (fun k hfl C => ?_)
  refine r_lo (lo' := [(0, _)]) rfl ?_
  refine r_aload_n (pc := 0) C 0 dX10_totalCoins_0 rfl rfl ?_
  refine r_iconst (pc := 1) (v := 0) C dX10_totalCoins_1 rfl ?_
  refine r_wput (pc := 2) (by omega) C f_X10_1 hm.1 rfl rfl rfl dX10_totalCoins_2 ?_
  refine r_aload_n (pc := 5) C 0 dX10_totalCoins_5 rfl rfl ?_
  refine r_cVi (pc := 6) C hfl k_X10_215 (c_coinsAll hm hB hB6) hm.1 ca_X10 rfl rfl (Nat.le_of_ble_eq_true rfl) (by decide) (by decide) dX10_totalCoins_6 ?_
  exact r_iret (pc := 9) C dX10_totalCoins_9 ⟨rfl, rfl, rfl, rfl⟩ (by decide)

set_option maxHeartbeats 1000000 in
theorem c_totalUnits__v {g : GG} {X : va_W} {T : TT} {I : II} {M : Nat} {w : Nat → Int32} (hm : isMd T M) {m : Nat} (hm4 : m < 4) {B : Nat} (hB : w 1 = nI B) (hB6 : B ≤ 6) {N : Nat} (hN : w 2 = nI N) (hN10 : N ≤ 10) : Mc g yX10_totalUnits cX10_totalUnits 2 (some .int) 6 0 0 [.ref M, .int (nI m)] X T (sr I (M + 1) w) (Ex (some (.int (unitsV w B N m))) X T (sr (u2 I M 0 (nI 0)) (M + 1) w)) := by
  refine Mc.of (by decide) (Nat.le_of_ble_eq_true rfl) (fun k hfl C => ?_)
  refine r_lo (lo' := [(0, _), (1, _)]) rfl ?_
  refine r_aload_n (pc := 0) C 0 dX10_totalUnits_0 rfl rfl ?_
  refine r_iconst (pc := 1) (v := 0) C dX10_totalUnits_1 rfl ?_
  refine r_wput (pc := 2) (by omega) C f_X10_1 hm.1 rfl rfl rfl dX10_totalUnits_2 ?_
  refine r_iload_n (pc := 5) C 1 dX10_totalUnits_5 rfl rfl ?_
  refine r_cSi (pc := 6) C hfl k_X10_92 (c_isKind _) rfl rfl (Nat.le_of_ble_eq_true rfl) (by decide) (by decide) dX10_totalUnits_6 ?_
  refine r_ifeqB (pc := 9) (tgt := 20) C dX10_totalUnits_9 rfl (fun c_9 => False.elim (by exact c_9 (okK_nI hm4))) (fun c_9 => ?_)
  refine r_aload_n (pc := 12) C 0 dX10_totalUnits_12 rfl rfl ?_
  refine r_iload_n (pc := 13) C 1 dX10_totalUnits_13 rfl rfl ?_
  refine r_cVi (pc := 14) C hfl k_X10_218 (c_unitsAll hm (by omega) hB hB6 hN hN10) hm.1 ca_X10 rfl rfl (Nat.le_of_ble_eq_true rfl) (by decide) (by decide) dX10_totalUnits_14 ?_
  refine r_goto (pc := 17) (tgt := 25) C dX10_totalUnits_17 rfl ?_
  exact r_iret (pc := 25) C dX10_totalUnits_25 ⟨rfl, rfl, rfl, rfl⟩ (by decide)

set_option maxHeartbeats 1000000 in
theorem c_totalUnits__x {g : GG} {X : va_W} {T : TT} {I : II} {M : Nat} {w : Nat → Int32} (hm : isMd T M) {k_ : Int32} (hk : ¬ okK k_) : Mc g yX10_totalUnits cX10_totalUnits 2 (some .int) 6 0 0 [.ref M, .int k_] X T (sr I (M + 1) w) (Ex (some (.int (nI 0))) X T (sr (u2 I M 0 (nI 1)) (M + 1) w)) := by
  refine Mc.of (by decide) (Nat.le_of_ble_eq_true rfl) (fun k hfl C => ?_)
  refine r_lo (lo' := [(0, _), (1, _)]) rfl ?_
  refine r_aload_n (pc := 0) C 0 dX10_totalUnits_0 rfl rfl ?_
  refine r_iconst (pc := 1) (v := 0) C dX10_totalUnits_1 rfl ?_
  refine r_wput (pc := 2) (by omega) C f_X10_1 hm.1 rfl rfl rfl dX10_totalUnits_2 ?_
  refine r_iload_n (pc := 5) C 1 dX10_totalUnits_5 rfl rfl ?_
  refine r_cSi (pc := 6) C hfl k_X10_92 (c_isKind _) rfl rfl (Nat.le_of_ble_eq_true rfl) (by decide) (by decide) dX10_totalUnits_6 ?_
  refine r_ifeqB (pc := 9) (tgt := 20) C dX10_totalUnits_9 rfl (fun c_9 => ?_) (fun c_9 => False.elim (by exact hk c_9))
  refine r_aload_n (pc := 20) C 0 dX10_totalUnits_20 rfl rfl ?_
  refine r_iconst (pc := 21) (v := 1) C dX10_totalUnits_21 rfl ?_
  refine r_cVi (pc := 22) C hfl k_X10_79 (c_fails hm ) hm.1 ca_X10 rfl rfl (Nat.le_of_ble_eq_true rfl) (by decide) (by decide) dX10_totalUnits_22 ?_
  exact r_iret (pc := 25) C dX10_totalUnits_25 ⟨rfl, rfl, rfl, by rw [u2_u2]⟩ (by decide)

set_option maxHeartbeats 1000000 in
theorem c_isBalanced {g : GG} {X : va_W} {T : TT} {I : II} {M : Nat} {w : Nat → Int32} (hm : isMd T M) {B : Nat} (hB : w 1 = nI B) (hB6 : B ≤ 6) {N : Nat} (hN : w 2 = nI N) (hN10 : N ≤ 10) {r : Int32} (hr : (r = nI 1 ∧ (∀ m, m < 4 → unitsV w B N m = w (18 + m)) ∧ coinsV w B = nI 1000 + w 9) ∨ (r = nI 0 ∧ ¬ ((∀ m, m < 4 → unitsV w B N m = w (18 + m)) ∧ coinsV w B = nI 1000 + w 9))) : Mc g yX10_isBalanced cX10_isBalanced 2 (some .boolean) 6 0 0 [.ref M] X T (sr I (M + 1) w) (Ex (some (.int r)) X T (sr (u2 I M 0 (nI 0)) (M + 1) w)) := by
  refine Mc.of (by decide) (Nat.le_of_ble_eq_true rfl) (fun k hfl C => ?_)
  refine r_lo (lo' := [(0, _)]) rfl ?_
  refine r_aload_n (pc := 0) C 0 dX10_isBalanced_0 rfl rfl ?_
  refine r_iconst (pc := 1) (v := 0) C dX10_isBalanced_1 rfl ?_
  refine r_wput (pc := 2) (by omega) C f_X10_1 hm.1 rfl rfl rfl dX10_isBalanced_2 ?_
  refine r_iconst (pc := 5) (v := 0) C dX10_isBalanced_5 rfl ?_
  refine r_istore_n (pc := 6) (lo' := [(1, _), (0, _)]) C dX10_isBalanced_6 rfl (by decide) rfl ?_
  have loop_7 : ∀ (n_7 : Nat) (q : Nat), 4 - q < n_7 → (q ≤ 4) → (∀ m, m < q → unitsV w B N m = w (18 + m)) → Go g k 2 (Qm g k (Ex (some (.int r)) X T (sr (u2 I M 0 (nI 0)) (M + 1) w)) 0 0) 0 0 7 [(0, .ref M), (1, .int (nI q))] [] X T ((sr (u2 I M 0 (nI 0)) (M + 1) w)) := by
    intro n_7
    induction n_7 with
    | zero => intro _ h_; exact absurd h_ (Nat.not_lt_zero _)
    | succ n_7 ih_7 =>
      intro q hq hqN hinv
      refine r_iload_n (pc := 7) C 1 dX10_isBalanced_7 rfl rfl ?_
      refine r_iconst (pc := 8) (v := 4) C dX10_isBalanced_8 rfl ?_
      refine r_cgeN (pc := 9) (tgt := 37) C dX10_isBalanced_9 rfl (by omega) (by omega) (fun c_9 => ?_) (fun c_9 => ?_)
      · skip
        refine r_aload_n (pc := 37) C 0 dX10_isBalanced_37 rfl rfl ?_
        refine r_cVi (pc := 38) C hfl k_X10_215 (c_coinsAll hm hB hB6) hm.1 ca_X10 rfl rfl (Nat.le_of_ble_eq_true rfl) (by decide) (by decide) dX10_isBalanced_38 ?_
        refine r_sipush (pc := 41) (v := 1000) C dX10_isBalanced_41 rfl ?_
        refine r_aload_n (pc := 44) C 0 dX10_isBalanced_44 rfl rfl ?_
        refine r_getR (pc := 45) (x := M + 1) C f_X10_13 hm.1 rfl rfl dX10_isBalanced_45 ?_
        refine r_bipush (pc := 48) (v := 9) C dX10_isBalanced_48 rfl ?_
        refine r_wld (pc := 50) (x := 9) C hm.2.1 rfl (by omega) (by decide) dX10_isBalanced_50 ?_
        refine r_iadd (pc := 51) C dX10_isBalanced_51 ?_
        refine r_cne (pc := 52) (tgt := 59) C dX10_isBalanced_52 rfl (fun c_52 => ?_) (fun c_52 => ?_)
        · skip
          refine r_iconst (pc := 59) (v := 0) C dX10_isBalanced_59 rfl ?_
          exact r_zret (pc := 60) C rfl dX10_isBalanced_60 ⟨congrArg (fun z => some (Value.int z)) (by rcases hr with ⟨-, -, h2⟩ | ⟨h1, -⟩; exact absurd h2 c_52; exact h1.symm), rfl, rfl, rfl⟩ (by decide)
        · skip
          refine r_iconst (pc := 55) (v := 1) C dX10_isBalanced_55 rfl ?_
          refine r_goto (pc := 56) (tgt := 60) C dX10_isBalanced_56 rfl ?_
          exact r_zret (pc := 60) C rfl dX10_isBalanced_60 ⟨congrArg (fun z => some (Value.int z)) (by rcases hr with ⟨h1, -⟩ | ⟨-, h2⟩; exact h1.symm; exact absurd ⟨fun m h => hinv m (by omega), c_52⟩ h2), rfl, rfl, rfl⟩ (by decide)
      · skip
        refine r_aload_n (pc := 12) C 0 dX10_isBalanced_12 rfl rfl ?_
        refine r_iload_n (pc := 13) C 1 dX10_isBalanced_13 rfl rfl ?_
        refine r_cVi (pc := 14) C hfl k_X10_218 (c_unitsAll hm (by omega) hB hB6 hN hN10) hm.1 ca_X10 rfl rfl (Nat.le_of_ble_eq_true rfl) (by decide) (by decide) dX10_isBalanced_14 ?_
        refine r_aload_n (pc := 17) C 0 dX10_isBalanced_17 rfl rfl ?_
        refine r_getR (pc := 18) (x := M + 1) C f_X10_13 hm.1 rfl rfl dX10_isBalanced_18 ?_
        refine r_bipush (pc := 21) (v := 18) C dX10_isBalanced_21 rfl ?_
        refine r_iload_n (pc := 23) C 1 dX10_isBalanced_23 rfl rfl ?_
        refine r_iaddN (pc := 24) C dX10_isBalanced_24 ?_
        refine r_wld (pc := 25) (x := 18 + q) C hm.2.1 rfl (by omega) (by decide) dX10_isBalanced_25 ?_
        refine r_ceq (pc := 26) (tgt := 31) C dX10_isBalanced_26 rfl (fun c_26 => ?_) (fun c_26 => ?_)
        · skip
          refine r_iincN (pc := 31) (m := 1) (lo' := [(1, _), (0, _)]) C 1 dX10_isBalanced_31 rfl rfl (by decide) rfl ?_
          refine r_goto (pc := 34) (tgt := 7) C dX10_isBalanced_34 rfl ?_
          refine r_ls [1, 0] rfl ?_
          exact ih_7 (q + 1) (by omega) (by omega) (lt_s hinv c_26)
        · skip
          refine r_iconst (pc := 29) (v := 0) C dX10_isBalanced_29 rfl ?_
          exact r_zret (pc := 30) C rfl dX10_isBalanced_30 ⟨congrArg (fun z => some (Value.int z)) (by rcases hr with ⟨h1, h2, -⟩ | ⟨h1, -⟩; exact absurd (h2 q (by omega)) c_26; exact h1.symm), rfl, rfl, rfl⟩ (by decide)
  refine r_ls [1, 0] rfl ?_
  exact loop_7 5 0 (by omega) (by omega) (fun _ h => absurd h (by omega))

set_option maxHeartbeats 1000000 in
theorem c_riskiest__v {g : GG} {X : va_W} {T : TT} {I : II} {M : Nat} {w : Nat → Int32} (hm : isMd T M) {N : Nat} (hN : w 2 = nI N) (hN10 : N ≤ 10) (h0 : 0 < N) {d : Nat → Nat} (hd : ∀ s, s < N → dlOk w s (d s)) : Mc g yX10_riskiest cX10_riskiest 3 (some .int) 6 0 0 [.ref M] X T (sr I (M + 1) w) (Ex (some (.int (w (58 + 10 * bst d (N - 1) 1 0 + 0)))) X T (sr (u2 I M 0 (nI 0)) (M + 1) w)) := by
  refine Mc.of (by decide) (Nat.le_of_ble_eq_true rfl) (fun k hfl C => ?_)
  refine r_lo (lo' := [(0, _)]) rfl ?_
  refine r_aload_n (pc := 0) C 0 dX10_riskiest_0 rfl rfl ?_
  refine r_iconst (pc := 1) (v := 0) C dX10_riskiest_1 rfl ?_
  refine r_wput (pc := 2) (by omega) C f_X10_1 hm.1 rfl rfl rfl dX10_riskiest_2 ?_
  refine r_aload_n (pc := 5) C 0 dX10_riskiest_5 rfl rfl ?_
  refine r_getR (pc := 6) (x := M + 1) C f_X10_13 hm.1 rfl rfl dX10_riskiest_6 ?_
  refine r_iconst (pc := 9) (v := 2) C dX10_riskiest_9 rfl ?_
  refine r_wld (pc := 10) (x := 2) C hm.2.1 rfl (by omega) (by decide) dX10_riskiest_10 ?_
  refine r_t (y := nI N) hN ?_
  refine r_ifneN (pc := 11) (tgt := 20) C dX10_riskiest_11 rfl (by omega) (fun c_11 => ?_) (fun c_11 => False.elim (by omega))
  refine r_iconst (pc := 20) (v := 0) C dX10_riskiest_20 rfl ?_
  refine r_istore_n (pc := 21) (lo' := [(1, _), (0, _)]) C dX10_riskiest_21 rfl (by decide) rfl ?_
  refine r_iconst (pc := 22) (v := 1) C dX10_riskiest_22 rfl ?_
  refine r_istore_n (pc := 23) (lo' := [(2, _), (1, _), (0, _)]) C dX10_riskiest_23 rfl (by decide) rfl ?_
  have loop_24 : ∀ (n_24 : Nat) (q b : Nat), N - q < n_24 → (1 ≤ q) → (q ≤ N) → (b < N) → (bst d (N - q) q b = bst d (N - 1) 1 0) → Go g k 3 (Qm g k (Ex (some (.int (w (58 + 10 * bst d (N - 1) 1 0 + 0)))) X T (sr (u2 I M 0 (nI 0)) (M + 1) w)) 0 0) 0 0 24 [(0, .ref M), (1, .int (nI b)), (2, .int (nI q))] [] X T ((sr (u2 I M 0 (nI 0)) (M + 1) w)) := by
    intro n_24
    induction n_24 with
    | zero => intro _ _ h_; exact absurd h_ (Nat.not_lt_zero _)
    | succ n_24 ih_24 =>
      intro q b hq h1q hqN hbN hinv
      refine r_iload_n (pc := 24) C 2 dX10_riskiest_24 rfl rfl ?_
      refine r_aload_n (pc := 25) C 0 dX10_riskiest_25 rfl rfl ?_
      refine r_getR (pc := 26) (x := M + 1) C f_X10_13 hm.1 rfl rfl dX10_riskiest_26 ?_
      refine r_iconst (pc := 29) (v := 2) C dX10_riskiest_29 rfl ?_
      refine r_wld (pc := 30) (x := 2) C hm.2.1 rfl (by omega) (by decide) dX10_riskiest_30 ?_
      refine r_t (y := nI N) hN ?_
      refine r_cgeN (pc := 31) (tgt := 59) C dX10_riskiest_31 rfl (by omega) (by omega) (fun c_31 => ?_) (fun c_31 => ?_)
      · skip
        refine r_aload_n (pc := 59) C 0 dX10_riskiest_59 rfl rfl ?_
        refine r_iload_n (pc := 60) C 1 dX10_riskiest_60 rfl rfl ?_
        refine r_iconst (pc := 61) (v := 0) C dX10_riskiest_61 rfl ?_
        refine r_cVi (pc := 62) C hfl k_X10_58 (c_is hm (by omega) (by omega)) hm.1 ca_X10 rfl rfl (Nat.le_of_ble_eq_true rfl) (by decide) (by decide) dX10_riskiest_62 ?_
        exact r_iret (pc := 65) C dX10_riskiest_65 ⟨congrArg (fun z => some (Value.int z)) (by rw [← hinv, bst_end (by omega)]), rfl, rfl, rfl⟩ (by decide)
      · skip
        refine r_aload_n (pc := 34) C 0 dX10_riskiest_34 rfl rfl ?_
        refine r_iload_n (pc := 35) C 2 dX10_riskiest_35 rfl rfl ?_
        refine r_cVi (pc := 36) C hfl k_X10_202 (c_daysLeft hm (by omega) (hd q (by omega))) hm.1 ca_X10 rfl rfl (Nat.le_of_ble_eq_true rfl) (by decide) (by decide) dX10_riskiest_36 ?_
        refine r_aload_n (pc := 39) C 0 dX10_riskiest_39 rfl rfl ?_
        refine r_iload_n (pc := 40) C 1 dX10_riskiest_40 rfl rfl ?_
        refine r_cVi (pc := 41) C hfl k_X10_202 (c_daysLeft hm (by omega) (hd b (by omega))) hm.1 ca_X10 rfl rfl (Nat.le_of_ble_eq_true rfl) (by decide) (by decide) dX10_riskiest_41 ?_
        refine r_cgeN (pc := 44) (tgt := 51) C dX10_riskiest_44 rfl (by have := (hd q (by omega)).2.1; omega) (by have := (hd b (by omega)).2.1; omega) (fun c_44 => ?_) (fun c_44 => ?_)
        · skip
          refine r_iload_n (pc := 51) C 1 dX10_riskiest_51 rfl rfl ?_
          refine r_istore_n (pc := 52) (lo' := [(1, _), (0, _), (2, _)]) C dX10_riskiest_52 rfl (by decide) rfl ?_
          refine r_iincN (pc := 53) (m := 1) (lo' := [(2, _), (1, _), (0, _)]) C 2 dX10_riskiest_53 rfl rfl (by decide) rfl ?_
          refine r_goto (pc := 56) (tgt := 24) C dX10_riskiest_56 rfl ?_
          refine r_ls [2, 1, 0] rfl ?_
          exact ih_24 (q + 1) _ (by omega) (by omega) (by omega) (by omega) (by rw [← hinv]; exact (bst_go c_31 (if_neg (by omega))).symm)
        · skip
          refine r_iload_n (pc := 47) C 2 dX10_riskiest_47 rfl rfl ?_
          refine r_goto (pc := 48) (tgt := 52) C dX10_riskiest_48 rfl ?_
          refine r_istore_n (pc := 52) (lo' := [(1, _), (0, _), (2, _)]) C dX10_riskiest_52 rfl (by decide) rfl ?_
          refine r_iincN (pc := 53) (m := 1) (lo' := [(2, _), (1, _), (0, _)]) C 2 dX10_riskiest_53 rfl rfl (by decide) rfl ?_
          refine r_goto (pc := 56) (tgt := 24) C dX10_riskiest_56 rfl ?_
          refine r_ls [2, 1, 0] rfl ?_
          exact ih_24 (q + 1) _ (by omega) (by omega) (by omega) (by omega) (by rw [← hinv]; exact (bst_go c_31 (if_pos c_44)).symm)
  refine r_ls [2, 1, 0] rfl ?_
  exact loop_24 (N + 1) 1 0 (by omega) (by omega) (by omega) h0 rfl

set_option maxHeartbeats 1000000 in
theorem c_riskiest__x {g : GG} {X : va_W} {T : TT} {I : II} {M : Nat} {w : Nat → Int32} (hm : isMd T M) (hN : w 2 = nI 0) : Mc g yX10_riskiest cX10_riskiest 3 (some .int) 6 0 0 [.ref M] X T (sr I (M + 1) w) (Ex (some (.int (nI 0))) X T (sr (u2 I M 0 (nI 1)) (M + 1) w)) := by
  refine Mc.of (by decide) (Nat.le_of_ble_eq_true rfl) (fun k hfl C => ?_)
  refine r_lo (lo' := [(0, _)]) rfl ?_
  refine r_aload_n (pc := 0) C 0 dX10_riskiest_0 rfl rfl ?_
  refine r_iconst (pc := 1) (v := 0) C dX10_riskiest_1 rfl ?_
  refine r_wput (pc := 2) (by omega) C f_X10_1 hm.1 rfl rfl rfl dX10_riskiest_2 ?_
  refine r_aload_n (pc := 5) C 0 dX10_riskiest_5 rfl rfl ?_
  refine r_getR (pc := 6) (x := M + 1) C f_X10_13 hm.1 rfl rfl dX10_riskiest_6 ?_
  refine r_iconst (pc := 9) (v := 2) C dX10_riskiest_9 rfl ?_
  refine r_wld (pc := 10) (x := 2) C hm.2.1 rfl (by omega) (by decide) dX10_riskiest_10 ?_
  refine r_t (y := nI 0) hN ?_
  refine r_ifneN (pc := 11) (tgt := 20) C dX10_riskiest_11 rfl (by omega) (fun c_11 => False.elim (by omega)) (fun c_11 => ?_)
  refine r_aload_n (pc := 14) C 0 dX10_riskiest_14 rfl rfl ?_
  refine r_iconst (pc := 15) (v := 1) C dX10_riskiest_15 rfl ?_
  refine r_cVi (pc := 16) C hfl k_X10_79 (c_fails hm ) hm.1 ca_X10 rfl rfl (Nat.le_of_ble_eq_true rfl) (by decide) (by decide) dX10_riskiest_16 ?_
  exact r_iret (pc := 19) C dX10_riskiest_19 ⟨rfl, rfl, rfl, by rw [u2_u2]⟩ (by decide)

set_option maxHeartbeats 1000000 in
theorem c_isAhead {g : GG} {X : va_W} {T : TT} {I : II} {M : Nat} {w : Nat → Int32} (hm : isMd T M) {a b : Nat} (ha : a < 15) (hb : b < 15) : Mc g yX10_isAhead cX10_isAhead 5 (some .boolean) 3 0 0 [.ref M, .int (nI a), .int (nI b)] X T (sr I (M + 1) w) (Ex (some (.int (bI (aheadB w a b = true)))) X T (sr I (M + 1) w)) := by
  refine Mc.of (by decide) (Nat.le_of_ble_eq_true rfl) (fun k hfl C => ?_)
  refine r_lo (lo' := [(0, _), (1, _), (2, _)]) rfl ?_
  refine r_aload_n (pc := 0) C 0 dX10_isAhead_0 rfl rfl ?_
  refine r_iload_n (pc := 1) C 1 dX10_isAhead_1 rfl rfl ?_
  refine r_cVi (pc := 2) C hfl k_X10_62 (c_debtAt hm (by omega)) hm.1 ca_X10 rfl rfl (Nat.le_of_ble_eq_true rfl) (by decide) (by decide) dX10_isAhead_2 ?_
  refine r_aload_n (pc := 5) C 0 dX10_isAhead_5 rfl rfl ?_
  refine r_iload_n (pc := 6) C 2 dX10_isAhead_6 rfl rfl ?_
  refine r_cVi (pc := 7) C hfl k_X10_62 (c_debtAt hm (by omega)) hm.1 ca_X10 rfl rfl (Nat.le_of_ble_eq_true rfl) (by decide) (by decide) dX10_isAhead_7 ?_
  refine r_isub (pc := 10) C dX10_isAhead_10 ?_
  refine r_istore_n (pc := 11) (lo' := [(3, _), (0, _), (1, _), (2, _)]) C dX10_isAhead_11 rfl (by decide) rfl ?_
  refine r_aload_n (pc := 12) C 1 dX10_isAhead_12 rfl rfl ?_
  refine r_iload_n (pc := 13) C 3 dX10_isAhead_13 rfl rfl ?_
  refine r_iconst (pc := 14) (v := 5) C dX10_isAhead_14 rfl ?_
  refine r_cVi (pc := 15) C hfl k_X10_58 (c_is hm (by omega) (by omega)) hm.1 ca_X10 rfl rfl (Nat.le_of_ble_eq_true rfl) (by decide) (by decide) dX10_isAhead_15 ?_
  refine r_aload_n (pc := 18) C 1 dX10_isAhead_18 rfl rfl ?_
  refine r_iload_n (pc := 19) C 2 dX10_isAhead_19 rfl rfl ?_
  refine r_iconst (pc := 20) (v := 5) C dX10_isAhead_20 rfl ?_
  refine r_cVi (pc := 21) C hfl k_X10_58 (c_is hm (by omega) (by omega)) hm.1 ca_X10 rfl rfl (Nat.le_of_ble_eq_true rfl) (by decide) (by decide) dX10_isAhead_21 ?_
  refine r_isub (pc := 24) C dX10_isAhead_24 ?_
  refine r_istore (pc := 25) (lo' := [(4, _), (3, _), (0, _), (1, _), (2, _)]) C dX10_isAhead_25 (by decide) rfl ?_
  refine r_iload_n (pc := 27) C 1 dX10_isAhead_27 rfl rfl ?_
  refine r_ifeq (pc := 28) (tgt := 41) C dX10_isAhead_28 rfl (fun c_28 => ?_) (fun c_28 => ?_)
  · skip
    refine r_iload (pc := 41) C 0 dX10_isAhead_41 rfl ?_
    refine r_ifeq (pc := 43) (tgt := 59) C dX10_isAhead_43 rfl (fun c_43 => ?_) (fun c_43 => ?_)
    · skip
      refine r_iload_n (pc := 59) C 3 dX10_isAhead_59 rfl rfl ?_
      refine r_iload_n (pc := 60) C 4 dX10_isAhead_60 rfl rfl ?_
      refine r_cgeN (pc := 61) (tgt := 68) C dX10_isAhead_61 rfl (by omega) (by omega) (fun c_61 => ?_) (fun c_61 => ?_)
      · skip
        refine r_iconst (pc := 68) (v := 0) C dX10_isAhead_68 rfl ?_
        exact r_zret (pc := 69) C rfl dX10_isAhead_69 ⟨by (try simp only [Nat.add_zero] at *); simp [aheadB, c_28, c_43, c_61, okR, okK, okB, bI] <;> (intro z; omega), rfl, rfl, rfl⟩ (by decide)
      · skip
        refine r_iconst (pc := 64) (v := 1) C dX10_isAhead_64 rfl ?_
        refine r_goto (pc := 65) (tgt := 69) C dX10_isAhead_65 rfl ?_
        exact r_zret (pc := 69) C rfl dX10_isAhead_69 ⟨by (try simp only [Nat.add_zero] at *); simp [aheadB, c_28, c_43, c_61, okR, okK, okB, bI] <;> (intro z; omega), rfl, rfl, rfl⟩ (by decide)
    · skip
      refine r_iload (pc := 46) C 0 dX10_isAhead_46 rfl ?_
      refine r_ifle (pc := 48) (tgt := 55) C dX10_isAhead_48 rfl (fun c_48 => ?_) (fun c_48 => ?_)
      · skip
        replace c_48 := Int32.not_lt.mpr c_48
        refine r_iconst (pc := 55) (v := 0) C dX10_isAhead_55 rfl ?_
        refine r_goto (pc := 56) (tgt := 69) C dX10_isAhead_56 rfl ?_
        exact r_zret (pc := 69) C rfl dX10_isAhead_69 ⟨by (try simp only [Nat.add_zero] at *); simp [aheadB, c_28, c_43, c_48, okR, okK, okB, bI] <;> (intro z; omega), rfl, rfl, rfl⟩ (by decide)
      · skip
        replace c_48 := Int32.not_le.mp c_48
        refine r_iconst (pc := 51) (v := 1) C dX10_isAhead_51 rfl ?_
        refine r_goto (pc := 52) (tgt := 69) C dX10_isAhead_52 rfl ?_
        exact r_zret (pc := 69) C rfl dX10_isAhead_69 ⟨by (try simp only [Nat.add_zero] at *); simp [aheadB, c_28, c_43, c_48, okR, okK, okB, bI] <;> (intro z; omega), rfl, rfl, rfl⟩ (by decide)
  · skip
    refine r_iload_n (pc := 31) C 1 dX10_isAhead_31 rfl rfl ?_
    refine r_ifle (pc := 32) (tgt := 39) C dX10_isAhead_32 rfl (fun c_32 => ?_) (fun c_32 => ?_)
    · skip
      replace c_32 := Int32.not_lt.mpr c_32
      refine r_iconst (pc := 39) (v := 0) C dX10_isAhead_39 rfl ?_
      exact r_zret (pc := 40) C rfl dX10_isAhead_40 ⟨by (try simp only [Nat.add_zero] at *); simp [aheadB, c_28, c_32, okR, okK, okB, bI] <;> (intro z; omega), rfl, rfl, rfl⟩ (by decide)
    · skip
      replace c_32 := Int32.not_le.mp c_32
      refine r_iconst (pc := 35) (v := 1) C dX10_isAhead_35 rfl ?_
      refine r_goto (pc := 36) (tgt := 40) C dX10_isAhead_36 rfl ?_
      exact r_zret (pc := 40) C rfl dX10_isAhead_40 ⟨by (try simp only [Nat.add_zero] at *); simp [aheadB, c_28, c_32, okR, okK, okB, bI] <;> (intro z; omega), rfl, rfl, rfl⟩ (by decide)

set_option maxHeartbeats 1000000 in
theorem c_loanByDebt__v {g : GG} {X : va_W} {T : TT} {I : II} {M : Nat} {w : Nat → Int32} (hm : isMd T M) {x : Int32} {N : Nat} (hN : w 2 = nI N) (hN10 : N ≤ 10) {j : Nat} (hj : j < N) (hx : cntV w N j = x) (hno : ∀ i, i < j → cntV w N i ≠ x) : Mc g yX10_loanByDebt cX10_loanByDebt 5 (some .int) 6 0 0 [.ref M, .int x] X T (sr I (M + 1) w) (Ex (some (.int (w (58 + 10 * j + 0)))) X T (sr (u2 I M 0 (nI 0)) (M + 1) w)) := by
  refine Mc.of (by decide) (Nat.le_of_ble_eq_true rfl) (fun k hfl C => ?_)
  refine r_lo (lo' := [(0, _), (1, _)]) rfl ?_
  refine r_aload_n (pc := 0) C 0 dX10_loanByDebt_0 rfl rfl ?_
  refine r_iconst (pc := 1) (v := 0) C dX10_loanByDebt_1 rfl ?_
  refine r_wput (pc := 2) (by omega) C f_X10_1 hm.1 rfl rfl rfl dX10_loanByDebt_2 ?_
  refine r_iconst (pc := 5) (v := 0) C dX10_loanByDebt_5 rfl ?_
  refine r_istore_n (pc := 6) (lo' := [(2, _), (0, _), (1, _)]) C dX10_loanByDebt_6 rfl (by decide) rfl ?_
  have loop_7 : ∀ (n_7 : Nat) (q : Nat), N - q < n_7 → (q ≤ N) → (∀ i, i < q → cntV w N i ≠ x) → Go g k 5 (Qm g k (Ex (some (.int (w (58 + 10 * j + 0)))) X T (sr (u2 I M 0 (nI 0)) (M + 1) w)) 0 0) 0 0 7 [(0, .ref M), (1, .int x), (2, .int (nI q))] [] X T ((sr (u2 I M 0 (nI 0)) (M + 1) w)) := by
    intro n_7
    induction n_7 with
    | zero => intro _ h_; exact absurd h_ (Nat.not_lt_zero _)
    | succ n_7 ih_7 =>
      intro q hq hqN hinv
      refine r_iload_n (pc := 7) C 2 dX10_loanByDebt_7 rfl rfl ?_
      refine r_aload_n (pc := 8) C 0 dX10_loanByDebt_8 rfl rfl ?_
      refine r_getR (pc := 9) (x := M + 1) C f_X10_13 hm.1 rfl rfl dX10_loanByDebt_9 ?_
      refine r_iconst (pc := 12) (v := 2) C dX10_loanByDebt_12 rfl ?_
      refine r_wld (pc := 13) (x := 2) C hm.2.1 rfl (by omega) (by decide) dX10_loanByDebt_13 ?_
      refine r_t (y := nI N) hN ?_
      refine r_cgeN (pc := 14) (tgt := 75) C dX10_loanByDebt_14 rfl (by omega) (by omega) (fun c_14 => False.elim (by exact hinv j (by omega) hx)) (fun c_14 => ?_)
      refine r_iconst (pc := 17) (v := 0) C dX10_loanByDebt_17 rfl ?_
      refine r_istore_n (pc := 18) (lo' := [(3, _), (0, _), (1, _), (2, _)]) C dX10_loanByDebt_18 rfl (by decide) rfl ?_
      refine r_iconst (pc := 19) (v := 0) C dX10_loanByDebt_19 rfl ?_
      refine r_istore (pc := 20) (lo' := [(4, _), (3, _), (0, _), (1, _), (2, _)]) C dX10_loanByDebt_20 (by decide) rfl ?_
      have loop_22 : ∀ (n_22 : Nat) (v : Nat) (a : Int32), N - v < n_22 → (v ≤ N) → (sm (fun b => bI (aheadB w b q = true)) (N - v) v a = cntV w N q) → Go g k 5 (Qm g k (Ex (some (.int (w (58 + 10 * j + 0)))) X T (sr (u2 I M 0 (nI 0)) (M + 1) w)) 0 0) 0 0 22 [(0, .ref M), (1, .int x), (2, .int (nI q)), (3, .int a), (4, .int (nI v))] [] X T ((sr (u2 I M 0 (nI 0)) (M + 1) w)) := by
        intro n_22
        induction n_22 with
        | zero => intro _ _ h_; exact absurd h_ (Nat.not_lt_zero _)
        | succ n_22 ih_22 =>
          intro v a hv hvN hin2
          refine r_iload (pc := 22) C 4 dX10_loanByDebt_22 rfl ?_
          refine r_aload_n (pc := 24) C 0 dX10_loanByDebt_24 rfl rfl ?_
          refine r_getR (pc := 25) (x := M + 1) C f_X10_13 hm.1 rfl rfl dX10_loanByDebt_25 ?_
          refine r_iconst (pc := 28) (v := 2) C dX10_loanByDebt_28 rfl ?_
          refine r_wld (pc := 29) (x := 2) C hm.2.1 rfl (by omega) (by decide) dX10_loanByDebt_29 ?_
          refine r_t (y := nI N) hN ?_
          refine r_cgeN (pc := 30) (tgt := 57) C dX10_loanByDebt_30 rfl (by omega) (by omega) (fun c_30 => ?_) (fun c_30 => ?_)
          · skip
            refine r_iload_n (pc := 57) C 3 dX10_loanByDebt_57 rfl rfl ?_
            refine r_iload_n (pc := 58) C 1 dX10_loanByDebt_58 rfl rfl ?_
            refine r_cne (pc := 59) (tgt := 69) C dX10_loanByDebt_59 rfl (fun c_59 => ?_) (fun c_59 => ?_)
            · skip
              refine r_iincN (pc := 69) (m := 1) (lo' := [(2, _), (0, _), (1, _), (3, _), (4, _)]) C 2 dX10_loanByDebt_69 rfl rfl (by decide) rfl ?_
              refine r_goto (pc := 72) (tgt := 7) C dX10_loanByDebt_72 rfl ?_
              refine r_ls [1, 2, 0] rfl ?_
              exact ih_7 (q + 1) (by omega) (by omega) (lt_s hinv (fun z => c_59 ((sm_end c_30 hin2).trans z)))
            · skip
              refine r_aload_n (pc := 62) C 0 dX10_loanByDebt_62 rfl rfl ?_
              refine r_iload_n (pc := 63) C 2 dX10_loanByDebt_63 rfl rfl ?_
              refine r_iconst (pc := 64) (v := 0) C dX10_loanByDebt_64 rfl ?_
              refine r_cVi (pc := 65) C hfl k_X10_58 (c_is hm (by omega) (by omega)) hm.1 ca_X10 rfl rfl (Nat.le_of_ble_eq_true rfl) (by decide) (by decide) dX10_loanByDebt_65 ?_
              exact r_iret (pc := 68) C dX10_loanByDebt_68 ⟨congrArg (fun z => some (Value.int z)) (by rw [show q = j from (by rcases Nat.lt_trichotomy j q with h | h | h; exact absurd hx (hinv j h); exact h.symm; exact absurd ((sm_end c_30 hin2).symm.trans c_59) (hno q h))]), rfl, rfl, rfl⟩ (by decide)
          · skip
            refine r_iload_n (pc := 33) C 3 dX10_loanByDebt_33 rfl rfl ?_
            refine r_aload_n (pc := 34) C 0 dX10_loanByDebt_34 rfl rfl ?_
            refine r_iload (pc := 35) C 4 dX10_loanByDebt_35 rfl ?_
            refine r_iload_n (pc := 37) C 2 dX10_loanByDebt_37 rfl rfl ?_
            refine r_cVi (pc := 38) C hfl k_X10_208 (c_isAhead hm (by omega) (by omega)) hm.1 ca_X10 rfl rfl (Nat.le_of_ble_eq_true rfl) (by decide) (by decide) dX10_loanByDebt_38 ?_
            refine r_ifeqB (pc := 41) (tgt := 48) C dX10_loanByDebt_41 rfl (fun c_41 => ?_) (fun c_41 => ?_)
            · skip
              refine r_iconst (pc := 48) (v := 0) C dX10_loanByDebt_48 rfl ?_
              refine r_iadd (pc := 49) C dX10_loanByDebt_49 ?_
              refine r_istore_n (pc := 50) (lo' := [(3, _), (0, _), (1, _), (2, _), (4, _)]) C dX10_loanByDebt_50 rfl (by decide) rfl ?_
              refine r_iincN (pc := 51) (m := 1) (lo' := [(4, _), (3, _), (0, _), (1, _), (2, _)]) C 4 dX10_loanByDebt_51 rfl rfl (by decide) rfl ?_
              refine r_goto (pc := 54) (tgt := 22) C dX10_loanByDebt_54 rfl ?_
              refine r_ls [2, 3, 4, 1, 0] rfl ?_
              exact ih_22 (v + 1) _ (by omega) (by omega) (sm_go c_30 hin2 (bI_f c_41))
            · skip
              refine r_iconst (pc := 44) (v := 1) C dX10_loanByDebt_44 rfl ?_
              refine r_goto (pc := 45) (tgt := 49) C dX10_loanByDebt_45 rfl ?_
              refine r_iadd (pc := 49) C dX10_loanByDebt_49 ?_
              refine r_istore_n (pc := 50) (lo' := [(3, _), (0, _), (1, _), (2, _), (4, _)]) C dX10_loanByDebt_50 rfl (by decide) rfl ?_
              refine r_iincN (pc := 51) (m := 1) (lo' := [(4, _), (3, _), (0, _), (1, _), (2, _)]) C 4 dX10_loanByDebt_51 rfl rfl (by decide) rfl ?_
              refine r_goto (pc := 54) (tgt := 22) C dX10_loanByDebt_54 rfl ?_
              refine r_ls [2, 3, 4, 1, 0] rfl ?_
              exact ih_22 (v + 1) _ (by omega) (by omega) (sm_go c_30 hin2 (bI_t c_41))
      refine r_ls [2, 3, 4, 1, 0] rfl ?_
      exact loop_22 (N + 1) 0 (nI 0) (by omega) (by omega) rfl
  refine r_ls [1, 2, 0] rfl ?_
  exact loop_7 (N + 1) 0 (by omega) (by omega) (fun _ h => absurd h (by omega))

set_option maxHeartbeats 1000000 in
theorem c_loanByDebt__x {g : GG} {X : va_W} {T : TT} {I : II} {M : Nat} {w : Nat → Int32} (hm : isMd T M) {x : Int32} {N : Nat} (hN : w 2 = nI N) (hN10 : N ≤ 10) (hno : ∀ i, i < N → cntV w N i ≠ x) : Mc g yX10_loanByDebt cX10_loanByDebt 5 (some .int) 6 0 0 [.ref M, .int x] X T (sr I (M + 1) w) (Ex (some (.int (nI 0))) X T (sr (u2 I M 0 (nI 1)) (M + 1) w)) := by
  refine Mc.of (by decide) (Nat.le_of_ble_eq_true rfl) (fun k hfl C => ?_)
  refine r_lo (lo' := [(0, _), (1, _)]) rfl ?_
  refine r_aload_n (pc := 0) C 0 dX10_loanByDebt_0 rfl rfl ?_
  refine r_iconst (pc := 1) (v := 0) C dX10_loanByDebt_1 rfl ?_
  refine r_wput (pc := 2) (by omega) C f_X10_1 hm.1 rfl rfl rfl dX10_loanByDebt_2 ?_
  refine r_iconst (pc := 5) (v := 0) C dX10_loanByDebt_5 rfl ?_
  refine r_istore_n (pc := 6) (lo' := [(2, _), (0, _), (1, _)]) C dX10_loanByDebt_6 rfl (by decide) rfl ?_
  have loop_7 : ∀ (n_7 : Nat) (q : Nat), N - q < n_7 → (q ≤ N) → (∀ i, i < q → cntV w N i ≠ x) → Go g k 5 (Qm g k (Ex (some (.int (nI 0))) X T (sr (u2 I M 0 (nI 1)) (M + 1) w)) 0 0) 0 0 7 [(0, .ref M), (1, .int x), (2, .int (nI q))] [] X T ((sr (u2 I M 0 (nI 0)) (M + 1) w)) := by
    intro n_7
    induction n_7 with
    | zero => intro _ h_; exact absurd h_ (Nat.not_lt_zero _)
    | succ n_7 ih_7 =>
      intro q hq hqN hinv
      refine r_iload_n (pc := 7) C 2 dX10_loanByDebt_7 rfl rfl ?_
      refine r_aload_n (pc := 8) C 0 dX10_loanByDebt_8 rfl rfl ?_
      refine r_getR (pc := 9) (x := M + 1) C f_X10_13 hm.1 rfl rfl dX10_loanByDebt_9 ?_
      refine r_iconst (pc := 12) (v := 2) C dX10_loanByDebt_12 rfl ?_
      refine r_wld (pc := 13) (x := 2) C hm.2.1 rfl (by omega) (by decide) dX10_loanByDebt_13 ?_
      refine r_t (y := nI N) hN ?_
      refine r_cgeN (pc := 14) (tgt := 75) C dX10_loanByDebt_14 rfl (by omega) (by omega) (fun c_14 => ?_) (fun c_14 => ?_)
      · skip
        refine r_aload_n (pc := 75) C 0 dX10_loanByDebt_75 rfl rfl ?_
        refine r_iconst (pc := 76) (v := 1) C dX10_loanByDebt_76 rfl ?_
        refine r_cVi (pc := 77) C hfl k_X10_79 (c_fails hm ) hm.1 ca_X10 rfl rfl (Nat.le_of_ble_eq_true rfl) (by decide) (by decide) dX10_loanByDebt_77 ?_
        exact r_iret (pc := 80) C dX10_loanByDebt_80 ⟨rfl, rfl, rfl, by rw [u2_u2]⟩ (by decide)
      · skip
        refine r_iconst (pc := 17) (v := 0) C dX10_loanByDebt_17 rfl ?_
        refine r_istore_n (pc := 18) (lo' := [(3, _), (0, _), (1, _), (2, _)]) C dX10_loanByDebt_18 rfl (by decide) rfl ?_
        refine r_iconst (pc := 19) (v := 0) C dX10_loanByDebt_19 rfl ?_
        refine r_istore (pc := 20) (lo' := [(4, _), (3, _), (0, _), (1, _), (2, _)]) C dX10_loanByDebt_20 (by decide) rfl ?_
        have loop_22 : ∀ (n_22 : Nat) (v : Nat) (a : Int32), N - v < n_22 → (v ≤ N) → (sm (fun b => bI (aheadB w b q = true)) (N - v) v a = cntV w N q) → Go g k 5 (Qm g k (Ex (some (.int (nI 0))) X T (sr (u2 I M 0 (nI 1)) (M + 1) w)) 0 0) 0 0 22 [(0, .ref M), (1, .int x), (2, .int (nI q)), (3, .int a), (4, .int (nI v))] [] X T ((sr (u2 I M 0 (nI 0)) (M + 1) w)) := by
          intro n_22
          induction n_22 with
          | zero => intro _ _ h_; exact absurd h_ (Nat.not_lt_zero _)
          | succ n_22 ih_22 =>
            intro v a hv hvN hin2
            refine r_iload (pc := 22) C 4 dX10_loanByDebt_22 rfl ?_
            refine r_aload_n (pc := 24) C 0 dX10_loanByDebt_24 rfl rfl ?_
            refine r_getR (pc := 25) (x := M + 1) C f_X10_13 hm.1 rfl rfl dX10_loanByDebt_25 ?_
            refine r_iconst (pc := 28) (v := 2) C dX10_loanByDebt_28 rfl ?_
            refine r_wld (pc := 29) (x := 2) C hm.2.1 rfl (by omega) (by decide) dX10_loanByDebt_29 ?_
            refine r_t (y := nI N) hN ?_
            refine r_cgeN (pc := 30) (tgt := 57) C dX10_loanByDebt_30 rfl (by omega) (by omega) (fun c_30 => ?_) (fun c_30 => ?_)
            · skip
              refine r_iload_n (pc := 57) C 3 dX10_loanByDebt_57 rfl rfl ?_
              refine r_iload_n (pc := 58) C 1 dX10_loanByDebt_58 rfl rfl ?_
              refine r_cne (pc := 59) (tgt := 69) C dX10_loanByDebt_59 rfl (fun c_59 => ?_) (fun c_59 => False.elim (by exact hno q (by omega) ((sm_end c_30 hin2).symm.trans c_59)))
              refine r_iincN (pc := 69) (m := 1) (lo' := [(2, _), (0, _), (1, _), (3, _), (4, _)]) C 2 dX10_loanByDebt_69 rfl rfl (by decide) rfl ?_
              refine r_goto (pc := 72) (tgt := 7) C dX10_loanByDebt_72 rfl ?_
              refine r_ls [1, 2, 0] rfl ?_
              exact ih_7 (q + 1) (by omega) (by omega) (lt_s hinv (fun z => c_59 ((sm_end c_30 hin2).trans z)))
            · skip
              refine r_iload_n (pc := 33) C 3 dX10_loanByDebt_33 rfl rfl ?_
              refine r_aload_n (pc := 34) C 0 dX10_loanByDebt_34 rfl rfl ?_
              refine r_iload (pc := 35) C 4 dX10_loanByDebt_35 rfl ?_
              refine r_iload_n (pc := 37) C 2 dX10_loanByDebt_37 rfl rfl ?_
              refine r_cVi (pc := 38) C hfl k_X10_208 (c_isAhead hm (by omega) (by omega)) hm.1 ca_X10 rfl rfl (Nat.le_of_ble_eq_true rfl) (by decide) (by decide) dX10_loanByDebt_38 ?_
              refine r_ifeqB (pc := 41) (tgt := 48) C dX10_loanByDebt_41 rfl (fun c_41 => ?_) (fun c_41 => ?_)
              · skip
                refine r_iconst (pc := 48) (v := 0) C dX10_loanByDebt_48 rfl ?_
                refine r_iadd (pc := 49) C dX10_loanByDebt_49 ?_
                refine r_istore_n (pc := 50) (lo' := [(3, _), (0, _), (1, _), (2, _), (4, _)]) C dX10_loanByDebt_50 rfl (by decide) rfl ?_
                refine r_iincN (pc := 51) (m := 1) (lo' := [(4, _), (3, _), (0, _), (1, _), (2, _)]) C 4 dX10_loanByDebt_51 rfl rfl (by decide) rfl ?_
                refine r_goto (pc := 54) (tgt := 22) C dX10_loanByDebt_54 rfl ?_
                refine r_ls [2, 3, 4, 1, 0] rfl ?_
                exact ih_22 (v + 1) _ (by omega) (by omega) (sm_go c_30 hin2 (bI_f c_41))
              · skip
                refine r_iconst (pc := 44) (v := 1) C dX10_loanByDebt_44 rfl ?_
                refine r_goto (pc := 45) (tgt := 49) C dX10_loanByDebt_45 rfl ?_
                refine r_iadd (pc := 49) C dX10_loanByDebt_49 ?_
                refine r_istore_n (pc := 50) (lo' := [(3, _), (0, _), (1, _), (2, _), (4, _)]) C dX10_loanByDebt_50 rfl (by decide) rfl ?_
                refine r_iincN (pc := 51) (m := 1) (lo' := [(4, _), (3, _), (0, _), (1, _), (2, _)]) C 4 dX10_loanByDebt_51 rfl rfl (by decide) rfl ?_
                refine r_goto (pc := 54) (tgt := 22) C dX10_loanByDebt_54 rfl ?_
                refine r_ls [2, 3, 4, 1, 0] rfl ?_
                exact ih_22 (v + 1) _ (by omega) (by omega) (sm_go c_30 hin2 (bI_t c_41))
        refine r_ls [2, 3, 4, 1, 0] rfl ?_
        exact loop_22 (N + 1) 0 (nI 0) (by omega) (by omega) rfl
  refine r_ls [1, 2, 0] rfl ?_
  exact loop_7 (N + 1) 0 (by omega) (by omega) (fun _ h => absurd h (by omega))

set_option maxHeartbeats 1000000 in
theorem c_greatestPrincipal__x1 {g : GG} {X : va_W} {T : TT} {I : II} {M : Nat} {w : Nat → Int32} (hm : isMd T M) {b k_ u : Int32} {B : Nat} (hB : w 1 = nI B) (hB6 : B ≤ 6) (hx : ¬ (okB B b ∧ okK k_)) : Mc g yX10_greatestPrincipal cX10_greatestPrincipal 5 (some .int) 6 0 0 [.ref M, .int b, .int k_, .int u] X T (sr I (M + 1) w) (Ex (some (.int (nI 0))) X T (sr (u2 I M 0 (nI 1)) (M + 1) w)) := by
  refine Mc.of (by decide) (Nat.le_of_ble_eq_true rfl) (fun k hfl C => ?_)
  refine r_lo (lo' := [(0, _), (1, _), (2, _), (3, _)]) rfl ?_
  refine r_aload_n (pc := 0) C 0 dX10_greatestPrincipal_0 rfl rfl ?_
  refine r_iconst (pc := 1) (v := 0) C dX10_greatestPrincipal_1 rfl ?_
  refine r_wput (pc := 2) (by omega) C f_X10_1 hm.1 rfl rfl rfl dX10_greatestPrincipal_2 ?_
  refine r_aload_n (pc := 5) C 0 dX10_greatestPrincipal_5 rfl rfl ?_
  refine r_iload_n (pc := 6) C 1 dX10_greatestPrincipal_6 rfl rfl ?_
  refine r_cVi (pc := 7) C hfl k_X10_88 (c_isBorrower hm hB hB6) hm.1 ca_X10 rfl rfl (Nat.le_of_ble_eq_true rfl) (by decide) (by decide) dX10_greatestPrincipal_7 ?_
  refine r_ifeqB (pc := 10) (tgt := 20) C dX10_greatestPrincipal_10 rfl (fun c_10 => ?_) (fun c_10 => ?_)
  · skip
    refine r_aload_n (pc := 20) C 0 dX10_greatestPrincipal_20 rfl rfl ?_
    refine r_iconst (pc := 21) (v := 1) C dX10_greatestPrincipal_21 rfl ?_
    refine r_cVi (pc := 22) C hfl k_X10_79 (c_fails hm ) hm.1 ca_X10 rfl rfl (Nat.le_of_ble_eq_true rfl) (by decide) (by decide) dX10_greatestPrincipal_22 ?_
    exact r_iret (pc := 25) C dX10_greatestPrincipal_25 ⟨rfl, rfl, rfl, by rw [u2_u2]⟩ (by decide)
  · skip
    refine r_iload_n (pc := 13) C 2 dX10_greatestPrincipal_13 rfl rfl ?_
    refine r_cSi (pc := 14) C hfl k_X10_92 (c_isKind _) rfl rfl (Nat.le_of_ble_eq_true rfl) (by decide) (by decide) dX10_greatestPrincipal_14 ?_
    refine r_ifneB (pc := 17) (tgt := 26) C dX10_greatestPrincipal_17 rfl (fun c_17 => False.elim (by exact hx ⟨c_10, c_17⟩)) (fun c_17 => ?_)
    refine r_aload_n (pc := 20) C 0 dX10_greatestPrincipal_20 rfl rfl ?_
    refine r_iconst (pc := 21) (v := 1) C dX10_greatestPrincipal_21 rfl ?_
    refine r_cVi (pc := 22) C hfl k_X10_79 (c_fails hm ) hm.1 ca_X10 rfl rfl (Nat.le_of_ble_eq_true rfl) (by decide) (by decide) dX10_greatestPrincipal_22 ?_
    exact r_iret (pc := 25) C dX10_greatestPrincipal_25 ⟨rfl, rfl, rfl, by rw [u2_u2]⟩ (by decide)

set_option maxHeartbeats 1000000 in
theorem c_greatestPrincipal__x2 {g : GG} {X : va_W} {T : TT} {I : II} {M : Nat} {w : Nat → Int32} (hm : isMd T M) {b k_ u : Int32} {B : Nat} (hB : w 1 = nI B) (hB6 : B ≤ 6) (hx : okB B b ∧ okK k_) (hu : ¬ okR 1 99 u) : Mc g yX10_greatestPrincipal cX10_greatestPrincipal 5 (some .int) 6 0 0 [.ref M, .int b, .int k_, .int u] X T (sr I (M + 1) w) (Ex (some (.int (nI 0))) X T (sr (u2 I M 0 (nI 2)) (M + 1) w)) := by
  refine Mc.of (by decide) (Nat.le_of_ble_eq_true rfl) (fun k hfl C => ?_)
  refine r_lo (lo' := [(0, _), (1, _), (2, _), (3, _)]) rfl ?_
  refine r_aload_n (pc := 0) C 0 dX10_greatestPrincipal_0 rfl rfl ?_
  refine r_iconst (pc := 1) (v := 0) C dX10_greatestPrincipal_1 rfl ?_
  refine r_wput (pc := 2) (by omega) C f_X10_1 hm.1 rfl rfl rfl dX10_greatestPrincipal_2 ?_
  refine r_aload_n (pc := 5) C 0 dX10_greatestPrincipal_5 rfl rfl ?_
  refine r_iload_n (pc := 6) C 1 dX10_greatestPrincipal_6 rfl rfl ?_
  refine r_cVi (pc := 7) C hfl k_X10_88 (c_isBorrower hm hB hB6) hm.1 ca_X10 rfl rfl (Nat.le_of_ble_eq_true rfl) (by decide) (by decide) dX10_greatestPrincipal_7 ?_
  refine r_ifeqB (pc := 10) (tgt := 20) C dX10_greatestPrincipal_10 rfl (fun c_10 => False.elim (by exact c_10 hx.1)) (fun c_10 => ?_)
  refine r_iload_n (pc := 13) C 2 dX10_greatestPrincipal_13 rfl rfl ?_
  refine r_cSi (pc := 14) C hfl k_X10_92 (c_isKind _) rfl rfl (Nat.le_of_ble_eq_true rfl) (by decide) (by decide) dX10_greatestPrincipal_14 ?_
  refine r_ifneB (pc := 17) (tgt := 26) C dX10_greatestPrincipal_17 rfl (fun c_17 => ?_) (fun c_17 => False.elim (by exact c_17 hx.2))
  refine r_iload_n (pc := 26) C 3 dX10_greatestPrincipal_26 rfl rfl ?_
  refine r_iconst (pc := 27) (v := 1) C dX10_greatestPrincipal_27 rfl ?_
  refine r_bipush (pc := 28) (v := 99) C dX10_greatestPrincipal_28 rfl ?_
  refine r_cSi (pc := 30) C hfl k_X10_54 (c_isBetween _ _ _) rfl rfl (Nat.le_of_ble_eq_true rfl) (by decide) (by decide) dX10_greatestPrincipal_30 ?_
  refine r_ifneB (pc := 33) (tgt := 42) C dX10_greatestPrincipal_33 rfl (fun c_33 => False.elim (by exact hu c_33)) (fun c_33 => ?_)
  refine r_aload_n (pc := 36) C 0 dX10_greatestPrincipal_36 rfl rfl ?_
  refine r_iconst (pc := 37) (v := 2) C dX10_greatestPrincipal_37 rfl ?_
  refine r_cVi (pc := 38) C hfl k_X10_79 (c_fails hm ) hm.1 ca_X10 rfl rfl (Nat.le_of_ble_eq_true rfl) (by decide) (by decide) dX10_greatestPrincipal_38 ?_
  exact r_iret (pc := 41) C dX10_greatestPrincipal_41 ⟨rfl, rfl, rfl, by rw [u2_u2]⟩ (by decide)

set_option maxHeartbeats 1000000 in
theorem c_greatestPrincipal__v {g : GG} {X : va_W} {T : TT} {I : II} {M : Nat} {w : Nat → Int32} (hm : isMd T M) {b k_ u : Int32} {B : Nat} (hB : w 1 = nI B) (hB6 : B ≤ 6) {N : Nat} (hN : w 2 = nI N) (hN10 : N ≤ 10) (hx : okB B b ∧ okK k_) (hu : okR 1 99 u) {K : Nat} (hK : gpOk w B N b k_ u K) (h0 : 0 < K) : Mc g yX10_greatestPrincipal cX10_greatestPrincipal 5 (some .int) 6 0 0 [.ref M, .int b, .int k_, .int u] X T (sr I (M + 1) w) (Ex (some (.int (nI K))) X T (sr (u2 I M 0 (nI 0)) (M + 1) w)) := by
  refine Mc.of (by decide) (Nat.le_of_ble_eq_true rfl) (fun k hfl C => ?_)
  refine r_lo (lo' := [(0, _), (1, _), (2, _), (3, _)]) rfl ?_
  refine r_aload_n (pc := 0) C 0 dX10_greatestPrincipal_0 rfl rfl ?_
  refine r_iconst (pc := 1) (v := 0) C dX10_greatestPrincipal_1 rfl ?_
  refine r_wput (pc := 2) (by omega) C f_X10_1 hm.1 rfl rfl rfl dX10_greatestPrincipal_2 ?_
  refine r_aload_n (pc := 5) C 0 dX10_greatestPrincipal_5 rfl rfl ?_
  refine r_iload_n (pc := 6) C 1 dX10_greatestPrincipal_6 rfl rfl ?_
  refine r_cVi (pc := 7) C hfl k_X10_88 (c_isBorrower hm hB hB6) hm.1 ca_X10 rfl rfl (Nat.le_of_ble_eq_true rfl) (by decide) (by decide) dX10_greatestPrincipal_7 ?_
  refine r_ifeqB (pc := 10) (tgt := 20) C dX10_greatestPrincipal_10 rfl (fun c_10 => False.elim (by exact c_10 hx.1)) (fun c_10 => ?_)
  refine r_iload_n (pc := 13) C 2 dX10_greatestPrincipal_13 rfl rfl ?_
  refine r_cSi (pc := 14) C hfl k_X10_92 (c_isKind _) rfl rfl (Nat.le_of_ble_eq_true rfl) (by decide) (by decide) dX10_greatestPrincipal_14 ?_
  refine r_ifneB (pc := 17) (tgt := 26) C dX10_greatestPrincipal_17 rfl (fun c_17 => ?_) (fun c_17 => False.elim (by exact c_17 hx.2))
  refine r_iload_n (pc := 26) C 3 dX10_greatestPrincipal_26 rfl rfl ?_
  refine r_iconst (pc := 27) (v := 1) C dX10_greatestPrincipal_27 rfl ?_
  refine r_bipush (pc := 28) (v := 99) C dX10_greatestPrincipal_28 rfl ?_
  refine r_cSi (pc := 30) C hfl k_X10_54 (c_isBetween _ _ _) rfl rfl (Nat.le_of_ble_eq_true rfl) (by decide) (by decide) dX10_greatestPrincipal_30 ?_
  refine r_ifneB (pc := 33) (tgt := 42) C dX10_greatestPrincipal_33 rfl (fun c_33 => ?_) (fun c_33 => False.elim (by exact c_33 hu))
  refine r_sipush (pc := 42) (v := 500) C dX10_greatestPrincipal_42 rfl ?_
  refine r_istore (pc := 45) (lo' := [(4, _), (0, _), (1, _), (2, _), (3, _)]) C dX10_greatestPrincipal_45 (by decide) rfl ?_
  have loop_47 : ∀ (n_47 : Nat) (q : Nat), q < n_47 → (q ≤ 500) → (K ≤ q) → Go g k 5 (Qm g k (Ex (some (.int (nI K))) X T (sr (u2 I M 0 (nI 0)) (M + 1) w)) 0 0) 0 0 47 [(0, .ref M), (1, .int b), (2, .int k_), (3, .int u), (4, .int (nI q))] [] X T ((sr (u2 I M 0 (nI 0)) (M + 1) w)) := by
    intro n_47
    induction n_47 with
    | zero => intro _ h_; exact absurd h_ (Nat.not_lt_zero _)
    | succ n_47 ih_47 =>
      intro q hq hqN hinv
      refine r_iload (pc := 47) C 4 dX10_greatestPrincipal_47 rfl ?_
      refine r_ifleN (pc := 49) (tgt := 71) C dX10_greatestPrincipal_49 rfl (by omega) (fun c_49 => False.elim (by omega)) (fun c_49 => ?_)
      refine r_aload_n (pc := 52) C 0 dX10_greatestPrincipal_52 rfl rfl ?_
      refine r_iload_n (pc := 53) C 1 dX10_greatestPrincipal_53 rfl rfl ?_
      refine r_iload_n (pc := 54) C 2 dX10_greatestPrincipal_54 rfl rfl ?_
      refine r_iload_n (pc := 55) C 3 dX10_greatestPrincipal_55 rfl rfl ?_
      refine r_iload (pc := 56) C 4 dX10_greatestPrincipal_56 rfl ?_
      refine r_iconst (pc := 58) (v := 1) C dX10_greatestPrincipal_58 rfl ?_
      refine r_cVi (pc := 59) C hfl k_X10_114 (c_notLend hm hB hB6 hN hN10) hm.1 ca_X10 rfl rfl (Nat.le_of_ble_eq_true rfl) (by decide) (by decide) dX10_greatestPrincipal_59 ?_
      refine r_ifeq (pc := 62) (tgt := 71) C dX10_greatestPrincipal_62 rfl (fun c_62 => ?_) (fun c_62 => ?_)
      · skip
        refine r_iload (pc := 71) C 4 dX10_greatestPrincipal_71 rfl ?_
        refine r_ifneN (pc := 73) (tgt := 84) C dX10_greatestPrincipal_73 rfl (by omega) (fun c_73 => ?_) (fun c_73 => False.elim (by omega))
        refine r_iload (pc := 84) C 4 dX10_greatestPrincipal_84 rfl ?_
        exact r_iret (pc := 86) C dX10_greatestPrincipal_86 ⟨congrArg (fun z => some (Value.int z)) (congrArg nI (by rcases Nat.lt_or_ge K q with h | h; exact absurd (nI0 c_62) (hK.2.2 q h hqN); omega)), rfl, rfl, rfl⟩ (by decide)
      · skip
        refine r_idec (pc := 65) (lo' := [(4, _), (0, _), (1, _), (2, _), (3, _)]) C 4 dX10_greatestPrincipal_65 rfl rfl (by omega) (by decide) rfl ?_
        refine r_goto (pc := 68) (tgt := 47) C dX10_greatestPrincipal_68 rfl ?_
        refine r_ls [1, 2, 3, 4, 0] rfl ?_
        exact ih_47 (q - 1) (by omega) (by omega) (by rcases hK.2.1 with h | h; omega; have : q ≠ K := fun z => c_62 (by rw [z, h]; rfl); omega)
  refine r_ls [1, 2, 3, 4, 0] rfl ?_
  exact loop_47 501 500 (by omega) (by omega) hK.1

set_option maxHeartbeats 1000000 in
theorem c_greatestPrincipal__x3 {g : GG} {X : va_W} {T : TT} {I : II} {M : Nat} {w : Nat → Int32} (hm : isMd T M) {b k_ u : Int32} {B : Nat} (hB : w 1 = nI B) (hB6 : B ≤ 6) {N : Nat} (hN : w 2 = nI N) (hN10 : N ≤ 10) (hx : okB B b ∧ okK k_) (hu : okR 1 99 u) (hK : ∀ p, 0 < p → p ≤ 500 → fLend w B N b k_ u (nI p) (nI 1) ≠ 0) : Mc g yX10_greatestPrincipal cX10_greatestPrincipal 5 (some .int) 6 0 0 [.ref M, .int b, .int k_, .int u] X T (sr I (M + 1) w) (Ex (some (.int (nI 0))) X T (sr (u2 I M 0 (nI 3)) (M + 1) w)) := by
  refine Mc.of (by decide) (Nat.le_of_ble_eq_true rfl) (fun k hfl C => ?_)
  refine r_lo (lo' := [(0, _), (1, _), (2, _), (3, _)]) rfl ?_
  refine r_aload_n (pc := 0) C 0 dX10_greatestPrincipal_0 rfl rfl ?_
  refine r_iconst (pc := 1) (v := 0) C dX10_greatestPrincipal_1 rfl ?_
  refine r_wput (pc := 2) (by omega) C f_X10_1 hm.1 rfl rfl rfl dX10_greatestPrincipal_2 ?_
  refine r_aload_n (pc := 5) C 0 dX10_greatestPrincipal_5 rfl rfl ?_
  refine r_iload_n (pc := 6) C 1 dX10_greatestPrincipal_6 rfl rfl ?_
  refine r_cVi (pc := 7) C hfl k_X10_88 (c_isBorrower hm hB hB6) hm.1 ca_X10 rfl rfl (Nat.le_of_ble_eq_true rfl) (by decide) (by decide) dX10_greatestPrincipal_7 ?_
  refine r_ifeqB (pc := 10) (tgt := 20) C dX10_greatestPrincipal_10 rfl (fun c_10 => False.elim (by exact c_10 hx.1)) (fun c_10 => ?_)
  refine r_iload_n (pc := 13) C 2 dX10_greatestPrincipal_13 rfl rfl ?_
  refine r_cSi (pc := 14) C hfl k_X10_92 (c_isKind _) rfl rfl (Nat.le_of_ble_eq_true rfl) (by decide) (by decide) dX10_greatestPrincipal_14 ?_
  refine r_ifneB (pc := 17) (tgt := 26) C dX10_greatestPrincipal_17 rfl (fun c_17 => ?_) (fun c_17 => False.elim (by exact c_17 hx.2))
  refine r_iload_n (pc := 26) C 3 dX10_greatestPrincipal_26 rfl rfl ?_
  refine r_iconst (pc := 27) (v := 1) C dX10_greatestPrincipal_27 rfl ?_
  refine r_bipush (pc := 28) (v := 99) C dX10_greatestPrincipal_28 rfl ?_
  refine r_cSi (pc := 30) C hfl k_X10_54 (c_isBetween _ _ _) rfl rfl (Nat.le_of_ble_eq_true rfl) (by decide) (by decide) dX10_greatestPrincipal_30 ?_
  refine r_ifneB (pc := 33) (tgt := 42) C dX10_greatestPrincipal_33 rfl (fun c_33 => ?_) (fun c_33 => False.elim (by exact c_33 hu))
  refine r_sipush (pc := 42) (v := 500) C dX10_greatestPrincipal_42 rfl ?_
  refine r_istore (pc := 45) (lo' := [(4, _), (0, _), (1, _), (2, _), (3, _)]) C dX10_greatestPrincipal_45 (by decide) rfl ?_
  have loop_47 : ∀ (n_47 : Nat) (q : Nat), q < n_47 → (q ≤ 500) → Go g k 5 (Qm g k (Ex (some (.int (nI 0))) X T (sr (u2 I M 0 (nI 3)) (M + 1) w)) 0 0) 0 0 47 [(0, .ref M), (1, .int b), (2, .int k_), (3, .int u), (4, .int (nI q))] [] X T ((sr (u2 I M 0 (nI 0)) (M + 1) w)) := by
    intro n_47
    induction n_47 with
    | zero => intro _ h_; exact absurd h_ (Nat.not_lt_zero _)
    | succ n_47 ih_47 =>
      intro q hq hqN
      refine r_iload (pc := 47) C 4 dX10_greatestPrincipal_47 rfl ?_
      refine r_ifleN (pc := 49) (tgt := 71) C dX10_greatestPrincipal_49 rfl (by omega) (fun c_49 => ?_) (fun c_49 => ?_)
      · skip
        refine r_iload (pc := 71) C 4 dX10_greatestPrincipal_71 rfl ?_
        refine r_ifneN (pc := 73) (tgt := 84) C dX10_greatestPrincipal_73 rfl (by omega) (fun c_73 => False.elim (by omega)) (fun c_73 => ?_)
        refine r_aload_n (pc := 76) C 0 dX10_greatestPrincipal_76 rfl rfl ?_
        refine r_iconst (pc := 77) (v := 3) C dX10_greatestPrincipal_77 rfl ?_
        refine r_cVi (pc := 78) C hfl k_X10_79 (c_fails hm ) hm.1 ca_X10 rfl rfl (Nat.le_of_ble_eq_true rfl) (by decide) (by decide) dX10_greatestPrincipal_78 ?_
        refine r_goto (pc := 81) (tgt := 86) C dX10_greatestPrincipal_81 rfl ?_
        exact r_iret (pc := 86) C dX10_greatestPrincipal_86 ⟨rfl, rfl, rfl, by rw [u2_u2]⟩ (by decide)
      · skip
        refine r_aload_n (pc := 52) C 0 dX10_greatestPrincipal_52 rfl rfl ?_
        refine r_iload_n (pc := 53) C 1 dX10_greatestPrincipal_53 rfl rfl ?_
        refine r_iload_n (pc := 54) C 2 dX10_greatestPrincipal_54 rfl rfl ?_
        refine r_iload_n (pc := 55) C 3 dX10_greatestPrincipal_55 rfl rfl ?_
        refine r_iload (pc := 56) C 4 dX10_greatestPrincipal_56 rfl ?_
        refine r_iconst (pc := 58) (v := 1) C dX10_greatestPrincipal_58 rfl ?_
        refine r_cVi (pc := 59) C hfl k_X10_114 (c_notLend hm hB hB6 hN hN10) hm.1 ca_X10 rfl rfl (Nat.le_of_ble_eq_true rfl) (by decide) (by decide) dX10_greatestPrincipal_59 ?_
        refine r_ifeq (pc := 62) (tgt := 71) C dX10_greatestPrincipal_62 rfl (fun c_62 => False.elim (by exact hK q c_49 hqN (nI0 c_62))) (fun c_62 => ?_)
        refine r_idec (pc := 65) (lo' := [(4, _), (0, _), (1, _), (2, _), (3, _)]) C 4 dX10_greatestPrincipal_65 rfl rfl (by omega) (by decide) rfl ?_
        refine r_goto (pc := 68) (tgt := 47) C dX10_greatestPrincipal_68 rfl ?_
        refine r_ls [1, 2, 3, 4, 0] rfl ?_
        exact ih_47 (q - 1) (by omega) (by omega)
  refine r_ls [1, 2, 3, 4, 0] rfl ?_
  exact loop_47 501 500 (by omega) (by omega)
