theorem c_repays2 {g : GG} {X : va_W} {T : TT} {I : II} {M : Nat} {w : Nat → Int32} (hm : isMd T M) {id c r : Int32} {b : Nat} {N : Nat} (hN : w 2 = nI N) (hN10 : N ≤ 10) {s : Nat} (hs : s < N) (hr : atS w N id (nI s)) {E : Nat} (hE : w 5 = nI E) (hE20 : E ≤ 20) (hb : b < 6) (hw : w (58 + 10 * s + 1) = nI b) (hre : atE (rpB w s b c) E (w 0) id r) : Mc g yX10_repays cX10_repays 6 (some .int) 4 0 0 [.ref M, .int id, .int c] X T (sr I (M + 1) w) (Ex (some (.int (debtV (rpC w E s b id c r) s))) X T (sr I (M + 1) (rpV w N E s b id c r))) :=
  c_repays hm hN hN10 hs hr hE hE20 hb hw hre (fun j hj => rpC_n hE20 hb (by omega) (by omega) (by omega) (by omega) (by omega) (by omega) (atE_or hE20 hre))

set_option maxHeartbeats 1000000 in
theorem c_addBorrower__x {g : GG} {X : va_W} {T : TT} {I : II} {M : Nat} {w : Nat → Int32} (hm : isMd T M) {cn : Int32} {B : Nat} (hB : w 1 = nI B) (hB6 : B ≤ 6) (h0 : fBorrower B cn ≠ 0) : Mc g yX10_addBorrower cX10_addBorrower 3 (some .int) 6 0 0 [.ref M, .int cn] X T (sr I (M + 1) w) (Ex (some (.int (nI 0))) X T (sr (u2 I M 0 (nI (fBorrower B cn))) (M + 1) w)) := by
  refine Mc.of (by decide) (Nat.le_of_ble_eq_true rfl) (fun k hfl C => ?_)
  refine r_lo (lo' := [(0, _), (1, _)]) rfl ?_
  refine r_aload_n (pc := 0) C 0 dX10_addBorrower_0 rfl rfl ?_
  refine r_iconst (pc := 1) (v := 0) C dX10_addBorrower_1 rfl ?_
  refine r_wput (pc := 2) (by omega) C f_X10_1 hm.1 rfl rfl rfl dX10_addBorrower_2 ?_
  refine r_aload_n (pc := 5) C 0 dX10_addBorrower_5 rfl rfl ?_
  refine r_iload_n (pc := 6) C 1 dX10_addBorrower_6 rfl rfl ?_
  refine r_cVi (pc := 7) C hfl k_X10_76 (c_notBorrower hm hB hB6) hm.1 ca_X10 rfl rfl (Nat.le_of_ble_eq_true rfl) (by decide) (by decide) dX10_addBorrower_7 ?_
  refine r_istore_n (pc := 10) (lo' := [(2, _), (0, _), (1, _)]) C dX10_addBorrower_10 rfl (by decide) rfl ?_
  refine r_iload_n (pc := 11) C 0 dX10_addBorrower_11 rfl rfl ?_
  refine r_ifeqN (pc := 12) (tgt := 21) C dX10_addBorrower_12 rfl (by have := fBorrower_le B cn; omega) (fun c_12 => False.elim (by omega)) (fun c_12 => ?_)
  refine r_aload_n (pc := 15) C 1 dX10_addBorrower_15 rfl rfl ?_
  refine r_iload_n (pc := 16) C 0 dX10_addBorrower_16 rfl rfl ?_
  refine r_cVi (pc := 17) C hfl k_X10_79 (c_fails hm ) hm.1 ca_X10 rfl rfl (Nat.le_of_ble_eq_true rfl) (by decide) (by decide) dX10_addBorrower_17 ?_
  exact r_iret (pc := 20) C dX10_addBorrower_20 ⟨rfl, rfl, rfl, by rw [u2_u2]⟩ (by decide)

set_option maxHeartbeats 1000000 in
theorem c_addBorrower__o {g : GG} {X : va_W} {T : TT} {I : II} {M : Nat} {w : Nat → Int32} (hm : isMd T M) {cn : Int32} {B : Nat} (hB : w 1 = nI B) (hB6 : B ≤ 6) (hB5 : B < 6) (h0 : fBorrower B cn = 0) {c f : Nat} (hc : I M 5 = nI c) (hf : I M 6 = nI f) (hf8 : f < 8) (hc8 : c ≤ 8) : Mc g yX10_addBorrower cX10_addBorrower 3 (some .int) 6 0 0 [.ref M, .int cn] X T (sr I (M + 1) w) (Ex (some (.int (nI B))) X T (sr (rmF (u2 I M 0 (nI 0)) M w c f) (M + 1) (abV w B cn))) := by
  refine Mc.of (by decide) (Nat.le_of_ble_eq_true rfl) (fun k hfl C => ?_)
  refine r_lo (lo' := [(0, _), (1, _)]) rfl ?_
  refine r_aload_n (pc := 0) C 0 dX10_addBorrower_0 rfl rfl ?_
  refine r_iconst (pc := 1) (v := 0) C dX10_addBorrower_1 rfl ?_
  refine r_wput (pc := 2) (by omega) C f_X10_1 hm.1 rfl rfl rfl dX10_addBorrower_2 ?_
  refine r_aload_n (pc := 5) C 0 dX10_addBorrower_5 rfl rfl ?_
  refine r_iload_n (pc := 6) C 1 dX10_addBorrower_6 rfl rfl ?_
  refine r_cVi (pc := 7) C hfl k_X10_76 (c_notBorrower hm hB hB6) hm.1 ca_X10 rfl rfl (Nat.le_of_ble_eq_true rfl) (by decide) (by decide) dX10_addBorrower_7 ?_
  refine r_istore_n (pc := 10) (lo' := [(2, _), (0, _), (1, _)]) C dX10_addBorrower_10 rfl (by decide) rfl ?_
  refine r_iload_n (pc := 11) C 0 dX10_addBorrower_11 rfl rfl ?_
  refine r_ifeqN (pc := 12) (tgt := 21) C dX10_addBorrower_12 rfl (by have := fBorrower_le B cn; omega) (fun c_12 => ?_) (fun c_12 => False.elim (by omega))
  refine r_aload_n (pc := 21) C 1 dX10_addBorrower_21 rfl rfl ?_
  refine r_cVv (pc := 22) C hfl k_X10_82 (c_rem hm ((u2_o (by decide)).trans hc) ((u2_o (by decide)).trans hf) hf8 hc8) hm.1 ca_X10 rfl rfl (Nat.le_of_ble_eq_true rfl) (by decide) (by decide) dX10_addBorrower_22 ?_
  refine r_aload_n (pc := 25) C 1 dX10_addBorrower_25 rfl rfl ?_
  refine r_iload_n (pc := 26) C 2 dX10_addBorrower_26 rfl rfl ?_
  refine r_cVi (pc := 27) C hfl k_X10_85 (c_addsBorrower hm hB (by omega)) hm.1 ca_X10 rfl rfl (Nat.le_of_ble_eq_true rfl) (by decide) (by decide) dX10_addBorrower_27 ?_
  exact r_iret (pc := 30) C dX10_addBorrower_30 ⟨rfl, rfl, rfl, rfl⟩ (by decide)

set_option maxHeartbeats 1000000 in
theorem c_bring__x {g : GG} {X : va_W} {T : TT} {I : II} {M : Nat} {w : Nat → Int32} (hm : isMd T M) {b k_ u : Int32} {B : Nat} (hB : w 1 = nI B) (hB6 : B ≤ 6) (h0 : fBring w B b k_ u ≠ 0) : Mc g yX10_bring cX10_bring 5 (some .int) 6 0 0 [.ref M, .int b, .int k_, .int u] X T (sr I (M + 1) w) (Ex (some (.int (nI 0))) X T (sr (u2 I M 0 (nI (fBring w B b k_ u))) (M + 1) w)) := by
  refine Mc.of (by decide) (Nat.le_of_ble_eq_true rfl) (fun k hfl C => ?_)
  refine r_lo (lo' := [(0, _), (1, _), (2, _), (3, _)]) rfl ?_
  refine r_aload_n (pc := 0) C 0 dX10_bring_0 rfl rfl ?_
  refine r_iconst (pc := 1) (v := 0) C dX10_bring_1 rfl ?_
  refine r_wput (pc := 2) (by omega) C f_X10_1 hm.1 rfl rfl rfl dX10_bring_2 ?_
  refine r_aload_n (pc := 5) C 0 dX10_bring_5 rfl rfl ?_
  refine r_iload_n (pc := 6) C 1 dX10_bring_6 rfl rfl ?_
  refine r_iload_n (pc := 7) C 2 dX10_bring_7 rfl rfl ?_
  refine r_iload_n (pc := 8) C 3 dX10_bring_8 rfl rfl ?_
  refine r_cVi (pc := 9) C hfl k_X10_98 (c_notBring hm hB hB6) hm.1 ca_X10 rfl rfl (Nat.le_of_ble_eq_true rfl) (by decide) (by decide) dX10_bring_9 ?_
  refine r_istore (pc := 12) (lo' := [(4, _), (0, _), (1, _), (2, _), (3, _)]) C dX10_bring_12 (by decide) rfl ?_
  refine r_iload (pc := 14) C 0 dX10_bring_14 rfl ?_
  refine r_ifeqN (pc := 16) (tgt := 26) C dX10_bring_16 rfl (by have := fBring_le w B b k_ u; omega) (fun c_16 => False.elim (by omega)) (fun c_16 => ?_)
  refine r_aload_n (pc := 19) C 1 dX10_bring_19 rfl rfl ?_
  refine r_iload (pc := 20) C 0 dX10_bring_20 rfl ?_
  refine r_cVi (pc := 22) C hfl k_X10_79 (c_fails hm ) hm.1 ca_X10 rfl rfl (Nat.le_of_ble_eq_true rfl) (by decide) (by decide) dX10_bring_22 ?_
  exact r_iret (pc := 25) C dX10_bring_25 ⟨rfl, rfl, rfl, by rw [u2_u2]⟩ (by decide)

set_option maxHeartbeats 1000000 in
theorem c_bring__o {g : GG} {X : va_W} {T : TT} {I : II} {M : Nat} {w : Nat → Int32} (hm : isMd T M) {n m : Nat} {u : Int32} {B : Nat} (hB : w 1 = nI B) (hB6 : B ≤ 6) (hn : n < 6) (hm4 : m < 4) (h0 : fBring w B (nI n) (nI m) u = 0) {c f : Nat} (hc : I M 5 = nI c) (hf : I M 6 = nI f) (hf8 : f < 8) (hc8 : c ≤ 8) : Mc g yX10_bring cX10_bring 5 (some .int) 6 0 0 [.ref M, .int (nI n), .int (nI m), .int u] X T (sr I (M + 1) w) (Ex (some (.int (w (22 + 6 * n + (2 + m)) + u))) X T (sr (rmF (u2 I M 0 (nI 0)) M w c f) (M + 1) (brV w n m u))) := by
  refine Mc.of (by decide) (Nat.le_of_ble_eq_true rfl) (fun k hfl C => ?_)
  refine r_lo (lo' := [(0, _), (1, _), (2, _), (3, _)]) rfl ?_
  refine r_aload_n (pc := 0) C 0 dX10_bring_0 rfl rfl ?_
  refine r_iconst (pc := 1) (v := 0) C dX10_bring_1 rfl ?_
  refine r_wput (pc := 2) (by omega) C f_X10_1 hm.1 rfl rfl rfl dX10_bring_2 ?_
  refine r_aload_n (pc := 5) C 0 dX10_bring_5 rfl rfl ?_
  refine r_iload_n (pc := 6) C 1 dX10_bring_6 rfl rfl ?_
  refine r_iload_n (pc := 7) C 2 dX10_bring_7 rfl rfl ?_
  refine r_iload_n (pc := 8) C 3 dX10_bring_8 rfl rfl ?_
  refine r_cVi (pc := 9) C hfl k_X10_98 (c_notBring hm hB hB6) hm.1 ca_X10 rfl rfl (Nat.le_of_ble_eq_true rfl) (by decide) (by decide) dX10_bring_9 ?_
  refine r_istore (pc := 12) (lo' := [(4, _), (0, _), (1, _), (2, _), (3, _)]) C dX10_bring_12 (by decide) rfl ?_
  refine r_iload (pc := 14) C 0 dX10_bring_14 rfl ?_
  refine r_ifeqN (pc := 16) (tgt := 26) C dX10_bring_16 rfl (by have := fBring_le w B (nI n) (nI m) u; omega) (fun c_16 => ?_) (fun c_16 => False.elim (by omega))
  refine r_aload_n (pc := 26) C 1 dX10_bring_26 rfl rfl ?_
  refine r_cVv (pc := 27) C hfl k_X10_82 (c_rem hm ((u2_o (by decide)).trans hc) ((u2_o (by decide)).trans hf) hf8 hc8) hm.1 ca_X10 rfl rfl (Nat.le_of_ble_eq_true rfl) (by decide) (by decide) dX10_bring_27 ?_
  refine r_aload_n (pc := 30) C 1 dX10_bring_30 rfl rfl ?_
  refine r_iload_n (pc := 31) C 2 dX10_bring_31 rfl rfl ?_
  refine r_iload_n (pc := 32) C 3 dX10_bring_32 rfl rfl ?_
  refine r_iload_n (pc := 33) C 4 dX10_bring_33 rfl rfl ?_
  refine r_cVi (pc := 34) C hfl k_X10_102 (c_brings hm (by omega) hm4) hm.1 ca_X10 rfl rfl (Nat.le_of_ble_eq_true rfl) (by decide) (by decide) dX10_bring_34 ?_
  exact r_iret (pc := 37) C dX10_bring_37 ⟨rfl, rfl, rfl, rfl⟩ (by decide)

set_option maxHeartbeats 1000000 in
theorem c_setPrice__x {g : GG} {X : va_W} {T : TT} {I : II} {M : Nat} {w : Nat → Int32} (hm : isMd T M) {k_ p : Int32}  (h0 : fPrice k_ p ≠ 0) : Mc g yX10_setPrice cX10_setPrice 4 (some .int) 6 0 0 [.ref M, .int k_, .int p] X T (sr I (M + 1) w) (Ex (some (.int (nI 0))) X T (sr (u2 I M 0 (nI (fPrice k_ p))) (M + 1) w)) := by
  refine Mc.of (by decide) (Nat.le_of_ble_eq_true rfl) (fun k hfl C => ?_)
  refine r_lo (lo' := [(0, _), (1, _), (2, _)]) rfl ?_
  refine r_aload_n (pc := 0) C 0 dX10_setPrice_0 rfl rfl ?_
  refine r_iconst (pc := 1) (v := 0) C dX10_setPrice_1 rfl ?_
  refine r_wput (pc := 2) (by omega) C f_X10_1 hm.1 rfl rfl rfl dX10_setPrice_2 ?_
  refine r_iload_n (pc := 5) C 1 dX10_setPrice_5 rfl rfl ?_
  refine r_iload_n (pc := 6) C 2 dX10_setPrice_6 rfl rfl ?_
  refine r_cSi (pc := 7) C hfl k_X10_105 (c_notPrice _ _) rfl rfl (Nat.le_of_ble_eq_true rfl) (by decide) (by decide) dX10_setPrice_7 ?_
  refine r_istore_n (pc := 10) (lo' := [(3, _), (0, _), (1, _), (2, _)]) C dX10_setPrice_10 rfl (by decide) rfl ?_
  refine r_iload_n (pc := 11) C 0 dX10_setPrice_11 rfl rfl ?_
  refine r_ifeqN (pc := 12) (tgt := 21) C dX10_setPrice_12 rfl (by have := fPrice_le k_ p; omega) (fun c_12 => False.elim (by omega)) (fun c_12 => ?_)
  refine r_aload_n (pc := 15) C 1 dX10_setPrice_15 rfl rfl ?_
  refine r_iload_n (pc := 16) C 0 dX10_setPrice_16 rfl rfl ?_
  refine r_cVi (pc := 17) C hfl k_X10_79 (c_fails hm ) hm.1 ca_X10 rfl rfl (Nat.le_of_ble_eq_true rfl) (by decide) (by decide) dX10_setPrice_17 ?_
  exact r_iret (pc := 20) C dX10_setPrice_20 ⟨rfl, rfl, rfl, by rw [u2_u2]⟩ (by decide)

set_option maxHeartbeats 1000000 in
theorem c_setPrice__o {g : GG} {X : va_W} {T : TT} {I : II} {M : Nat} {w : Nat → Int32} (hm : isMd T M) {m : Nat} {p : Int32} (hm4 : m < 4) (h0 : fPrice (nI m) p = 0) {c f : Nat} (hc : I M 5 = nI c) (hf : I M 6 = nI f) (hf8 : f < 8) (hc8 : c ≤ 8) : Mc g yX10_setPrice cX10_setPrice 4 (some .int) 6 0 0 [.ref M, .int (nI m), .int p] X T (sr I (M + 1) w) (Ex (some (.int (w (10 + m)))) X T (sr (rmF (u2 I M 0 (nI 0)) M w c f) (M + 1) (upd w (10 + m) p))) := by
  refine Mc.of (by decide) (Nat.le_of_ble_eq_true rfl) (fun k hfl C => ?_)
  refine r_lo (lo' := [(0, _), (1, _), (2, _)]) rfl ?_
  refine r_aload_n (pc := 0) C 0 dX10_setPrice_0 rfl rfl ?_
  refine r_iconst (pc := 1) (v := 0) C dX10_setPrice_1 rfl ?_
  refine r_wput (pc := 2) (by omega) C f_X10_1 hm.1 rfl rfl rfl dX10_setPrice_2 ?_
  refine r_iload_n (pc := 5) C 1 dX10_setPrice_5 rfl rfl ?_
  refine r_iload_n (pc := 6) C 2 dX10_setPrice_6 rfl rfl ?_
  refine r_cSi (pc := 7) C hfl k_X10_105 (c_notPrice _ _) rfl rfl (Nat.le_of_ble_eq_true rfl) (by decide) (by decide) dX10_setPrice_7 ?_
  refine r_istore_n (pc := 10) (lo' := [(3, _), (0, _), (1, _), (2, _)]) C dX10_setPrice_10 rfl (by decide) rfl ?_
  refine r_iload_n (pc := 11) C 0 dX10_setPrice_11 rfl rfl ?_
  refine r_ifeqN (pc := 12) (tgt := 21) C dX10_setPrice_12 rfl (by have := fPrice_le (nI m) p; omega) (fun c_12 => ?_) (fun c_12 => False.elim (by omega))
  refine r_aload_n (pc := 21) C 1 dX10_setPrice_21 rfl rfl ?_
  refine r_cVv (pc := 22) C hfl k_X10_82 (c_rem hm ((u2_o (by decide)).trans hc) ((u2_o (by decide)).trans hf) hf8 hc8) hm.1 ca_X10 rfl rfl (Nat.le_of_ble_eq_true rfl) (by decide) (by decide) dX10_setPrice_22 ?_
  refine r_aload_n (pc := 25) C 1 dX10_setPrice_25 rfl rfl ?_
  refine r_iload_n (pc := 26) C 2 dX10_setPrice_26 rfl rfl ?_
  refine r_iload_n (pc := 27) C 3 dX10_setPrice_27 rfl rfl ?_
  refine r_cVi (pc := 28) C hfl k_X10_108 (c_setsPrice hm hm4) hm.1 ca_X10 rfl rfl (Nat.le_of_ble_eq_true rfl) (by decide) (by decide) dX10_setPrice_28 ?_
  exact r_iret (pc := 31) C dX10_setPrice_31 ⟨rfl, rfl, rfl, rfl⟩ (by decide)

set_option maxHeartbeats 1000000 in
theorem c_lend__x {g : GG} {X : va_W} {T : TT} {I : II} {M : Nat} {w : Nat → Int32} (hm : isMd T M) {b k_ u p t : Int32} {B : Nat} (hB : w 1 = nI B) (hB6 : B ≤ 6) {N : Nat} (hN : w 2 = nI N) (hN10 : N ≤ 10) (h0 : fLend w B N b k_ u p t ≠ 0) : Mc g yX10_lend cX10_lend 7 (some .int) 6 0 0 [.ref M, .int b, .int k_, .int u, .int p, .int t] X T (sr I (M + 1) w) (Ex (some (.int (nI 0))) X T (sr (u2 I M 0 (nI (fLend w B N b k_ u p t))) (M + 1) w)) := by
  refine Mc.of (by decide) (Nat.le_of_ble_eq_true rfl) (fun k hfl C => ?_)
  refine r_lo (lo' := [(0, _), (1, _), (2, _), (3, _), (4, _), (5, _)]) rfl ?_
  refine r_aload_n (pc := 0) C 0 dX10_lend_0 rfl rfl ?_
  refine r_iconst (pc := 1) (v := 0) C dX10_lend_1 rfl ?_
  refine r_wput (pc := 2) (by omega) C f_X10_1 hm.1 rfl rfl rfl dX10_lend_2 ?_
  refine r_aload_n (pc := 5) C 0 dX10_lend_5 rfl rfl ?_
  refine r_iload_n (pc := 6) C 1 dX10_lend_6 rfl rfl ?_
  refine r_iload_n (pc := 7) C 2 dX10_lend_7 rfl rfl ?_
  refine r_iload_n (pc := 8) C 3 dX10_lend_8 rfl rfl ?_
  refine r_iload (pc := 9) C 4 dX10_lend_9 rfl ?_
  refine r_iload (pc := 11) C 5 dX10_lend_11 rfl ?_
  refine r_cVi (pc := 13) C hfl k_X10_114 (c_notLend hm hB hB6 hN hN10) hm.1 ca_X10 rfl rfl (Nat.le_of_ble_eq_true rfl) (by decide) (by decide) dX10_lend_13 ?_
  refine r_istore (pc := 16) (lo' := [(6, _), (0, _), (1, _), (2, _), (3, _), (4, _), (5, _)]) C dX10_lend_16 (by decide) rfl ?_
  refine r_iload (pc := 18) C 0 dX10_lend_18 rfl ?_
  refine r_ifeqN (pc := 20) (tgt := 30) C dX10_lend_20 rfl (by have := fLend_le w B N b k_ u p t; omega) (fun c_20 => False.elim (by omega)) (fun c_20 => ?_)
  refine r_aload_n (pc := 23) C 1 dX10_lend_23 rfl rfl ?_
  refine r_iload (pc := 24) C 0 dX10_lend_24 rfl ?_
  refine r_cVi (pc := 26) C hfl k_X10_79 (c_fails hm ) hm.1 ca_X10 rfl rfl (Nat.le_of_ble_eq_true rfl) (by decide) (by decide) dX10_lend_26 ?_
  exact r_iret (pc := 29) C dX10_lend_29 ⟨rfl, rfl, rfl, by rw [u2_u2]⟩ (by decide)

set_option maxHeartbeats 1000000 in
theorem c_lend__o {g : GG} {X : va_W} {T : TT} {I : II} {M : Nat} {w : Nat → Int32} (hm : isMd T M) {n m : Nat} {u p t : Int32} {B : Nat} (hB : w 1 = nI B) (hB6 : B ≤ 6) {N : Nat} (hN : w 2 = nI N) (hN10 : N < 10) (hn : n < 6) (hm4 : m < 4) (h0 : fLend w B N (nI n) (nI m) u p t = 0) {c f : Nat} (hc : I M 5 = nI c) (hf : I M 6 = nI f) (hf8 : f < 8) (hc8 : c ≤ 8) : Mc g yX10_lend cX10_lend 7 (some .int) 6 0 0 [.ref M, .int (nI n), .int (nI m), .int u, .int p, .int t] X T (sr I (M + 1) w) (Ex (some (.int (w 3))) X T (sr (rmF (u2 I M 0 (nI 0)) M w c f) (M + 1) (ldV w N n m u p t))) := by
  refine Mc.of (by decide) (Nat.le_of_ble_eq_true rfl) (fun k hfl C => ?_)
  refine r_lo (lo' := [(0, _), (1, _), (2, _), (3, _), (4, _), (5, _)]) rfl ?_
  refine r_aload_n (pc := 0) C 0 dX10_lend_0 rfl rfl ?_
  refine r_iconst (pc := 1) (v := 0) C dX10_lend_1 rfl ?_
  refine r_wput (pc := 2) (by omega) C f_X10_1 hm.1 rfl rfl rfl dX10_lend_2 ?_
  refine r_aload_n (pc := 5) C 0 dX10_lend_5 rfl rfl ?_
  refine r_iload_n (pc := 6) C 1 dX10_lend_6 rfl rfl ?_
  refine r_iload_n (pc := 7) C 2 dX10_lend_7 rfl rfl ?_
  refine r_iload_n (pc := 8) C 3 dX10_lend_8 rfl rfl ?_
  refine r_iload (pc := 9) C 4 dX10_lend_9 rfl ?_
  refine r_iload (pc := 11) C 5 dX10_lend_11 rfl ?_
  refine r_cVi (pc := 13) C hfl k_X10_114 (c_notLend hm hB hB6 hN (by omega)) hm.1 ca_X10 rfl rfl (Nat.le_of_ble_eq_true rfl) (by decide) (by decide) dX10_lend_13 ?_
  refine r_istore (pc := 16) (lo' := [(6, _), (0, _), (1, _), (2, _), (3, _), (4, _), (5, _)]) C dX10_lend_16 (by decide) rfl ?_
  refine r_iload (pc := 18) C 0 dX10_lend_18 rfl ?_
  refine r_ifeqN (pc := 20) (tgt := 30) C dX10_lend_20 rfl (by have := fLend_le w B N (nI n) (nI m) u p t; omega) (fun c_20 => ?_) (fun c_20 => False.elim (by omega))
  refine r_aload_n (pc := 30) C 1 dX10_lend_30 rfl rfl ?_
  refine r_cVv (pc := 31) C hfl k_X10_82 (c_rem hm ((u2_o (by decide)).trans hc) ((u2_o (by decide)).trans hf) hf8 hc8) hm.1 ca_X10 rfl rfl (Nat.le_of_ble_eq_true rfl) (by decide) (by decide) dX10_lend_31 ?_
  refine r_aload_n (pc := 34) C 1 dX10_lend_34 rfl rfl ?_
  refine r_iload_n (pc := 35) C 2 dX10_lend_35 rfl rfl ?_
  refine r_iload_n (pc := 36) C 3 dX10_lend_36 rfl rfl ?_
  refine r_iload_n (pc := 37) C 4 dX10_lend_37 rfl rfl ?_
  refine r_iload (pc := 38) C 5 dX10_lend_38 rfl ?_
  refine r_iload (pc := 40) C 6 dX10_lend_40 rfl ?_
  refine r_cVi (pc := 42) C hfl k_X10_118 (c_lends hm hN (by omega) hn hm4) hm.1 ca_X10 rfl rfl (Nat.le_of_ble_eq_true rfl) (by decide) (by decide) dX10_lend_42 ?_
  exact r_iret (pc := 45) C dX10_lend_45 ⟨rfl, rfl, rfl, rfl⟩ (by decide)

set_option maxHeartbeats 1000000 in
theorem c_pledge__x {g : GG} {X : va_W} {T : TT} {I : II} {M : Nat} {w : Nat → Int32} (hm : isMd T M) {id k_ u : Int32} {N : Nat} (hN : w 2 = nI N) (hN10 : N ≤ 10) (hr : atS w N id (-1)) (h0 : fPledge w (-1) k_ u ≠ 0) : Mc g yX10_pledge cX10_pledge 5 (some .int) 6 0 0 [.ref M, .int id, .int k_, .int u] X T (sr I (M + 1) w) (Ex (some (.int (nI 0))) X T (sr (u2 I M 0 (nI (fPledge w (-1) k_ u))) (M + 1) w)) := by
  refine Mc.of (by decide) (Nat.le_of_ble_eq_true rfl) (fun k hfl C => ?_)
  refine r_lo (lo' := [(0, _), (1, _), (2, _), (3, _)]) rfl ?_
  refine r_aload_n (pc := 0) C 0 dX10_pledge_0 rfl rfl ?_
  refine r_iconst (pc := 1) (v := 0) C dX10_pledge_1 rfl ?_
  refine r_wput (pc := 2) (by omega) C f_X10_1 hm.1 rfl rfl rfl dX10_pledge_2 ?_
  refine r_aload_n (pc := 5) C 0 dX10_pledge_5 rfl rfl ?_
  refine r_iload_n (pc := 6) C 1 dX10_pledge_6 rfl rfl ?_
  refine r_iload_n (pc := 7) C 2 dX10_pledge_7 rfl rfl ?_
  refine r_iload_n (pc := 8) C 3 dX10_pledge_8 rfl rfl ?_
  refine r_cVi (pc := 9) C hfl k_X10_124 (c_notPledge__n hm hN hN10 hr) hm.1 ca_X10 rfl rfl (Nat.le_of_ble_eq_true rfl) (by decide) (by decide) dX10_pledge_9 ?_
  refine r_istore (pc := 12) (lo' := [(4, _), (0, _), (1, _), (2, _), (3, _)]) C dX10_pledge_12 (by decide) rfl ?_
  refine r_iload (pc := 14) C 0 dX10_pledge_14 rfl ?_
  refine r_ifeqN (pc := 16) (tgt := 26) C dX10_pledge_16 rfl (by have := fPledge_le w (-1) k_ u; omega) (fun c_16 => False.elim (by omega)) (fun c_16 => ?_)
  refine r_aload_n (pc := 19) C 1 dX10_pledge_19 rfl rfl ?_
  refine r_iload (pc := 20) C 0 dX10_pledge_20 rfl ?_
  refine r_cVi (pc := 22) C hfl k_X10_79 (c_fails hm ) hm.1 ca_X10 rfl rfl (Nat.le_of_ble_eq_true rfl) (by decide) (by decide) dX10_pledge_22 ?_
  exact r_iret (pc := 25) C dX10_pledge_25 ⟨rfl, rfl, rfl, by rw [u2_u2]⟩ (by decide)

set_option maxHeartbeats 1000000 in
theorem c_pledge__o {g : GG} {X : va_W} {T : TT} {I : II} {M : Nat} {w : Nat → Int32} (hm : isMd T M) {id u : Int32} {m b : Nat} {N : Nat} (hN : w 2 = nI N) (hN10 : N ≤ 10) {s : Nat} (hs : s < N) (hr : atS w N id (nI s)) (hb : b < 6) (hw : w (58 + 10 * s + 1) = nI b) (hm4 : m < 4) (h0 : fPledge w (nI s) (nI m) u = 0) {c f : Nat} (hc : I M 5 = nI c) (hf : I M 6 = nI f) (hf8 : f < 8) (hc8 : c ≤ 8) : Mc g yX10_pledge cX10_pledge 5 (some .int) 6 0 0 [.ref M, .int id, .int (nI m), .int u] X T (sr I (M + 1) w) (Ex (some (.int (valV (pgV w s b m u) s))) X T (sr (rmF (u2 I M 0 (nI 0)) M w c f) (M + 1) (pgV w s b m u))) := by
  refine Mc.of (by decide) (Nat.le_of_ble_eq_true rfl) (fun k hfl C => ?_)
  refine r_lo (lo' := [(0, _), (1, _), (2, _), (3, _)]) rfl ?_
  refine r_aload_n (pc := 0) C 0 dX10_pledge_0 rfl rfl ?_
  refine r_iconst (pc := 1) (v := 0) C dX10_pledge_1 rfl ?_
  refine r_wput (pc := 2) (by omega) C f_X10_1 hm.1 rfl rfl rfl dX10_pledge_2 ?_
  refine r_aload_n (pc := 5) C 0 dX10_pledge_5 rfl rfl ?_
  refine r_iload_n (pc := 6) C 1 dX10_pledge_6 rfl rfl ?_
  refine r_iload_n (pc := 7) C 2 dX10_pledge_7 rfl rfl ?_
  refine r_iload_n (pc := 8) C 3 dX10_pledge_8 rfl rfl ?_
  refine r_cVi (pc := 9) C hfl k_X10_124 (c_notPledge__s hm hN hN10 hs hb hw hr) hm.1 ca_X10 rfl rfl (Nat.le_of_ble_eq_true rfl) (by decide) (by decide) dX10_pledge_9 ?_
  refine r_istore (pc := 12) (lo' := [(4, _), (0, _), (1, _), (2, _), (3, _)]) C dX10_pledge_12 (by decide) rfl ?_
  refine r_iload (pc := 14) C 0 dX10_pledge_14 rfl ?_
  refine r_ifeqN (pc := 16) (tgt := 26) C dX10_pledge_16 rfl (by have := fPledge_le w (nI s) (nI m) u; omega) (fun c_16 => ?_) (fun c_16 => False.elim (by omega))
  refine r_aload_n (pc := 26) C 1 dX10_pledge_26 rfl rfl ?_
  refine r_cVv (pc := 27) C hfl k_X10_82 (c_rem hm ((u2_o (by decide)).trans hc) ((u2_o (by decide)).trans hf) hf8 hc8) hm.1 ca_X10 rfl rfl (Nat.le_of_ble_eq_true rfl) (by decide) (by decide) dX10_pledge_27 ?_
  refine r_aload_n (pc := 30) C 1 dX10_pledge_30 rfl rfl ?_
  refine r_iload_n (pc := 31) C 2 dX10_pledge_31 rfl rfl ?_
  refine r_iload_n (pc := 32) C 3 dX10_pledge_32 rfl rfl ?_
  refine r_iload_n (pc := 33) C 4 dX10_pledge_33 rfl rfl ?_
  refine r_cVi (pc := 34) C hfl k_X10_127 (c_pledges hm hN hN10 hs hr hb hw hm4) hm.1 ca_X10 rfl rfl (Nat.le_of_ble_eq_true rfl) (by decide) (by decide) dX10_pledge_34 ?_
  exact r_iret (pc := 37) C dX10_pledge_37 ⟨rfl, rfl, rfl, rfl⟩ (by decide)

set_option maxHeartbeats 1000000 in
theorem c_pledge__y {g : GG} {X : va_W} {T : TT} {I : II} {M : Nat} {w : Nat → Int32} (hm : isMd T M) {id k_ u : Int32} {b : Nat} {N : Nat} (hN : w 2 = nI N) (hN10 : N ≤ 10) {s : Nat} (hs : s < N) (hr : atS w N id (nI s)) (hb : b < 6) (hw : w (58 + 10 * s + 1) = nI b) (h0 : fPledge w (nI s) k_ u ≠ 0) : Mc g yX10_pledge cX10_pledge 5 (some .int) 6 0 0 [.ref M, .int id, .int k_, .int u] X T (sr I (M + 1) w) (Ex (some (.int (nI 0))) X T (sr (u2 I M 0 (nI (fPledge w (nI s) k_ u))) (M + 1) w)) := by
  refine Mc.of (by decide) (Nat.le_of_ble_eq_true rfl) (fun k hfl C => ?_)
  refine r_lo (lo' := [(0, _), (1, _), (2, _), (3, _)]) rfl ?_
  refine r_aload_n (pc := 0) C 0 dX10_pledge_0 rfl rfl ?_
  refine r_iconst (pc := 1) (v := 0) C dX10_pledge_1 rfl ?_
  refine r_wput (pc := 2) (by omega) C f_X10_1 hm.1 rfl rfl rfl dX10_pledge_2 ?_
  refine r_aload_n (pc := 5) C 0 dX10_pledge_5 rfl rfl ?_
  refine r_iload_n (pc := 6) C 1 dX10_pledge_6 rfl rfl ?_
  refine r_iload_n (pc := 7) C 2 dX10_pledge_7 rfl rfl ?_
  refine r_iload_n (pc := 8) C 3 dX10_pledge_8 rfl rfl ?_
  refine r_cVi (pc := 9) C hfl k_X10_124 (c_notPledge__s hm hN hN10 hs hb hw hr) hm.1 ca_X10 rfl rfl (Nat.le_of_ble_eq_true rfl) (by decide) (by decide) dX10_pledge_9 ?_
  refine r_istore (pc := 12) (lo' := [(4, _), (0, _), (1, _), (2, _), (3, _)]) C dX10_pledge_12 (by decide) rfl ?_
  refine r_iload (pc := 14) C 0 dX10_pledge_14 rfl ?_
  refine r_ifeqN (pc := 16) (tgt := 26) C dX10_pledge_16 rfl (by have := fPledge_le w (nI s) k_ u; omega) (fun c_16 => False.elim (by omega)) (fun c_16 => ?_)
  refine r_aload_n (pc := 19) C 1 dX10_pledge_19 rfl rfl ?_
  refine r_iload (pc := 20) C 0 dX10_pledge_20 rfl ?_
  refine r_cVi (pc := 22) C hfl k_X10_79 (c_fails hm ) hm.1 ca_X10 rfl rfl (Nat.le_of_ble_eq_true rfl) (by decide) (by decide) dX10_pledge_22 ?_
  exact r_iret (pc := 25) C dX10_pledge_25 ⟨rfl, rfl, rfl, by rw [u2_u2]⟩ (by decide)

set_option maxHeartbeats 1000000 in
theorem c_release__x {g : GG} {X : va_W} {T : TT} {I : II} {M : Nat} {w : Nat → Int32} (hm : isMd T M) {id k_ u : Int32} {N : Nat} (hN : w 2 = nI N) (hN10 : N ≤ 10) (hr : atS w N id (-1)) (h0 : fRelease w (-1) k_ u ≠ 0) : Mc g yX10_release cX10_release 5 (some .int) 6 0 0 [.ref M, .int id, .int k_, .int u] X T (sr I (M + 1) w) (Ex (some (.int (nI 0))) X T (sr (u2 I M 0 (nI (fRelease w (-1) k_ u))) (M + 1) w)) := by
  refine Mc.of (by decide) (Nat.le_of_ble_eq_true rfl) (fun k hfl C => ?_)
  refine r_lo (lo' := [(0, _), (1, _), (2, _), (3, _)]) rfl ?_
  refine r_aload_n (pc := 0) C 0 dX10_release_0 rfl rfl ?_
  refine r_iconst (pc := 1) (v := 0) C dX10_release_1 rfl ?_
  refine r_wput (pc := 2) (by omega) C f_X10_1 hm.1 rfl rfl rfl dX10_release_2 ?_
  refine r_aload_n (pc := 5) C 0 dX10_release_5 rfl rfl ?_
  refine r_iload_n (pc := 6) C 1 dX10_release_6 rfl rfl ?_
  refine r_iload_n (pc := 7) C 2 dX10_release_7 rfl rfl ?_
  refine r_iload_n (pc := 8) C 3 dX10_release_8 rfl rfl ?_
  refine r_cVi (pc := 9) C hfl k_X10_130 (c_notRelease__n hm hN hN10 hr) hm.1 ca_X10 rfl rfl (Nat.le_of_ble_eq_true rfl) (by decide) (by decide) dX10_release_9 ?_
  refine r_istore (pc := 12) (lo' := [(4, _), (0, _), (1, _), (2, _), (3, _)]) C dX10_release_12 (by decide) rfl ?_
  refine r_iload (pc := 14) C 0 dX10_release_14 rfl ?_
  refine r_ifeqN (pc := 16) (tgt := 26) C dX10_release_16 rfl (by have := fRelease_le w (-1) k_ u; omega) (fun c_16 => False.elim (by omega)) (fun c_16 => ?_)
  refine r_aload_n (pc := 19) C 1 dX10_release_19 rfl rfl ?_
  refine r_iload (pc := 20) C 0 dX10_release_20 rfl ?_
  refine r_cVi (pc := 22) C hfl k_X10_79 (c_fails hm ) hm.1 ca_X10 rfl rfl (Nat.le_of_ble_eq_true rfl) (by decide) (by decide) dX10_release_22 ?_
  exact r_iret (pc := 25) C dX10_release_25 ⟨rfl, rfl, rfl, by rw [u2_u2]⟩ (by decide)

set_option maxHeartbeats 1000000 in
theorem c_release__o {g : GG} {X : va_W} {T : TT} {I : II} {M : Nat} {w : Nat → Int32} (hm : isMd T M) {id u : Int32} {m b : Nat} {N : Nat} (hN : w 2 = nI N) (hN10 : N ≤ 10) {s : Nat} (hs : s < N) (hr : atS w N id (nI s)) (hb : b < 6) (hw : w (58 + 10 * s + 1) = nI b) (hm4 : m < 4) (h0 : fRelease w (nI s) (nI m) u = 0) {c f : Nat} (hc : I M 5 = nI c) (hf : I M 6 = nI f) (hf8 : f < 8) (hc8 : c ≤ 8) : Mc g yX10_release cX10_release 5 (some .int) 6 0 0 [.ref M, .int id, .int (nI m), .int u] X T (sr I (M + 1) w) (Ex (some (.int (valV (pgV w s b m (-u)) s))) X T (sr (rmF (u2 I M 0 (nI 0)) M w c f) (M + 1) (pgV w s b m (-u)))) := by
  refine Mc.of (by decide) (Nat.le_of_ble_eq_true rfl) (fun k hfl C => ?_)
  refine r_lo (lo' := [(0, _), (1, _), (2, _), (3, _)]) rfl ?_
  refine r_aload_n (pc := 0) C 0 dX10_release_0 rfl rfl ?_
  refine r_iconst (pc := 1) (v := 0) C dX10_release_1 rfl ?_
  refine r_wput (pc := 2) (by omega) C f_X10_1 hm.1 rfl rfl rfl dX10_release_2 ?_
  refine r_aload_n (pc := 5) C 0 dX10_release_5 rfl rfl ?_
  refine r_iload_n (pc := 6) C 1 dX10_release_6 rfl rfl ?_
  refine r_iload_n (pc := 7) C 2 dX10_release_7 rfl rfl ?_
  refine r_iload_n (pc := 8) C 3 dX10_release_8 rfl rfl ?_
  refine r_cVi (pc := 9) C hfl k_X10_130 (c_notRelease__s hm hN hN10 hs hr) hm.1 ca_X10 rfl rfl (Nat.le_of_ble_eq_true rfl) (by decide) (by decide) dX10_release_9 ?_
  refine r_istore (pc := 12) (lo' := [(4, _), (0, _), (1, _), (2, _), (3, _)]) C dX10_release_12 (by decide) rfl ?_
  refine r_iload (pc := 14) C 0 dX10_release_14 rfl ?_
  refine r_ifeqN (pc := 16) (tgt := 26) C dX10_release_16 rfl (by have := fRelease_le w (nI s) (nI m) u; omega) (fun c_16 => ?_) (fun c_16 => False.elim (by omega))
  refine r_aload_n (pc := 26) C 1 dX10_release_26 rfl rfl ?_
  refine r_cVv (pc := 27) C hfl k_X10_82 (c_rem hm ((u2_o (by decide)).trans hc) ((u2_o (by decide)).trans hf) hf8 hc8) hm.1 ca_X10 rfl rfl (Nat.le_of_ble_eq_true rfl) (by decide) (by decide) dX10_release_27 ?_
  refine r_aload_n (pc := 30) C 1 dX10_release_30 rfl rfl ?_
  refine r_iload_n (pc := 31) C 2 dX10_release_31 rfl rfl ?_
  refine r_iload_n (pc := 32) C 3 dX10_release_32 rfl rfl ?_
  refine r_iload_n (pc := 33) C 4 dX10_release_33 rfl rfl ?_
  refine r_ineg (pc := 34) C dX10_release_34 ?_
  refine r_cVi (pc := 35) C hfl k_X10_127 (c_pledges hm hN hN10 hs hr hb hw hm4) hm.1 ca_X10 rfl rfl (Nat.le_of_ble_eq_true rfl) (by decide) (by decide) dX10_release_35 ?_
  exact r_iret (pc := 38) C dX10_release_38 ⟨rfl, rfl, rfl, rfl⟩ (by decide)

set_option maxHeartbeats 1000000 in
theorem c_release__y {g : GG} {X : va_W} {T : TT} {I : II} {M : Nat} {w : Nat → Int32} (hm : isMd T M) {id k_ u : Int32} {N : Nat} (hN : w 2 = nI N) (hN10 : N ≤ 10) {s : Nat} (hs : s < N) (hr : atS w N id (nI s)) (h0 : fRelease w (nI s) k_ u ≠ 0) : Mc g yX10_release cX10_release 5 (some .int) 6 0 0 [.ref M, .int id, .int k_, .int u] X T (sr I (M + 1) w) (Ex (some (.int (nI 0))) X T (sr (u2 I M 0 (nI (fRelease w (nI s) k_ u))) (M + 1) w)) := by
  refine Mc.of (by decide) (Nat.le_of_ble_eq_true rfl) (fun k hfl C => ?_)
  refine r_lo (lo' := [(0, _), (1, _), (2, _), (3, _)]) rfl ?_
  refine r_aload_n (pc := 0) C 0 dX10_release_0 rfl rfl ?_
  refine r_iconst (pc := 1) (v := 0) C dX10_release_1 rfl ?_
  refine r_wput (pc := 2) (by omega) C f_X10_1 hm.1 rfl rfl rfl dX10_release_2 ?_
  refine r_aload_n (pc := 5) C 0 dX10_release_5 rfl rfl ?_
  refine r_iload_n (pc := 6) C 1 dX10_release_6 rfl rfl ?_
  refine r_iload_n (pc := 7) C 2 dX10_release_7 rfl rfl ?_
  refine r_iload_n (pc := 8) C 3 dX10_release_8 rfl rfl ?_
  refine r_cVi (pc := 9) C hfl k_X10_130 (c_notRelease__s hm hN hN10 hs hr) hm.1 ca_X10 rfl rfl (Nat.le_of_ble_eq_true rfl) (by decide) (by decide) dX10_release_9 ?_
  refine r_istore (pc := 12) (lo' := [(4, _), (0, _), (1, _), (2, _), (3, _)]) C dX10_release_12 (by decide) rfl ?_
  refine r_iload (pc := 14) C 0 dX10_release_14 rfl ?_
  refine r_ifeqN (pc := 16) (tgt := 26) C dX10_release_16 rfl (by have := fRelease_le w (nI s) k_ u; omega) (fun c_16 => False.elim (by omega)) (fun c_16 => ?_)
  refine r_aload_n (pc := 19) C 1 dX10_release_19 rfl rfl ?_
  refine r_iload (pc := 20) C 0 dX10_release_20 rfl ?_
  refine r_cVi (pc := 22) C hfl k_X10_79 (c_fails hm ) hm.1 ca_X10 rfl rfl (Nat.le_of_ble_eq_true rfl) (by decide) (by decide) dX10_release_22 ?_
  exact r_iret (pc := 25) C dX10_release_25 ⟨rfl, rfl, rfl, by rw [u2_u2]⟩ (by decide)

set_option maxHeartbeats 1000000 in
theorem c_repay__x {g : GG} {X : va_W} {T : TT} {I : II} {M : Nat} {w : Nat → Int32} (hm : isMd T M) {id cn : Int32} {N : Nat} (hN : w 2 = nI N) (hN10 : N ≤ 10) (hr : atS w N id (-1)) (h0 : fRepay w (-1) cn ≠ 0) : Mc g yX10_repay cX10_repay 4 (some .int) 6 0 0 [.ref M, .int id, .int cn] X T (sr I (M + 1) w) (Ex (some (.int (nI 0))) X T (sr (u2 I M 0 (nI (fRepay w (-1) cn))) (M + 1) w)) := by
  refine Mc.of (by decide) (Nat.le_of_ble_eq_true rfl) (fun k hfl C => ?_)
  refine r_lo (lo' := [(0, _), (1, _), (2, _)]) rfl ?_
  refine r_aload_n (pc := 0) C 0 dX10_repay_0 rfl rfl ?_
  refine r_iconst (pc := 1) (v := 0) C dX10_repay_1 rfl ?_
  refine r_wput (pc := 2) (by omega) C f_X10_1 hm.1 rfl rfl rfl dX10_repay_2 ?_
  refine r_aload_n (pc := 5) C 0 dX10_repay_5 rfl rfl ?_
  refine r_iload_n (pc := 6) C 1 dX10_repay_6 rfl rfl ?_
  refine r_iload_n (pc := 7) C 2 dX10_repay_7 rfl rfl ?_
  refine r_cVi (pc := 8) C hfl k_X10_150 (c_notRepay__n hm hN hN10 hr) hm.1 ca_X10 rfl rfl (Nat.le_of_ble_eq_true rfl) (by decide) (by decide) dX10_repay_8 ?_
  refine r_istore_n (pc := 11) (lo' := [(3, _), (0, _), (1, _), (2, _)]) C dX10_repay_11 rfl (by decide) rfl ?_
  refine r_iload_n (pc := 12) C 0 dX10_repay_12 rfl rfl ?_
  refine r_ifeqN (pc := 13) (tgt := 22) C dX10_repay_13 rfl (by have := fRepay_le w (-1) cn; omega) (fun c_13 => False.elim (by omega)) (fun c_13 => ?_)
  refine r_aload_n (pc := 16) C 1 dX10_repay_16 rfl rfl ?_
  refine r_iload_n (pc := 17) C 0 dX10_repay_17 rfl rfl ?_
  refine r_cVi (pc := 18) C hfl k_X10_79 (c_fails hm ) hm.1 ca_X10 rfl rfl (Nat.le_of_ble_eq_true rfl) (by decide) (by decide) dX10_repay_18 ?_
  exact r_iret (pc := 21) C dX10_repay_21 ⟨rfl, rfl, rfl, by rw [u2_u2]⟩ (by decide)

set_option maxHeartbeats 1000000 in
theorem c_repay__o {g : GG} {X : va_W} {T : TT} {I : II} {M : Nat} {w : Nat → Int32} (hm : isMd T M) {id cn r : Int32} {b : Nat} {N : Nat} (hN : w 2 = nI N) (hN10 : N ≤ 10) {s : Nat} (hs : s < N) (hr : atS w N id (nI s)) (hb : b < 6) (hw : w (58 + 10 * s + 1) = nI b) {E : Nat} (hE : w 5 = nI E) (hE20 : E ≤ 20) (hre : atE (rpB w s b cn) E (w 0) id r) (h0 : fRepay w (nI s) cn = 0) {c f : Nat} (hc : I M 5 = nI c) (hf : I M 6 = nI f) (hf8 : f < 8) (hc8 : c ≤ 8) : Mc g yX10_repay cX10_repay 4 (some .int) 6 0 0 [.ref M, .int id, .int cn] X T (sr I (M + 1) w) (Ex (some (.int (debtV (rpC w E s b id cn r) s))) X T (sr (rmF (u2 I M 0 (nI 0)) M w c f) (M + 1) (rpV w N E s b id cn r))) := by
  refine Mc.of (by decide) (Nat.le_of_ble_eq_true rfl) (fun k hfl C => ?_)
  refine r_lo (lo' := [(0, _), (1, _), (2, _)]) rfl ?_
  refine r_aload_n (pc := 0) C 0 dX10_repay_0 rfl rfl ?_
  refine r_iconst (pc := 1) (v := 0) C dX10_repay_1 rfl ?_
  refine r_wput (pc := 2) (by omega) C f_X10_1 hm.1 rfl rfl rfl dX10_repay_2 ?_
  refine r_aload_n (pc := 5) C 0 dX10_repay_5 rfl rfl ?_
  refine r_iload_n (pc := 6) C 1 dX10_repay_6 rfl rfl ?_
  refine r_iload_n (pc := 7) C 2 dX10_repay_7 rfl rfl ?_
  refine r_cVi (pc := 8) C hfl k_X10_150 (c_notRepay__s hm hN hN10 hs hb hw hr) hm.1 ca_X10 rfl rfl (Nat.le_of_ble_eq_true rfl) (by decide) (by decide) dX10_repay_8 ?_
  refine r_istore_n (pc := 11) (lo' := [(3, _), (0, _), (1, _), (2, _)]) C dX10_repay_11 rfl (by decide) rfl ?_
  refine r_iload_n (pc := 12) C 0 dX10_repay_12 rfl rfl ?_
  refine r_ifeqN (pc := 13) (tgt := 22) C dX10_repay_13 rfl (by have := fRepay_le w (nI s) cn; omega) (fun c_13 => ?_) (fun c_13 => False.elim (by omega))
  refine r_aload_n (pc := 22) C 1 dX10_repay_22 rfl rfl ?_
  refine r_cVv (pc := 23) C hfl k_X10_82 (c_rem hm ((u2_o (by decide)).trans hc) ((u2_o (by decide)).trans hf) hf8 hc8) hm.1 ca_X10 rfl rfl (Nat.le_of_ble_eq_true rfl) (by decide) (by decide) dX10_repay_23 ?_
  refine r_aload_n (pc := 26) C 1 dX10_repay_26 rfl rfl ?_
  refine r_iload_n (pc := 27) C 2 dX10_repay_27 rfl rfl ?_
  refine r_iload_n (pc := 28) C 3 dX10_repay_28 rfl rfl ?_
  refine r_cVi (pc := 29) C hfl k_X10_153 (c_repays2 hm hN hN10 hs hr hE hE20 hb hw hre) hm.1 ca_X10 rfl rfl (Nat.le_of_ble_eq_true rfl) (by decide) (by decide) dX10_repay_29 ?_
  exact r_iret (pc := 32) C dX10_repay_32 ⟨rfl, rfl, rfl, rfl⟩ (by decide)

set_option maxHeartbeats 1000000 in
theorem c_repay__y {g : GG} {X : va_W} {T : TT} {I : II} {M : Nat} {w : Nat → Int32} (hm : isMd T M) {id cn : Int32} {b : Nat} {N : Nat} (hN : w 2 = nI N) (hN10 : N ≤ 10) {s : Nat} (hs : s < N) (hr : atS w N id (nI s)) (hb : b < 6) (hw : w (58 + 10 * s + 1) = nI b) (h0 : fRepay w (nI s) cn ≠ 0) : Mc g yX10_repay cX10_repay 4 (some .int) 6 0 0 [.ref M, .int id, .int cn] X T (sr I (M + 1) w) (Ex (some (.int (nI 0))) X T (sr (u2 I M 0 (nI (fRepay w (nI s) cn))) (M + 1) w)) := by
  refine Mc.of (by decide) (Nat.le_of_ble_eq_true rfl) (fun k hfl C => ?_)
  refine r_lo (lo' := [(0, _), (1, _), (2, _)]) rfl ?_
  refine r_aload_n (pc := 0) C 0 dX10_repay_0 rfl rfl ?_
  refine r_iconst (pc := 1) (v := 0) C dX10_repay_1 rfl ?_
  refine r_wput (pc := 2) (by omega) C f_X10_1 hm.1 rfl rfl rfl dX10_repay_2 ?_
  refine r_aload_n (pc := 5) C 0 dX10_repay_5 rfl rfl ?_
  refine r_iload_n (pc := 6) C 1 dX10_repay_6 rfl rfl ?_
  refine r_iload_n (pc := 7) C 2 dX10_repay_7 rfl rfl ?_
  refine r_cVi (pc := 8) C hfl k_X10_150 (c_notRepay__s hm hN hN10 hs hb hw hr) hm.1 ca_X10 rfl rfl (Nat.le_of_ble_eq_true rfl) (by decide) (by decide) dX10_repay_8 ?_
  refine r_istore_n (pc := 11) (lo' := [(3, _), (0, _), (1, _), (2, _)]) C dX10_repay_11 rfl (by decide) rfl ?_
  refine r_iload_n (pc := 12) C 0 dX10_repay_12 rfl rfl ?_
  refine r_ifeqN (pc := 13) (tgt := 22) C dX10_repay_13 rfl (by have := fRepay_le w (nI s) cn; omega) (fun c_13 => False.elim (by omega)) (fun c_13 => ?_)
  refine r_aload_n (pc := 16) C 1 dX10_repay_16 rfl rfl ?_
  refine r_iload_n (pc := 17) C 0 dX10_repay_17 rfl rfl ?_
  refine r_cVi (pc := 18) C hfl k_X10_79 (c_fails hm ) hm.1 ca_X10 rfl rfl (Nat.le_of_ble_eq_true rfl) (by decide) (by decide) dX10_repay_18 ?_
  exact r_iret (pc := 21) C dX10_repay_21 ⟨rfl, rfl, rfl, by rw [u2_u2]⟩ (by decide)

set_option maxHeartbeats 1000000 in
theorem c_buy__x {g : GG} {X : va_W} {T : TT} {I : II} {M : Nat} {w : Nat → Int32} (hm : isMd T M) {b k_ u : Int32} {B : Nat} (hB : w 1 = nI B) (hB6 : B ≤ 6) (h0 : fBuy w B b k_ u ≠ 0) : Mc g yX10_buy cX10_buy 5 (some .int) 6 0 0 [.ref M, .int b, .int k_, .int u] X T (sr I (M + 1) w) (Ex (some (.int (nI 0))) X T (sr (u2 I M 0 (nI (fBuy w B b k_ u))) (M + 1) w)) := by
  refine Mc.of (by decide) (Nat.le_of_ble_eq_true rfl) (fun k hfl C => ?_)
  refine r_lo (lo' := [(0, _), (1, _), (2, _), (3, _)]) rfl ?_
  refine r_aload_n (pc := 0) C 0 dX10_buy_0 rfl rfl ?_
  refine r_iconst (pc := 1) (v := 0) C dX10_buy_1 rfl ?_
  refine r_wput (pc := 2) (by omega) C f_X10_1 hm.1 rfl rfl rfl dX10_buy_2 ?_
  refine r_aload_n (pc := 5) C 0 dX10_buy_5 rfl rfl ?_
  refine r_iload_n (pc := 6) C 1 dX10_buy_6 rfl rfl ?_
  refine r_iload_n (pc := 7) C 2 dX10_buy_7 rfl rfl ?_
  refine r_iload_n (pc := 8) C 3 dX10_buy_8 rfl rfl ?_
  refine r_cVi (pc := 9) C hfl k_X10_156 (c_notBuy hm hB hB6) hm.1 ca_X10 rfl rfl (Nat.le_of_ble_eq_true rfl) (by decide) (by decide) dX10_buy_9 ?_
  refine r_istore (pc := 12) (lo' := [(4, _), (0, _), (1, _), (2, _), (3, _)]) C dX10_buy_12 (by decide) rfl ?_
  refine r_iload (pc := 14) C 0 dX10_buy_14 rfl ?_
  refine r_ifeqN (pc := 16) (tgt := 26) C dX10_buy_16 rfl (by have := fBuy_le w B b k_ u; omega) (fun c_16 => False.elim (by omega)) (fun c_16 => ?_)
  refine r_aload_n (pc := 19) C 1 dX10_buy_19 rfl rfl ?_
  refine r_iload (pc := 20) C 0 dX10_buy_20 rfl ?_
  refine r_cVi (pc := 22) C hfl k_X10_79 (c_fails hm ) hm.1 ca_X10 rfl rfl (Nat.le_of_ble_eq_true rfl) (by decide) (by decide) dX10_buy_22 ?_
  exact r_iret (pc := 25) C dX10_buy_25 ⟨rfl, rfl, rfl, by rw [u2_u2]⟩ (by decide)

set_option maxHeartbeats 1000000 in
theorem c_buy__o {g : GG} {X : va_W} {T : TT} {I : II} {M : Nat} {w : Nat → Int32} (hm : isMd T M) {n m : Nat} {u : Int32} {B : Nat} (hB : w 1 = nI B) (hB6 : B ≤ 6) (hn : n < 6) (hm4 : m < 4) (h0 : fBuy w B (nI n) (nI m) u = 0) {c f : Nat} (hc : I M 5 = nI c) (hf : I M 6 = nI f) (hf8 : f < 8) (hc8 : c ≤ 8) : Mc g yX10_buy cX10_buy 5 (some .int) 6 0 0 [.ref M, .int (nI n), .int (nI m), .int u] X T (sr I (M + 1) w) (Ex (some (.int (u * w (10 + m)))) X T (sr (rmF (u2 I M 0 (nI 0)) M w c f) (M + 1) (buV w n m u))) := by
  refine Mc.of (by decide) (Nat.le_of_ble_eq_true rfl) (fun k hfl C => ?_)
  refine r_lo (lo' := [(0, _), (1, _), (2, _), (3, _)]) rfl ?_
  refine r_aload_n (pc := 0) C 0 dX10_buy_0 rfl rfl ?_
  refine r_iconst (pc := 1) (v := 0) C dX10_buy_1 rfl ?_
  refine r_wput (pc := 2) (by omega) C f_X10_1 hm.1 rfl rfl rfl dX10_buy_2 ?_
  refine r_aload_n (pc := 5) C 0 dX10_buy_5 rfl rfl ?_
  refine r_iload_n (pc := 6) C 1 dX10_buy_6 rfl rfl ?_
  refine r_iload_n (pc := 7) C 2 dX10_buy_7 rfl rfl ?_
  refine r_iload_n (pc := 8) C 3 dX10_buy_8 rfl rfl ?_
  refine r_cVi (pc := 9) C hfl k_X10_156 (c_notBuy hm hB hB6) hm.1 ca_X10 rfl rfl (Nat.le_of_ble_eq_true rfl) (by decide) (by decide) dX10_buy_9 ?_
  refine r_istore (pc := 12) (lo' := [(4, _), (0, _), (1, _), (2, _), (3, _)]) C dX10_buy_12 (by decide) rfl ?_
  refine r_iload (pc := 14) C 0 dX10_buy_14 rfl ?_
  refine r_ifeqN (pc := 16) (tgt := 26) C dX10_buy_16 rfl (by have := fBuy_le w B (nI n) (nI m) u; omega) (fun c_16 => ?_) (fun c_16 => False.elim (by omega))
  refine r_aload_n (pc := 26) C 1 dX10_buy_26 rfl rfl ?_
  refine r_cVv (pc := 27) C hfl k_X10_82 (c_rem hm ((u2_o (by decide)).trans hc) ((u2_o (by decide)).trans hf) hf8 hc8) hm.1 ca_X10 rfl rfl (Nat.le_of_ble_eq_true rfl) (by decide) (by decide) dX10_buy_27 ?_
  refine r_aload_n (pc := 30) C 1 dX10_buy_30 rfl rfl ?_
  refine r_iload_n (pc := 31) C 2 dX10_buy_31 rfl rfl ?_
  refine r_iload_n (pc := 32) C 3 dX10_buy_32 rfl rfl ?_
  refine r_iload_n (pc := 33) C 4 dX10_buy_33 rfl rfl ?_
  refine r_cVi (pc := 34) C hfl k_X10_159 (c_buys hm (by omega) hm4) hm.1 ca_X10 rfl rfl (Nat.le_of_ble_eq_true rfl) (by decide) (by decide) dX10_buy_34 ?_
  exact r_iret (pc := 37) C dX10_buy_37 ⟨rfl, rfl, rfl, rfl⟩ (by decide)
