set_option maxHeartbeats 1000000 in
theorem c_X7_payOff {g : GG} {X : va_W} {T : TT} {I : II} {b : Nat} (hd : isDk T b) {w : Nat → Int32} {B N E : Nat} {pm : Nat → Nat} (hV : DV I b w B N E pm) {s : Nat} (hs : s < N) {c : Int32} : Mc g yX7_payOff cX7_payOff 3 none 1 0 0 [.ref (b + 5 + 17 + 2 * pm s), .int c] X T I (PD I b X T none (poV w s c) B N E pm ((I b 9))) := by
  have hB6 := hV.hB
  have hN10 := hV.hN
  have hE20 := hV.hE
  have hW := hV.toW
  refine Mc.of (by decide) (Nat.le_of_ble_eq_true rfl) (fun k hfl C => ?_)
  refine r_lo (lo' := [(0, _), (1, _)]) rfl ?_
  refine r_aload_n (pc := 0) C 0 dX7_payOff_0 rfl rfl ?_
  refine r_getI (pc := 1) C f_X7_21 ((Dk_l hd (hV.l (by omega)))) rfl dX7_payOff_1 ?_
  refine r_t (hW.get (at_loan (i := 3) hs (by decide))) ?_
  refine r_iload_n (pc := 4) C 1 dX7_payOff_4 rfl rfl ?_
  refine r_min (pc := 5) C k_X7_38 (by decide) (by decide) dX7_payOff_5 ?_
  refine r_istore_n (pc := 8) (lo' := [(2, _), (0, _), (1, _)]) C dX7_payOff_8 rfl (by decide) rfl ?_
  refine r_aload_n (pc := 9) C 1 dX7_payOff_9 rfl rfl ?_
  refine r_dup (pc := 10) C dX7_payOff_10 rfl ?_
  refine r_getI (pc := 11) C f_X7_21 ((Dk_l hd (hV.l (by omega)))) rfl dX7_payOff_11 ?_
  refine r_t (hW.get (at_loan (i := 3) hs (by decide))) ?_
  refine r_iload_n (pc := 14) C 0 dX7_payOff_14 rfl rfl ?_
  refine r_isub (pc := 15) C dX7_payOff_15 ?_
  refine r_putI (pc := 16) C f_X7_21 ((Dk_l hd (hV.l (by omega)))) rfl rfl rfl dX7_payOff_16 ?_
  refine r_dk (hW.put (at_loan (i := 3) hs (by decide))) (fun I1 hD1 => ?_)
  refine r_aload_n (pc := 19) C 1 dX7_payOff_19 rfl rfl ?_
  refine r_dup (pc := 20) C dX7_payOff_20 rfl ?_
  refine r_getI (pc := 21) C f_X7_18 ((Dk_l hd (hV.l (by omega)))) rfl dX7_payOff_21 ?_
  refine r_t (hD1.get (at_loan (i := 2) hs (by decide))) ?_
  refine r_t (y := w (58 + 10 * s + 2)) (upd_n (by omega)) ?_
  refine r_iload_n (pc := 24) C 2 dX7_payOff_24 rfl rfl ?_
  refine r_iload_n (pc := 25) C 0 dX7_payOff_25 rfl rfl ?_
  refine r_isub (pc := 26) C dX7_payOff_26 ?_
  refine r_isub (pc := 27) C dX7_payOff_27 ?_
  refine r_putI (pc := 28) C f_X7_18 ((Dk_l hd (hV.l (by omega)))) rfl rfl rfl dX7_payOff_28 ?_
  refine r_dk (hD1.put (at_loan (i := 2) hs (by decide))) (fun I2 hD2 => ?_)
  exact r_vret (pc := 31) C dX7_payOff_31 ⟨rfl, rfl, rfl, hD2⟩ (by decide)

set_option maxHeartbeats 1000000 in
theorem c_X3_returnCollateral {g : GG} {X : va_W} {T : TT} {I : II} {b : Nat} (hd : isDk T b) {w : Nat → Int32} {B N E : Nat} {pm : Nat → Nat} (hV : DV I b w B N E pm) {s n : Nat} (hs : s < N) (n1 : n < B) : Mc g yX3_returnCollateral cX3_returnCollateral 4 none 1 0 0 [.ref b, .ref (b + 5 + 17 + 2 * pm s), .ref (b + 10 + 2 * n)] X T I (PD I b X T none (gbK w s n 4) B N E pm ((I b 9))) := by
  have hB6 := hV.hB
  have hN10 := hV.hN
  have hE20 := hV.hE
  have hW := hV.toW
  refine Mc.of (by decide) (Nat.le_of_ble_eq_true rfl) (fun k hfl C => ?_)
  refine r_lo (lo' := [(0, _), (1, _), (2, _)]) rfl ?_
  refine r_iconst (pc := 0) (v := 0) C dX3_returnCollateral_0 rfl ?_
  refine r_istore_n (pc := 1) (lo' := [(3, _), (0, _), (1, _), (2, _)]) C dX3_returnCollateral_1 rfl (by decide) rfl ?_
  have loop_2 : ∀ (n_2 : Nat) (q : Nat) (J : II), 4 - q < n_2 → (q ≤ 4) → (DW I J b (gbK w s n q) B N E pm (I b 9)) → Go g k 4 (Qm g k (PD I b X T none (gbK w s n 4) B N E pm ((I b 9))) 0 0) 0 0 2 [(0, .ref b), (1, .ref (b + 5 + 17 + 2 * pm s)), (2, .ref (b + 10 + 2 * n)), (3, .int (nI q))] [] X T J := by
    intro n_2
    induction n_2 with
    | zero => intro _ _ h_; exact absurd h_ (Nat.not_lt_zero _)
    | succ n_2 ih_2 =>
      intro q J hq hq1 hJ
      refine r_iload_n (pc := 2) C 3 dX3_returnCollateral_2 rfl rfl ?_
      refine r_iconst (pc := 3) (v := 4) C dX3_returnCollateral_3 rfl ?_
      refine r_cgeN (pc := 4) (tgt := 35) C dX3_returnCollateral_4 rfl (by omega) (by omega) (fun c_4 => ?_) (fun c_4 => ?_)
      · skip
        exact r_vret (pc := 35) C dX3_returnCollateral_35 ⟨rfl, rfl, rfl, by rw [show 4 = q by omega]; exact hJ⟩ (by decide)
      · skip
        refine r_aload_n (pc := 7) C 2 dX3_returnCollateral_7 rfl rfl ?_
        refine r_getR (pc := 8) (x := b + 10 + 2 * n + 1) C f_X3_169 ((Dk_b hd (by omega))) rfl rfl dX3_returnCollateral_8 ?_
        refine r_iload_n (pc := 11) C 3 dX3_returnCollateral_11 rfl rfl ?_
        refine r_dup2 (pc := 12) C dX3_returnCollateral_12 rfl rfl ?_
        refine r_iald (pc := 13) (x := q) C ((Dk_g hd (by omega))) rfl (by omega) (by decide) dX3_returnCollateral_13 ?_
        refine r_t (hJ.get (at_goods n1 (by omega))) ?_
        refine r_aload_n (pc := 14) C 1 dX3_returnCollateral_14 rfl rfl ?_
        refine r_getR (pc := 15) (x := b + 5 + 17 + 2 * pm s + 1) C f_X3_186 ((Dk_l hd (hV.l (by omega)))) rfl rfl dX3_returnCollateral_15 ?_
        refine r_iload_n (pc := 18) C 3 dX3_returnCollateral_18 rfl rfl ?_
        refine r_iald (pc := 19) (x := q) C ((Dk_p hd (hJ.l (by omega)))) rfl (by omega) (by decide) dX3_returnCollateral_19 ?_
        refine r_t (hJ.get (at_pledged hs (by omega))) ?_
        refine r_iadd (pc := 20) C dX3_returnCollateral_20 ?_
        refine r_iast (pc := 21) (x := q) C ((Dk_g hd (by omega))) rfl (by omega) (by decide) dX3_returnCollateral_21 ?_
        refine r_dk (hJ.put (at_goods n1 (by omega))) (fun I1 hD1 => ?_)
        refine r_aload_n (pc := 22) C 1 dX3_returnCollateral_22 rfl rfl ?_
        refine r_getR (pc := 23) (x := b + 5 + 17 + 2 * pm s + 1) C f_X3_186 ((Dk_l hd (hV.l (by omega)))) rfl rfl dX3_returnCollateral_23 ?_
        refine r_iload_n (pc := 26) C 3 dX3_returnCollateral_26 rfl rfl ?_
        refine r_iconst (pc := 27) (v := 0) C dX3_returnCollateral_27 rfl ?_
        refine r_iast (pc := 28) (x := q) C ((Dk_p hd (hD1.l (by omega)))) rfl (by omega) (by decide) dX3_returnCollateral_28 ?_
        refine r_dk (hD1.put (at_pledged hs (by omega))) (fun I2 hD2 => ?_)
        refine r_iincN (pc := 29) (m := 1) (lo' := [(3, _), (0, _), (1, _), (2, _)]) C 3 dX3_returnCollateral_29 rfl rfl (by decide) rfl ?_
        refine r_goto (pc := 32) (tgt := 2) C dX3_returnCollateral_32 rfl ?_
        refine r_ls [1, 2, 3, 0] rfl ?_
        exact ih_2 (q + 1) _ (by omega) (by omega) (by rw [← gbK_s (by omega) c_4]; exact hD2)
  refine r_ls [1, 2, 3, 0] rfl ?_
  exact loop_2 5 0 _ (by omega) (by omega) (by rw [gbK_0]; exact hW)

set_option maxHeartbeats 1000000 in
theorem c_X3_removeLoanAt {g : GG} {X : va_W} {T : TT} {I : II} {b : Nat} (hd : isDk T b) {w : Nat → Int32} {B N E : Nat} {pm : Nat → Nat} (hV : DV I b w B N E pm) {s : Nat} (hN : w 2 = nI N) (hs : s < N) : Mc g yX3_removeLoanAt cX3_removeLoanAt 4 none 1 0 0 [.ref b, .int (nI s)] X T I (Ex none X T (rmC I b N s (pm s))) := by
  have hB6 := hV.hB
  have hN10 := hV.hN
  have hE20 := hV.hE
  have hW := hV.toW
  refine Mc.of (by decide) (Nat.le_of_ble_eq_true rfl) (fun k hfl C => ?_)
  refine r_lo (lo' := [(0, _), (1, _)]) rfl ?_
  refine r_aload_n (pc := 0) C 0 dX3_removeLoanAt_0 rfl rfl ?_
  refine r_getR (pc := 1) (x := b + 5) C f_X3_60 ((Dk_0 hd)) rfl rfl dX3_removeLoanAt_1 ?_
  refine r_iload_n (pc := 4) C 1 dX3_removeLoanAt_4 rfl rfl ?_
  refine r_lald (pc := 5) (x := s) (p := pm s) C ((Dk_5 hd)) rfl (by omega) (hW.p (by omega)) (hW.l (by omega)) dX3_removeLoanAt_5 ?_
  refine r_astore_n (pc := 6) (lo' := [(2, _), (0, _), (1, _)]) C dX3_removeLoanAt_6 rfl (by decide) rfl ?_
  refine r_iload_n (pc := 7) C 2 dX3_removeLoanAt_7 rfl rfl ?_
  refine r_istore_n (pc := 8) (lo' := [(3, _), (2, _), (0, _), (1, _)]) C dX3_removeLoanAt_8 rfl (by decide) rfl ?_
  have loop_9 : ∀ (n_9 : Nat) (q : Nat), N - 1 - q < n_9 → (s ≤ q) → (q ≤ N - 1) → Go g k 4 (Qm g k (Ex none X T (rmC I b N s (pm s))) 0 0) 0 0 9 [(0, .ref b), (1, .int (nI s)), (2, .ref (b + 5 + 17 + 2 * pm s)), (3, .int (nI q))] [] X T ((sr I (b + 5) (shV (I (b + 5)) s 1 q))) := by
    intro n_9
    induction n_9 with
    | zero => intro _ h_; exact absurd h_ (Nat.not_lt_zero _)
    | succ n_9 ih_9 =>
      intro q hq hq1 hq2
      refine r_iload_n (pc := 9) C 3 dX3_removeLoanAt_9 rfl rfl ?_
      refine r_iconst (pc := 10) (v := 1) C dX3_removeLoanAt_10 rfl ?_
      refine r_iaddN (pc := 11) C dX3_removeLoanAt_11 ?_
      refine r_aload_n (pc := 12) C 0 dX3_removeLoanAt_12 rfl rfl ?_
      refine r_getI (pc := 13) C f_X3_21 ((Dk_0 hd)) rfl dX3_removeLoanAt_13 ?_
      refine r_t (y := nI N) (((congrFun (sr_n (by omega)) _).trans (hV.get at_loanTotal)).trans hN) ?_
      refine r_cgeN (pc := 16) (tgt := 39) C dX3_removeLoanAt_16 rfl (by omega) (by omega) (fun c_16 => ?_) (fun c_16 => ?_)
      · skip
        refine r_aload_n (pc := 39) C 0 dX3_removeLoanAt_39 rfl rfl ?_
        refine r_dup (pc := 40) C dX3_removeLoanAt_40 rfl ?_
        refine r_getI (pc := 41) C f_X3_21 ((Dk_0 hd)) rfl dX3_removeLoanAt_41 ?_
        refine r_t (y := nI N) (((congrFun (sr_n (by omega)) _).trans (hV.get at_loanTotal)).trans hN) ?_
        refine r_iconst (pc := 44) (v := 1) C dX3_removeLoanAt_44 rfl ?_
        refine r_isub (pc := 45) C dX3_removeLoanAt_45 ?_
        refine r_t (y := nI ((N - 1))) (pk_sub (by omega)) ?_
        refine r_putI (pc := 46) C f_X3_21 ((Dk_0 hd)) rfl rfl rfl dX3_removeLoanAt_46 ?_
        refine r_aload_n (pc := 49) C 0 dX3_removeLoanAt_49 rfl rfl ?_
        refine r_getR (pc := 50) (x := b + 5) C f_X3_60 ((Dk_0 hd)) rfl rfl dX3_removeLoanAt_50 ?_
        refine r_aload_n (pc := 53) C 0 dX3_removeLoanAt_53 rfl rfl ?_
        refine r_getI (pc := 54) C f_X3_21 ((Dk_0 hd)) rfl dX3_removeLoanAt_54 ?_
        refine r_t (y := nI ((N - 1))) u2_g ?_
        refine r_aload_n (pc := 57) C 2 dX3_removeLoanAt_57 rfl rfl ?_
        refine r_last (pc := 58) (x := (N - 1)) (p := pm s) C ((Dk_5 hd)) rfl (by omega) (hW.l (by omega)) ((Dk_l hd (hV.l (by omega)))) ca_X7 dX3_removeLoanAt_58 ?_
        exact r_vret (pc := 59) C dX3_removeLoanAt_59 ⟨rfl, rfl, rfl, by rw [rmC, show N - 1 = q by omega]⟩ (by decide)
      · skip
        refine r_aload_n (pc := 19) C 0 dX3_removeLoanAt_19 rfl rfl ?_
        refine r_getR (pc := 20) (x := b + 5) C f_X3_60 ((Dk_0 hd)) rfl rfl dX3_removeLoanAt_20 ?_
        refine r_iload_n (pc := 23) C 3 dX3_removeLoanAt_23 rfl rfl ?_
        refine r_aload_n (pc := 24) C 0 dX3_removeLoanAt_24 rfl rfl ?_
        refine r_getR (pc := 25) (x := b + 5) C f_X3_60 ((Dk_0 hd)) rfl rfl dX3_removeLoanAt_25 ?_
        refine r_iload_n (pc := 28) C 3 dX3_removeLoanAt_28 rfl rfl ?_
        refine r_iconst (pc := 29) (v := 1) C dX3_removeLoanAt_29 rfl ?_
        refine r_iaddN (pc := 30) C dX3_removeLoanAt_30 ?_
        refine r_lald (pc := 31) (x := q + 1) (p := pm (q + 1)) C ((Dk_5 hd)) rfl (by omega) (by rw [sr_s, shV_n (by omega)]; exact hV.p (by omega)) (hW.l (by omega)) dX3_removeLoanAt_31 ?_
        refine r_last (pc := 32) (x := q) (p := pm (q + 1)) C ((Dk_5 hd)) rfl (by omega) (hW.l (by omega)) ((Dk_l hd (hW.l (by omega)))) ca_X7 dX3_removeLoanAt_32 ?_
        refine r_I (I' := (sr I (b + 5) (shV (I (b + 5)) s 1 (q + 1)))) (by rw [u2_s, show nI (pm (q + 1)) = shV (I (b + 5)) s 1 q (q + 1) from by { rw [shV_n (by omega)]; exact (hV.p (by omega)).symm }, shV_s hq1]) ?_
        refine r_iincN (pc := 33) (m := 1) (lo' := [(3, _), (0, _), (1, _), (2, _)]) C 3 dX3_removeLoanAt_33 rfl rfl (by decide) rfl ?_
        refine r_goto (pc := 36) (tgt := 9) C dX3_removeLoanAt_36 rfl ?_
        refine r_ls [1, 2, 3, 0] rfl ?_
        exact ih_9 (q + 1) (by omega) (by omega) (by omega)
  refine r_ls [2, 3, 1, 0] rfl ?_
  refine r_I (I' := (sr I (b + 5) (shV (I (b + 5)) s 1 s))) (by rw [shV_0 (Nat.le_refl _), sr_id]) ?_
  exact loop_9 (N - 1 - s + 1) s (by omega) (by omega) (by omega)

set_option maxHeartbeats 1000000 in
theorem c_X6_enter__s {g : GG} {X : va_W} {T : TT} {I : II} {b : Nat} (hd : isDk T b) {w : Nat → Int32} {B N E : Nat} {pm : Nat → Nat} (hV : DV I b w B N E pm) {id c : Int32} {e : Nat} (hE : w 5 = nI E) (he : e < E) (hr : atE w E (w 0) id (nI e)) : Mc g yX6_enter cX6_enter 5 none 3 0 0 [.ref (b + 6), .int (w 0), .int id, .int c] X T I (PD I b X T none (enV w E id c (nI e)) B N (enE E (nI e)) pm ((I b 9))) := by
  have hB6 := hV.hB
  have hN10 := hV.hN
  have hE20 := hV.hE
  have hW := hV.toW
  refine Mc.of (by decide) (Nat.le_of_ble_eq_true rfl) (fun k hfl C => ?_)
  refine r_lo (lo' := [(0, _), (1, _), (2, _), (3, _)]) rfl ?_
  refine r_aload_n (pc := 0) C 0 dX6_enter_0 rfl rfl ?_
  refine r_iload_n (pc := 1) C 1 dX6_enter_1 rfl rfl ?_
  refine r_iload_n (pc := 2) C 2 dX6_enter_2 rfl rfl ?_
  refine r_cVi (pc := 3) C hfl k_X6_25 (c_X6_positionOf hd hV hE hr) ((Dk_6 hd)) ca_X6 rfl rfl (Nat.le_of_ble_eq_true rfl) (by decide) (by decide) dX6_enter_3 ?_
  refine r_istore (pc := 6) (lo' := [(4, _), (0, _), (1, _), (2, _), (3, _)]) C dX6_enter_6 (by decide) rfl ?_
  refine r_iload (pc := 8) C 0 dX6_enter_8 rfl ?_
  refine r_ifltN (pc := 10) C dX6_enter_10 (by omega) ?_
  refine r_aload_n (pc := 13) C 1 dX6_enter_13 rfl rfl ?_
  refine r_getR (pc := 14) (x := b + 6 + 3) C f_X6_22 ((Dk_6 hd)) rfl rfl dX6_enter_14 ?_
  refine r_iload (pc := 17) C 0 dX6_enter_17 rfl ?_
  refine r_dup2 (pc := 19) C dX6_enter_19 rfl rfl ?_
  refine r_iald (pc := 20) (x := e) C ((Dk_9 hd)) rfl (by omega) (by decide) dX6_enter_20 ?_
  refine r_t (hW.get (at_ent2 (by omega))) ?_
  refine r_iload_n (pc := 21) C 4 dX6_enter_21 rfl rfl ?_
  refine r_iadd (pc := 22) C dX6_enter_22 ?_
  refine r_iast (pc := 23) (x := e) C ((Dk_9 hd)) rfl (by omega) (by decide) dX6_enter_23 ?_
  refine r_dk (hW.put (at_ent2 (by omega))) (fun I1 hD1 => ?_)
  exact r_vret (pc := 24) C dX6_enter_24 ⟨rfl, rfl, rfl, by rw [enV, enE, if_neg (nI_pos (by omega)), if_neg (nI_pos (by omega)), nI_clamp (by omega)]; exact hD1⟩ (by decide)

set_option maxHeartbeats 1000000 in
theorem c_X6_enter__n {g : GG} {X : va_W} {T : TT} {I : II} {b : Nat} (hd : isDk T b) {w : Nat → Int32} {B N E : Nat} {pm : Nat → Nat} (hV : DV I b w B N E pm) {id c : Int32} (hE : w 5 = nI E) (hE9 : E < 20) (hr : atE w E (w 0) id (-1)) : Mc g yX6_enter cX6_enter 5 none 3 0 0 [.ref (b + 6), .int (w 0), .int id, .int c] X T I (PD I b X T none (enV w E id c (-1)) B N (enE E (-1)) pm ((I b 9))) := by
  have hB6 := hV.hB
  have hN10 := hV.hN
  have hE20 := hV.hE
  have hW := hV.toW
  refine Mc.of (by decide) (Nat.le_of_ble_eq_true rfl) (fun k hfl C => ?_)
  refine r_lo (lo' := [(0, _), (1, _), (2, _), (3, _)]) rfl ?_
  refine r_aload_n (pc := 0) C 0 dX6_enter_0 rfl rfl ?_
  refine r_iload_n (pc := 1) C 1 dX6_enter_1 rfl rfl ?_
  refine r_iload_n (pc := 2) C 2 dX6_enter_2 rfl rfl ?_
  refine r_cVi (pc := 3) C hfl k_X6_25 (c_X6_positionOf hd hV hE hr) ((Dk_6 hd)) ca_X6 rfl rfl (Nat.le_of_ble_eq_true rfl) (by decide) (by decide) dX6_enter_3 ?_
  refine r_istore (pc := 6) (lo' := [(4, _), (0, _), (1, _), (2, _), (3, _)]) C dX6_enter_6 (by decide) rfl ?_
  refine r_iload (pc := 8) C 0 dX6_enter_8 rfl ?_
  refine r_iflt (pc := 10) (tgt := 25) C dX6_enter_10 rfl (fun _ => ?_) (fun c => absurd (by decide) c)
  refine r_aload_n (pc := 25) C 1 dX6_enter_25 rfl rfl ?_
  refine r_getI (pc := 26) C f_X6_9 ((Dk_6 hd)) rfl dX6_enter_26 ?_
  refine r_t (hW.get at_size) ?_
  refine r_t (y := nI E) hE ?_
  refine r_bipush (pc := 29) (v := 20) C dX6_enter_29 rfl ?_
  refine r_cltN (pc := 31) (tgt := 38) C dX6_enter_31 rfl (by omega) (by omega) (fun c_31 => ?_) (fun c_31 => False.elim (by omega))
  refine r_aload_n (pc := 38) C 1 dX6_enter_38 rfl rfl ?_
  refine r_getR (pc := 39) (x := b + 6 + 1) C f_X6_15 ((Dk_6 hd)) rfl rfl dX6_enter_39 ?_
  refine r_aload_n (pc := 42) C 1 dX6_enter_42 rfl rfl ?_
  refine r_getI (pc := 43) C f_X6_9 ((Dk_6 hd)) rfl dX6_enter_43 ?_
  refine r_t (hW.get at_size) ?_
  refine r_t (y := nI E) hE ?_
  refine r_iload_n (pc := 46) C 2 dX6_enter_46 rfl rfl ?_
  refine r_iast (pc := 47) (x := E) C ((Dk_7 hd)) rfl (by omega) (by decide) dX6_enter_47 ?_
  refine r_aload_n (pc := 48) C 1 dX6_enter_48 rfl rfl ?_
  refine r_getR (pc := 49) (x := b + 6 + 2) C f_X6_19 ((Dk_6 hd)) rfl rfl dX6_enter_49 ?_
  refine r_aload_n (pc := 52) C 1 dX6_enter_52 rfl rfl ?_
  refine r_getI (pc := 53) C f_X6_9 ((Dk_6 hd)) rfl dX6_enter_53 ?_
  refine r_t (y := nI E) (((congrFun (u2_r (by omega)) _).trans (hV.get at_size)).trans hE) ?_
  refine r_iload_n (pc := 56) C 3 dX6_enter_56 rfl rfl ?_
  refine r_iast (pc := 57) (x := E) C ((Dk_8 hd)) rfl (by omega) (by decide) dX6_enter_57 ?_
  refine r_aload_n (pc := 58) C 1 dX6_enter_58 rfl rfl ?_
  refine r_getR (pc := 59) (x := b + 6 + 3) C f_X6_22 ((Dk_6 hd)) rfl rfl dX6_enter_59 ?_
  refine r_aload_n (pc := 62) C 1 dX6_enter_62 rfl rfl ?_
  refine r_getI (pc := 63) C f_X6_9 ((Dk_6 hd)) rfl dX6_enter_63 ?_
  refine r_t (y := nI E) (((congrFun ((u2_r (by omega)).trans (u2_r (by omega))) _).trans (hV.get at_size)).trans hE) ?_
  refine r_iload_n (pc := 66) C 4 dX6_enter_66 rfl rfl ?_
  refine r_iast (pc := 67) (x := E) C ((Dk_9 hd)) rfl (by omega) (by decide) dX6_enter_67 ?_
  refine r_dk (hW.newE hE9) (fun I1 hD1 => ?_)
  refine r_aload_n (pc := 68) C 1 dX6_enter_68 rfl rfl ?_
  refine r_dup (pc := 69) C dX6_enter_69 rfl ?_
  refine r_getI (pc := 70) C f_X6_9 ((Dk_6 hd)) rfl dX6_enter_70 ?_
  refine r_t (hD1.get at_size) ?_
  refine r_t (y := nI E) ((upd_n (by omega)).trans ((upd_n (by omega)).trans ((upd_n (by omega)).trans hE))) ?_
  refine r_iconst (pc := 73) (v := 1) C dX6_enter_73 rfl ?_
  refine r_iaddN (pc := 74) C dX6_enter_74 ?_
  refine r_putI (pc := 75) C f_X6_9 ((Dk_6 hd)) rfl rfl rfl dX6_enter_75 ?_
  refine r_dk (hD1.put at_size) (fun I1 hD1 => ?_)
  exact r_vret (pc := 78) C dX6_enter_78 ⟨rfl, rfl, rfl, by rw [enV_a (by omega), enE_a (by omega), ← opV_eq]; exact hD1⟩ (by decide)

set_option maxHeartbeats 1000000 in
theorem c_X6_removeOldest {g : GG} {X : va_W} {T : TT} {I : II} {b : Nat} (hd : isDk T b) {w : Nat → Int32} {B N : Nat} {pm : Nat → Nat} (hV : DV I b w B N 20 pm)  : Mc g yX6_removeOldest cX6_removeOldest 1 none 1 0 0 [.ref (b + 6)] X T I (Ex none X T (olC I b)) := by
  have hB6 := hV.hB
  have hN10 := hV.hN
  refine Mc.of (by decide) (Nat.le_of_ble_eq_true rfl) (fun k hfl C => ?_)
  refine r_lo (lo' := [(0, _)]) rfl ?_
  refine r_aload_n (pc := 0) C 0 dX6_removeOldest_0 rfl rfl ?_
  refine r_bipush (pc := 1) (v := 19) C dX6_removeOldest_1 rfl ?_
  refine r_putI (pc := 3) C f_X6_9 ((Dk_6 hd)) rfl rfl rfl dX6_removeOldest_3 ?_
  refine r_aload_n (pc := 6) C 0 dX6_removeOldest_6 rfl rfl ?_
  refine r_getR (pc := 7) (x := b + 6 + 1) C f_X6_15 ((Dk_6 hd)) rfl rfl dX6_removeOldest_7 ?_
  refine r_iconst (pc := 10) (v := 1) C dX6_removeOldest_10 rfl ?_
  refine r_aload_n (pc := 11) C 0 dX6_removeOldest_11 rfl rfl ?_
  refine r_getR (pc := 12) (x := b + 6 + 1) C f_X6_15 ((Dk_6 hd)) rfl rfl dX6_removeOldest_12 ?_
  refine r_iconst (pc := 15) (v := 0) C dX6_removeOldest_15 rfl ?_
  refine r_aload_n (pc := 16) C 0 dX6_removeOldest_16 rfl rfl ?_
  refine r_getI (pc := 17) C f_X6_9 ((Dk_6 hd)) rfl dX6_removeOldest_17 ?_
  refine r_t (y := nI 19) u2_g ?_
  refine r_acopy (pc := 20) C ka_X6_32 ((Dk_7 hd)) ((Dk_7 hd)) (by omega) (by omega) (by decide) (by decide) (by decide) dX6_removeOldest_20 ?_
  rw [u2_r (show b + 6 + 1 ≠ b + 6 by omega)]
  refine r_aload_n (pc := 23) C 0 dX6_removeOldest_23 rfl rfl ?_
  refine r_getR (pc := 24) (x := b + 6 + 2) C f_X6_19 ((Dk_6 hd)) rfl rfl dX6_removeOldest_24 ?_
  refine r_iconst (pc := 27) (v := 1) C dX6_removeOldest_27 rfl ?_
  refine r_aload_n (pc := 28) C 0 dX6_removeOldest_28 rfl rfl ?_
  refine r_getR (pc := 29) (x := b + 6 + 2) C f_X6_19 ((Dk_6 hd)) rfl rfl dX6_removeOldest_29 ?_
  refine r_iconst (pc := 32) (v := 0) C dX6_removeOldest_32 rfl ?_
  refine r_aload_n (pc := 33) C 0 dX6_removeOldest_33 rfl rfl ?_
  refine r_getI (pc := 34) C f_X6_9 ((Dk_6 hd)) rfl dX6_removeOldest_34 ?_
  refine r_t (y := nI 19) ((congrFun (sr_n (by omega)) _).trans u2_g) ?_
  refine r_acopy (pc := 37) C ka_X6_32 ((Dk_8 hd)) ((Dk_8 hd)) (by omega) (by omega) (by decide) (by decide) (by decide) dX6_removeOldest_37 ?_
  rw [sr_n (show b + 6 + 2 ≠ b + 6 + 1 by omega), u2_r (show b + 6 + 2 ≠ b + 6 by omega)]
  refine r_aload_n (pc := 40) C 0 dX6_removeOldest_40 rfl rfl ?_
  refine r_getR (pc := 41) (x := b + 6 + 3) C f_X6_22 ((Dk_6 hd)) rfl rfl dX6_removeOldest_41 ?_
  refine r_iconst (pc := 44) (v := 1) C dX6_removeOldest_44 rfl ?_
  refine r_aload_n (pc := 45) C 0 dX6_removeOldest_45 rfl rfl ?_
  refine r_getR (pc := 46) (x := b + 6 + 3) C f_X6_22 ((Dk_6 hd)) rfl rfl dX6_removeOldest_46 ?_
  refine r_iconst (pc := 49) (v := 0) C dX6_removeOldest_49 rfl ?_
  refine r_aload_n (pc := 50) C 0 dX6_removeOldest_50 rfl rfl ?_
  refine r_getI (pc := 51) C f_X6_9 ((Dk_6 hd)) rfl dX6_removeOldest_51 ?_
  refine r_t (y := nI 19) ((congrFun ((sr_n (by omega)).trans (sr_n (by omega))) _).trans u2_g) ?_
  refine r_acopy (pc := 54) C ka_X6_32 ((Dk_9 hd)) ((Dk_9 hd)) (by omega) (by omega) (by decide) (by decide) (by decide) dX6_removeOldest_54 ?_
  rw [sr_n (show b + 6 + 3 ≠ b + 6 + 2 by omega), sr_n (show b + 6 + 3 ≠ b + 6 + 1 by omega), u2_r (show b + 6 + 3 ≠ b + 6 by omega)]
  exact r_vret (pc := 57) C dX6_removeOldest_57 ⟨rfl, rfl, rfl, rfl⟩ (by decide)

set_option maxHeartbeats 1000000 in
theorem c_X6_enter__f {g : GG} {X : va_W} {T : TT} {I : II} {b : Nat} (hd : isDk T b) {w : Nat → Int32} {B N : Nat} {pm : Nat → Nat} (hV : DV I b w B N 20 pm) {id c : Int32} (hE : w 5 = nI 20) (hr : atE w 20 (w 0) id (-1)) : Mc g yX6_enter cX6_enter 5 none 3 0 0 [.ref (b + 6), .int (w 0), .int id, .int c] X T I (PD I b X T none (enV w 20 id c (-1)) B N (enE 20 (-1)) pm (I b 9)) := by
  have hB6 := hV.hB
  have hN10 := hV.hN
  have hW := hV.toW
  refine Mc.of (by decide) (Nat.le_of_ble_eq_true rfl) (fun k hfl C => ?_)
  refine r_lo (lo' := [(0, _), (1, _), (2, _), (3, _)]) rfl ?_
  refine r_aload_n (pc := 0) C 0 dX6_enter_0 rfl rfl ?_
  refine r_iload_n (pc := 1) C 1 dX6_enter_1 rfl rfl ?_
  refine r_iload_n (pc := 2) C 2 dX6_enter_2 rfl rfl ?_
  refine r_cVi (pc := 3) C hfl k_X6_25 (c_X6_positionOf hd hV hE hr) ((Dk_6 hd)) ca_X6 rfl rfl (Nat.le_of_ble_eq_true rfl) (by decide) (by decide) dX6_enter_3 ?_
  refine r_istore (pc := 6) (lo' := [(4, _), (0, _), (1, _), (2, _), (3, _)]) C dX6_enter_6 (by decide) rfl ?_
  refine r_iload (pc := 8) C 0 dX6_enter_8 rfl ?_
  refine r_iflt (pc := 10) (tgt := 25) C dX6_enter_10 rfl (fun _ => ?_) (fun c => absurd (by decide) c)
  refine r_aload_n (pc := 25) C 1 dX6_enter_25 rfl rfl ?_
  refine r_getI (pc := 26) C f_X6_9 ((Dk_6 hd)) rfl dX6_enter_26 ?_
  refine r_t (hW.get at_size) ?_
  refine r_t (y := nI 20) hE ?_
  refine r_bipush (pc := 29) (v := 20) C dX6_enter_29 rfl ?_
  refine r_cltN (pc := 31) (tgt := 38) C dX6_enter_31 rfl (by omega) (by omega) (fun c_31 => False.elim (by omega)) (fun c_31 => ?_)
  refine r_aload_n (pc := 34) C 1 dX6_enter_34 rfl rfl ?_
  refine r_cVv (pc := 35) C hfl k_X6_29 (c_X6_removeOldest hd hV) ((Dk_6 hd)) ca_X6 rfl rfl (Nat.le_of_ble_eq_true rfl) (by decide) (by decide) dX6_enter_35 ?_
  refine r_dk hW.old (fun I1 hD1 => ?_)
  refine r_aload_n (pc := 38) C 1 dX6_enter_38 rfl rfl ?_
  refine r_getR (pc := 39) (x := b + 6 + 1) C f_X6_15 ((Dk_6 hd)) rfl rfl dX6_enter_39 ?_
  refine r_aload_n (pc := 42) C 1 dX6_enter_42 rfl rfl ?_
  refine r_getI (pc := 43) C f_X6_9 ((Dk_6 hd)) rfl dX6_enter_43 ?_
  refine r_t (hD1.get at_size) ?_
  refine r_t (y := nI 19) upd_e ?_
  refine r_iload_n (pc := 46) C 2 dX6_enter_46 rfl rfl ?_
  refine r_iast (pc := 47) (x := 19) C ((Dk_7 hd)) rfl (by omega) (by decide) dX6_enter_47 ?_
  refine r_aload_n (pc := 48) C 1 dX6_enter_48 rfl rfl ?_
  refine r_getR (pc := 49) (x := b + 6 + 2) C f_X6_19 ((Dk_6 hd)) rfl rfl dX6_enter_49 ?_
  refine r_aload_n (pc := 52) C 1 dX6_enter_52 rfl rfl ?_
  refine r_getI (pc := 53) C f_X6_9 ((Dk_6 hd)) rfl dX6_enter_53 ?_
  refine r_t (y := nI 19) (((congrFun (u2_r (by omega)) _).trans (hD1.get at_size)).trans upd_e) ?_
  refine r_iload_n (pc := 56) C 3 dX6_enter_56 rfl rfl ?_
  refine r_iast (pc := 57) (x := 19) C ((Dk_8 hd)) rfl (by omega) (by decide) dX6_enter_57 ?_
  refine r_aload_n (pc := 58) C 1 dX6_enter_58 rfl rfl ?_
  refine r_getR (pc := 59) (x := b + 6 + 3) C f_X6_22 ((Dk_6 hd)) rfl rfl dX6_enter_59 ?_
  refine r_aload_n (pc := 62) C 1 dX6_enter_62 rfl rfl ?_
  refine r_getI (pc := 63) C f_X6_9 ((Dk_6 hd)) rfl dX6_enter_63 ?_
  refine r_t (y := nI 19) (((congrFun ((u2_r (by omega)).trans (u2_r (by omega))) _).trans (hD1.get at_size)).trans upd_e) ?_
  refine r_iload_n (pc := 66) C 4 dX6_enter_66 rfl rfl ?_
  refine r_iast (pc := 67) (x := 19) C ((Dk_9 hd)) rfl (by omega) (by decide) dX6_enter_67 ?_
  refine r_dk (hD1.newE (by decide)) (fun I2 hD2 => ?_)
  refine r_aload_n (pc := 68) C 1 dX6_enter_68 rfl rfl ?_
  refine r_dup (pc := 69) C dX6_enter_69 rfl ?_
  refine r_getI (pc := 70) C f_X6_9 ((Dk_6 hd)) rfl dX6_enter_70 ?_
  refine r_t (hD2.get at_size) ?_
  refine r_t (y := nI 19) ((upd_n (by omega)).trans ((upd_n (by omega)).trans ((upd_n (by omega)).trans upd_e))) ?_
  refine r_iconst (pc := 73) (v := 1) C dX6_enter_73 rfl ?_
  refine r_iaddN (pc := 74) C dX6_enter_74 ?_
  refine r_putI (pc := 75) C f_X6_9 ((Dk_6 hd)) rfl rfl rfl dX6_enter_75 ?_
  refine r_dk (hD2.put at_size) (fun I1 hD1 => ?_)
  exact r_vret (pc := 78) C dX6_enter_78 ⟨rfl, rfl, rfl, by rw [enV_b, enE_b, ← opV_eq, olV_0 rfl]; exact hD1⟩ (by decide)

theorem c_enter {g : GG} {X : va_W} {T : TT} {I : II} {b : Nat} (hd : isDk T b) {w : Nat → Int32} {B N E : Nat} {pm : Nat → Nat} (hV : DV I b w B N E pm) (hE : w 5 = nI E) {id c r : Int32} (hr : atE w E (w 0) id r) : Mc g yX6_enter cX6_enter 5 none 3 0 0 [.ref (b + 6), .int (w 0), .int id, .int c] X T I (PD I b X T none (enV w E id c r) B N (enE E r) pm (I b 9)) := by
  rcases hr with ⟨e, h1, h2, h3, rfl⟩ | ⟨h1, rfl⟩
  · exact (c_X6_enter__s hd hV hE h1 (Or.inl ⟨e, h1, h2, h3, rfl⟩))
  · rcases Nat.lt_or_ge E 20 with h | h
    · exact (c_X6_enter__n hd hV hE h (Or.inr ⟨h1, rfl⟩))
    · have hE20 := hV.hE
      obtain rfl : E = 20 := by omega
      exact c_X6_enter__f hd hV hE (Or.inr ⟨h1, rfl⟩)

set_option maxHeartbeats 1000000 in
theorem c_X3_repayLoan__s {g : GG} {X : va_W} {T : TT} {I : II} {b : Nat} (hd : isDk T b) {w : Nat → Int32} {B N E : Nat} {pm : Nat → Nat} (hV : DV I b w B N E pm) {id c r : Int32} {s : Nat} (hs : s < N) (hr : atS w N id (nI s)) (hre : atE (rpB w s (bN w s) c) E (w 0) id r) {D U : Nat} (hG : Gd w B N E D U) (hS : Sd w N) : Mc g yX3_repayLoan cX3_repayLoan 6 (some (.object "LendingDesk$Fault")) 6 0 0 [.ref b, .int id, .int c] X T I (CH g I b X T 6 (fRepay w (nI s) c) (rpV w N E s (bN w s) id c r) B (if debtV (rpC w E s (bN w s) id c r) s = 0 then N - 1 else N) (enE E r) (debtV (rpC w E s (bN w s) id c r) s)) := by
  have hB6 := hV.hB
  have hN10 := hV.hN
  have hE20 := hV.hE
  have hB := hG.B.1
  have hN := hG.N.1
  have hE := hG.E.1
  have hW := hV.toW
  obtain ⟨n1, hw⟩ := hG.own hs
  have e_s : (nI s).toNatClampNeg = s := nI_clamp (by omega)
  have n_s : ¬ nI s < 0 := nI_pos (by omega)
  have e_b : (w (58 + 10 * s + 1)).toNatClampNeg = bN w s := rfl
  refine Mc.of (by decide) (Nat.le_of_ble_eq_true rfl) (fun k hfl C => ?_)
  refine r_lo (lo' := [(0, _), (1, _), (2, _)]) rfl ?_
  refine r_aload_n (pc := 0) C 0 dX3_repayLoan_0 rfl rfl ?_
  refine r_iload_n (pc := 1) C 1 dX3_repayLoan_1 rfl rfl ?_
  refine r_cVi (pc := 2) C hfl k_X3_92 (c_X3_positionOf hd hV hN hr) ((Dk_0 hd)) ca_X3 rfl rfl (Nat.le_of_ble_eq_true rfl) (by decide) (by decide) dX3_repayLoan_2 ?_
  refine r_istore_n (pc := 5) (lo' := [(3, _), (0, _), (1, _), (2, _)]) C dX3_repayLoan_5 rfl (by decide) rfl ?_
  refine r_iload_n (pc := 6) C 0 dX3_repayLoan_6 rfl rfl ?_
  refine r_ifgeN (pc := 7) (tgt := 14) C dX3_repayLoan_7 rfl (by omega) ?_
  refine r_iload_n (pc := 14) C 3 dX3_repayLoan_14 rfl rfl ?_
  refine r_iconst (pc := 15) (v := 1) C dX3_repayLoan_15 rfl ?_
  refine r_sipush (pc := 16) (v := 999) C dX3_repayLoan_16 rfl ?_
  refine r_callSN (pc := 19) C hfl kn_X3_144 c_X9_isWithin rfl rfl (Nat.le_of_ble_eq_true rfl) (by decide) (by decide) dX3_repayLoan_19 ?_
  refine r_ifneB (pc := 22) (tgt := 29) C dX3_repayLoan_22 rfl (fun c_22 => ?_) (fun c_22 => ?_)
  · skip
    refine r_aload_n (pc := 29) C 1 dX3_repayLoan_29 rfl rfl ?_
    refine r_getR (pc := 30) (x := b + 5) C f_X3_60 ((Dk_0 hd)) rfl rfl dX3_repayLoan_30 ?_
    refine r_iload_n (pc := 33) C 0 dX3_repayLoan_33 rfl rfl ?_
    refine r_lald (pc := 34) (x := s) (p := pm s) C ((Dk_5 hd)) rfl (by omega) (hW.p (by omega)) (hW.l (by omega)) dX3_repayLoan_34 ?_
    refine r_astore (pc := 35) (lo' := [(4, _), (3, _), (0, _), (1, _), (2, _)]) C dX3_repayLoan_35 (by decide) rfl ?_
    refine r_aload_n (pc := 37) C 2 dX3_repayLoan_37 rfl rfl ?_
    refine r_aload (pc := 38) C 0 dX3_repayLoan_38 rfl ?_
    refine r_getI (pc := 40) C f_X3_203 ((Dk_l hd (hW.l (by omega)))) rfl dX3_repayLoan_40 ?_
    refine r_t (hW.get (at_loan (i := 1) (by omega) (by decide))) ?_
    refine r_t (y := nI ((bN w s))) hw ?_
    refine r_cVr (pc := 43) C hfl k_X3_158 (c_X3_borrowerAt__v hd hV hB n1) ((Dk_0 hd)) ca_X3 rfl rfl (Nat.le_of_ble_eq_true rfl) (by decide) (by decide) dX3_repayLoan_43 ?_
    refine r_astore (pc := 46) (lo' := [(5, _), (4, _), (3, _), (0, _), (1, _), (2, _)]) C dX3_repayLoan_46 (by decide) rfl ?_
    refine r_aload (pc := 48) C 0 dX3_repayLoan_48 rfl ?_
    refine r_ifnullR (pc := 50) C dX3_repayLoan_50 ?_
    refine r_iload_n (pc := 53) C 5 dX3_repayLoan_53 rfl rfl ?_
    refine r_aload (pc := 54) C 1 dX3_repayLoan_54 rfl ?_
    refine r_cVi (pc := 56) C hfl k_X3_210 (c_X7_owed hd hW.toV (by omega)) ((Dk_l hd (hW.l (by omega)))) ca_X7 rfl rfl (Nat.le_of_ble_eq_true rfl) (by decide) (by decide) dX3_repayLoan_56 ?_
    refine r_cgt (pc := 59) (tgt := 71) C dX3_repayLoan_59 rfl (fun c_59 => ?_) (fun c_59 => ?_)
    · skip
      refine r_flt (pc := 71) C (by decide) kf_X3_96 dX3_repayLoan_71 ?_
      exact r_aret (pc := 74) C (Or.inl ⟨_, rfl⟩) (Or.inr ⟨_, rfl⟩) dX3_repayLoan_74 (CH_no (c := 3) (by simp only [fRepay, e_s, e_b]; rw [if_neg n_s, if_neg (by simp [c_22]), if_pos (Or.inl c_59)]) (by decide) (by decide)) (by decide)
    · skip
      refine r_iload_n (pc := 62) C 5 dX3_repayLoan_62 rfl rfl ?_
      refine r_aload (pc := 63) C 0 dX3_repayLoan_63 rfl ?_
      refine r_getI (pc := 65) C f_X3_189 ((Dk_b hd (by omega))) rfl dX3_repayLoan_65 ?_
      refine r_t (hW.get (at_purse n1)) ?_
      refine r_cle (pc := 68) (tgt := 75) C dX3_repayLoan_68 rfl (fun c_68 => ?_) (fun c_68 => ?_)
      · skip
        refine r_aload (pc := 75) C 0 dX3_repayLoan_75 rfl ?_
        refine r_dup (pc := 77) C dX3_repayLoan_77 rfl ?_
        refine r_getI (pc := 78) C f_X3_189 ((Dk_b hd (by omega))) rfl dX3_repayLoan_78 ?_
        refine r_t (hW.get (at_purse n1)) ?_
        refine r_iload_n (pc := 81) C 5 dX3_repayLoan_81 rfl rfl ?_
        refine r_isub (pc := 82) C dX3_repayLoan_82 ?_
        refine r_putI (pc := 83) C f_X3_189 ((Dk_b hd (by omega))) rfl rfl rfl dX3_repayLoan_83 ?_
        refine r_dk (hW.put (at_purse n1)) (fun I1 hD1 => ?_)
        refine r_aload_n (pc := 86) C 3 dX3_repayLoan_86 rfl rfl ?_
        refine r_dup (pc := 87) C dX3_repayLoan_87 rfl ?_
        refine r_getI (pc := 88) C f_X3_15 ((Dk_0 hd)) rfl dX3_repayLoan_88 ?_
        refine r_t (hD1.get at_funds) ?_
        refine r_t (y := w 4) (upd_n (by omega)) ?_
        refine r_iload_n (pc := 91) C 5 dX3_repayLoan_91 rfl rfl ?_
        refine r_iadd (pc := 92) C dX3_repayLoan_92 ?_
        refine r_putI (pc := 93) C f_X3_15 ((Dk_0 hd)) rfl rfl rfl dX3_repayLoan_93 ?_
        refine r_dk (hD1.put at_funds) (fun I2 hD2 => ?_)
        refine r_aload (pc := 96) C 1 dX3_repayLoan_96 rfl ?_
        refine r_iload_n (pc := 98) C 5 dX3_repayLoan_98 rfl rfl ?_
        refine r_callV (pc := 99) C hfl k_X3_213 (c_X7_payOff hd hD2.toV hs) ((Dk_l hd (hW.l (by omega)))) ca_X7 rfl rfl (Nat.le_of_ble_eq_true rfl) (by decide) (by decide) dX3_repayLoan_99 (fun r2 X2 T2 I3 h2 => ?_)
        obtain ⟨rfl, rfl, rfl, hP3⟩ := h2
        refine r_st (st' := _) rfl ?_
        rw [hD2.han] at hP3
        have hD3 := DW.tr hD2.1 hP3
        rw [rp_eq (by omega)] at hD3
        refine r_aload_n (pc := 102) C 3 dX3_repayLoan_102 rfl rfl ?_
        refine r_getR (pc := 103) (x := b + 6) C f_X3_67 ((Dk_0 hd)) rfl rfl dX3_repayLoan_103 ?_
        refine r_aload_n (pc := 106) C 3 dX3_repayLoan_106 rfl rfl ?_
        refine r_getI (pc := 107) C f_X3_9 ((Dk_0 hd)) rfl dX3_repayLoan_107 ?_
        refine r_t (hD3.get at_today) ?_
        refine r_t (y := rpB w s (bN w s) c 0) rfl ?_
        refine r_iload_n (pc := 110) C 4 dX3_repayLoan_110 rfl rfl ?_
        refine r_iload_n (pc := 111) C 5 dX3_repayLoan_111 rfl rfl ?_
        refine r_callV (pc := 112) C hfl k_X3_216 (c_enter hd hD3.toV (by rw [rpB, ad_n (by omega), ad_n (by omega), rpA, upd_n (by omega), upd_n (by omega)]; exact hE) (by rw [rp_0 (by omega)]; exact hre)) ((Dk_6 hd)) ca_X6 rfl rfl (Nat.le_of_ble_eq_true rfl) (by decide) (by decide) dX3_repayLoan_112 (fun r2 X2 T2 I4 h2 => ?_)
        obtain ⟨rfl, rfl, rfl, hP4⟩ := h2
        refine r_st (st' := _) rfl ?_
        rw [hD3.han] at hP4
        have hD4 := DW.tr hD3.1 hP4
        rw [← show rpC w E s (bN w s) id c r = enV (rpB w s (bN w s) c) E id c r from rfl] at hD4
        refine r_aload_n (pc := 115) C 3 dX3_repayLoan_115 rfl rfl ?_
        refine r_aload (pc := 116) C 1 dX3_repayLoan_116 rfl ?_
        refine r_cVi (pc := 118) C hfl k_X3_210 (c_X7_owed hd hD4.toV (by omega)) ((Dk_l hd (hW.l (by omega)))) ca_X7 rfl rfl (Nat.le_of_ble_eq_true rfl) (by decide) (by decide) dX3_repayLoan_118 ?_
        refine r_putI (pc := 121) C f_X3_39 ((Dk_0 hd)) rfl rfl rfl dX3_repayLoan_121 ?_
        refine r_dk hD4.ans (fun I5 hD5 => ?_)
        refine r_aload_n (pc := 124) C 3 dX3_repayLoan_124 rfl rfl ?_
        refine r_getI (pc := 125) C f_X3_39 ((Dk_0 hd)) rfl dX3_repayLoan_125 ?_
        refine r_t hD5.han ?_
        refine r_ifne (pc := 128) (tgt := 154) C dX3_repayLoan_128 rfl (fun c_128 => ?_) (fun c_128 => ?_)
        · skip
          refine r_flt (pc := 154) C (by decide) kf_X3_155 dX3_repayLoan_154 ?_
          exact r_aret (pc := 157) C (Or.inl ⟨_, rfl⟩) (Or.inr ⟨_, rfl⟩) dX3_repayLoan_157 (CH_ok (by simp only [fRepay, e_s, e_b]; rw [if_neg n_s, if_neg (by simp [c_22]), if_neg (fun z => z.elim c_59 (Int32.not_lt.mpr c_68))]) (by rw [rpV, if_neg c_128, if_neg c_128]; exact hD5)) (by decide)
        · skip
          refine r_aload_n (pc := 131) C 3 dX3_repayLoan_131 rfl rfl ?_
          refine r_aload (pc := 132) C 1 dX3_repayLoan_132 rfl ?_
          refine r_aload (pc := 134) C 0 dX3_repayLoan_134 rfl ?_
          refine r_callV (pc := 136) C hfl k_X3_220 (c_X3_returnCollateral hd hD5.toV hs n1) ((Dk_0 hd)) ca_X3 rfl rfl (Nat.le_of_ble_eq_true rfl) (by decide) (by decide) dX3_repayLoan_136 (fun r2 X2 T2 I6 h2 => ?_)
          obtain ⟨rfl, rfl, rfl, hP6⟩ := h2
          refine r_st (st' := _) rfl ?_
          rw [hD5.han] at hP6
          have hD6 := DW.tr hD5.1 hP6
          refine r_aload_n (pc := 139) C 3 dX3_repayLoan_139 rfl rfl ?_
          refine r_iload_n (pc := 140) C 2 dX3_repayLoan_140 rfl rfl ?_
          refine r_cVv (pc := 141) C hfl k_X3_224 (c_X3_removeLoanAt hd hD6.toV ((gbK_n (by omega) (by omega)).trans ((rpC_n hE20 (by omega) (by omega) (by omega) (by omega) (by omega) (by omega) (by omega) (atE_or hE20 hre)).trans hN)) hs) ((Dk_0 hd)) ca_X3 rfl rfl (Nat.le_of_ble_eq_true rfl) (by decide) (by decide) dX3_repayLoan_141 ?_
          refine r_dk (hD6.rm (w' := goV (gbK (rpC w E s (bN w s) id c r) s (bN w s) 4) N s) hs goV_2 (fun j hj => goV_n (by omega) hN10 hs (by omega)) (fun r j hr hj => goV_l hr hj)) (fun I7 hD7 => ?_)
          refine r_aload_n (pc := 144) C 3 dX3_repayLoan_144 rfl rfl ?_
          refine r_dup (pc := 145) C dX3_repayLoan_145 rfl ?_
          refine r_getI (pc := 146) C f_X3_27 ((Dk_0 hd)) rfl dX3_repayLoan_146 ?_
          refine r_t (hD7.get at_repaidTotal) ?_
          refine r_iconst (pc := 149) (v := 1) C dX3_repayLoan_149 rfl ?_
          refine r_iadd (pc := 150) C dX3_repayLoan_150 ?_
          refine r_putI (pc := 151) C f_X3_27 ((Dk_0 hd)) rfl rfl rfl dX3_repayLoan_151 ?_
          refine r_dk (hD7.put at_repaidTotal) (fun I8 hD8 => ?_)
          refine r_flt (pc := 154) C (by decide) kf_X3_155 dX3_repayLoan_154 ?_
          exact r_aret (pc := 157) C (Or.inl ⟨_, rfl⟩) (Or.inr ⟨_, rfl⟩) dX3_repayLoan_157 (CH_ok (by simp only [fRepay, e_s, e_b]; rw [if_neg n_s, if_neg (by simp [c_22]), if_neg (fun z => z.elim c_59 (Int32.not_lt.mpr c_68))]) (by rw [rpV, if_pos c_128, if_pos c_128]; exact hD8)) (by decide)
      · skip
        refine r_flt (pc := 71) C (by decide) kf_X3_96 dX3_repayLoan_71 ?_
        exact r_aret (pc := 74) C (Or.inl ⟨_, rfl⟩) (Or.inr ⟨_, rfl⟩) dX3_repayLoan_74 (CH_no (c := 3) (by simp only [fRepay, e_s, e_b]; rw [if_neg n_s, if_neg (by simp [c_22]), if_pos (Or.inr (Int32.not_le.mp c_68))]) (by decide) (by decide)) (by decide)
  · skip
    refine r_flt (pc := 25) C (by decide) kf_X3_148 dX3_repayLoan_25 ?_
    exact r_aret (pc := 28) C (Or.inl ⟨_, rfl⟩) (Or.inr ⟨_, rfl⟩) dX3_repayLoan_28 (CH_no (c := 2) (by simp [fRepay, n_s, c_22]) (by decide) (by decide)) (by decide)

set_option maxHeartbeats 1000000 in
theorem c_X3_repayLoan__n {g : GG} {X : va_W} {T : TT} {I : II} {b : Nat} (hd : isDk T b) {w : Nat → Int32} {B N E : Nat} {pm : Nat → Nat} (hV : DV I b w B N E pm) {id c : Int32} (hr : atS w N id (-1)) {D U : Nat} (hG : Gd w B N E D U) (hS : Sd w N) : Mc g yX3_repayLoan cX3_repayLoan 6 (some (.object "LendingDesk$Fault")) 6 0 0 [.ref b, .int id, .int c] X T I (CH g I b X T 6 (fRepay w (-1) c) w B N E (nI 0)) := by
  have hB6 := hV.hB
  have hN10 := hV.hN
  have hE20 := hV.hE
  have hB := hG.B.1
  have hN := hG.N.1
  have hE := hG.E.1
  have hW := hV.toW
  refine Mc.of (by decide) (Nat.le_of_ble_eq_true rfl) (fun k hfl C => ?_)
  refine r_lo (lo' := [(0, _), (1, _), (2, _)]) rfl ?_
  refine r_aload_n (pc := 0) C 0 dX3_repayLoan_0 rfl rfl ?_
  refine r_iload_n (pc := 1) C 1 dX3_repayLoan_1 rfl rfl ?_
  refine r_cVi (pc := 2) C hfl k_X3_92 (c_X3_positionOf hd hV hN hr) ((Dk_0 hd)) ca_X3 rfl rfl (Nat.le_of_ble_eq_true rfl) (by decide) (by decide) dX3_repayLoan_2 ?_
  refine r_istore_n (pc := 5) (lo' := [(3, _), (0, _), (1, _), (2, _)]) C dX3_repayLoan_5 rfl (by decide) rfl ?_
  refine r_iload_n (pc := 6) C 0 dX3_repayLoan_6 rfl rfl ?_
  refine r_ifge (pc := 7) (tgt := 14) C dX3_repayLoan_7 rfl (fun c => absurd c (by decide)) (fun _ => ?_)
  refine r_flt (pc := 10) C (by decide) kf_X3_200 dX3_repayLoan_10 ?_
  exact r_aret (pc := 13) C (Or.inl ⟨_, rfl⟩) (Or.inr ⟨_, rfl⟩) dX3_repayLoan_13 (CH_no (c := 1) (by simp [fRepay]) (by decide) (by decide)) (by decide)
