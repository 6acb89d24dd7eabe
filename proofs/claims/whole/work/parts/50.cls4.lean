set_option maxHeartbeats 1000000 in
theorem c_X3_seizeCollateral {g : GG} {X : va_W} {T : TT} {I : II} {b : Nat} (hd : isDk T b) {w : Nat → Int32} {B N E : Nat} {pm : Nat → Nat} (hV : DV I b w B N E pm) {D U s : Nat} (hG : Gd w B N E D U) (hs : s < N) : Mc g yX3_seizeCollateral cX3_seizeCollateral 6 none 4 0 0 [.ref b, .ref (b + 5 + 17 + 2 * pm s)] X T I (PD I b X T none (dfP w s (bN w s) (dN w s) (pN w) (uN w s)) B N E pm ((I b 9))) := by
  have hB6 := hV.hB
  have hN10 := hV.hN
  have hE20 := hV.hE
  have hW := hV.toW
  have hB := hG.B.1
  have hDk := hG.dk hs
  obtain ⟨n1, hw⟩ := hG.own hs
  refine Mc.of (by decide) (Nat.le_of_ble_eq_true rfl) (fun k hfl C => ?_)
  refine r_lo (lo' := [(0, _), (1, _)]) rfl ?_
  refine r_aload_n (pc := 0) C 1 dX3_seizeCollateral_0 rfl rfl ?_
  refine r_cVi (pc := 1) C hfl k_X3_210 (c_X7_owed hd hW.toV hs) ((Dk_l hd (hV.l (by omega)))) ca_X7 rfl rfl (Nat.le_of_ble_eq_true rfl) (by decide) (by decide) dX3_seizeCollateral_1 ?_
  refine r_t (y := nI (dN w s) - nI (zz (pN w) (uN w s) (dN w s) 0)) ((hDk.2.2.1).trans (by rw [zz, i_sub0])) ?_
  refine r_istore_n (pc := 4) (lo' := [(2, _), (0, _), (1, _)]) C dX3_seizeCollateral_4 rfl (by decide) rfl ?_
  refine r_iconst (pc := 5) (v := 0) C dX3_seizeCollateral_5 rfl ?_
  refine r_istore_n (pc := 6) (lo' := [(3, _), (2, _), (0, _), (1, _)]) C dX3_seizeCollateral_6 rfl (by decide) rfl ?_
  have loop_7 : ∀ (n_7 : Nat) (q : Nat) (J : II), 4 - q < n_7 → (q ≤ 4) → (DW I J b (tkV w s (am (tt (pN w) (uN w s) (dN w s)) q 0)) B N E pm (I b 9)) → Go g k 6 (Qm g k (PD I b X T none (dfP w s (bN w s) (dN w s) (pN w) (uN w s)) B N E pm ((I b 9))) 0 0) 0 0 7 [(0, .ref b), (1, .ref (b + 5 + 17 + 2 * pm s)), (2, .int (nI (dN w s) - nI (zz (pN w) (uN w s) (dN w s) q))), (3, .int (nI q))] [] X T J := by
    intro n_7
    induction n_7 with
    | zero => intro _ _ h_; exact absurd h_ (Nat.not_lt_zero _)
    | succ n_7 ih_7 =>
      intro q J hq hq1 hJ
      refine r_iload_n (pc := 7) C 3 dX3_seizeCollateral_7 rfl rfl ?_
      refine r_iconst (pc := 8) (v := 4) C dX3_seizeCollateral_8 rfl ?_
      refine r_cgeN (pc := 9) (tgt := 85) C dX3_seizeCollateral_9 rfl (by omega) (by omega) (fun c_9 => ?_) (fun c_9 => ?_)
      · skip
        obtain rfl : q = 4 := by omega
        refine r_aload_n (pc := 85) C 0 dX3_seizeCollateral_85 rfl rfl ?_
        refine r_dup (pc := 86) C dX3_seizeCollateral_86 rfl ?_
        refine r_getI (pc := 87) C f_X3_33 ((Dk_0 hd)) rfl dX3_seizeCollateral_87 ?_
        refine r_t (hJ.get at_lossTotal) ?_
        refine r_iload_n (pc := 90) C 2 dX3_seizeCollateral_90 rfl rfl ?_
        refine r_iconst (pc := 91) (v := 0) C dX3_seizeCollateral_91 rfl ?_
        refine r_max (pc := 92) C k_X3_255 (Nat.le_of_ble_eq_true rfl) (by decide) dX3_seizeCollateral_92 ?_
        refine r_iadd (pc := 95) C dX3_seizeCollateral_95 ?_
        refine r_putI (pc := 96) C f_X3_33 ((Dk_0 hd)) rfl rfl rfl dX3_seizeCollateral_96 ?_
        refine r_dk (hJ.put at_lossTotal) (fun I1 hD1 => ?_)
        rw [loss_n (hG.d29 hs) (zz_le hDk.p 4 (by omega))] at hD1
        rw [show lsV (tkV w s (am (tt (pN w) (uN w s) (dN w s)) 4 0)) (dN w s) (zz (pN w) (uN w s) (dN w s) 4) = dfA w s (dN w s) (pN w) (uN w s) from rfl] at hD1
        refine r_aload_n (pc := 99) C 0 dX3_seizeCollateral_99 rfl rfl ?_
        refine r_dup (pc := 100) C dX3_seizeCollateral_100 rfl ?_
        refine r_getI (pc := 101) C f_X3_30 ((Dk_0 hd)) rfl dX3_seizeCollateral_101 ?_
        refine r_t (hD1.get at_defaultedTotal) ?_
        refine r_iconst (pc := 104) (v := 1) C dX3_seizeCollateral_104 rfl ?_
        refine r_iadd (pc := 105) C dX3_seizeCollateral_105 ?_
        refine r_putI (pc := 106) C f_X3_30 ((Dk_0 hd)) rfl rfl rfl dX3_seizeCollateral_106 ?_
        refine r_dk (hD1.put at_defaultedTotal) (fun I2 hD2 => ?_)
        refine r_aload_n (pc := 109) C 0 dX3_seizeCollateral_109 rfl rfl ?_
        refine r_aload_n (pc := 110) C 1 dX3_seizeCollateral_110 rfl rfl ?_
        refine r_getI (pc := 111) C f_X3_203 ((Dk_l hd (hV.l (by omega)))) rfl dX3_seizeCollateral_111 ?_
        refine r_t (hD2.get (at_loan (i := 1) hs (by decide))) ?_
        refine r_t (y := nI ((bN w s))) ((upd_n (by omega)).trans ((dfA_n (by omega) (by omega) (by omega)).trans hw)) ?_
        refine r_cVr (pc := 114) C hfl k_X3_158 (c_X3_borrowerAt__v hd hD2.toV ((upd_n (by omega)).trans ((dfA_n (by omega) (by omega) (by omega)).trans hB)) n1) ((Dk_0 hd)) ca_X3 rfl rfl (Nat.le_of_ble_eq_true rfl) (by decide) (by decide) dX3_seizeCollateral_114 ?_
        refine r_astore_n (pc := 117) (lo' := [(3, _), (0, _), (1, _), (2, _)]) C dX3_seizeCollateral_117 rfl (by decide) rfl ?_
        refine r_aload_n (pc := 118) C 0 dX3_seizeCollateral_118 rfl rfl ?_
        refine r_ifnullR (pc := 119) C dX3_seizeCollateral_119 ?_
        refine r_aload_n (pc := 122) C 0 dX3_seizeCollateral_122 rfl rfl ?_
        refine r_dup (pc := 123) C dX3_seizeCollateral_123 rfl ?_
        refine r_getI (pc := 124) C f_X3_258 ((Dk_b hd (by omega))) rfl dX3_seizeCollateral_124 ?_
        refine r_t (hD2.get (at_defaultTotal n1)) ?_
        refine r_t (y := dfA w s (dN w s) (pN w) (uN w s) (22 + 6 * bN w s + 1)) (upd_n (by omega)) ?_
        refine r_iconst (pc := 127) (v := 1) C dX3_seizeCollateral_127 rfl ?_
        refine r_iadd (pc := 128) C dX3_seizeCollateral_128 ?_
        refine r_putI (pc := 129) C f_X3_258 ((Dk_b hd (by omega))) rfl rfl rfl dX3_seizeCollateral_129 ?_
        refine r_dk (hD2.put (at_defaultTotal n1)) (fun I3 hD3 => ?_)
        refine r_aload_n (pc := 132) C 1 dX3_seizeCollateral_132 rfl rfl ?_
        refine r_aload_n (pc := 133) C 2 dX3_seizeCollateral_133 rfl rfl ?_
        refine r_aload_n (pc := 134) C 0 dX3_seizeCollateral_134 rfl rfl ?_
        refine r_callV (pc := 135) C hfl k_X3_220 (c_X3_returnCollateral hd hD3.toV hs n1) ((Dk_0 hd)) ca_X3 rfl rfl (Nat.le_of_ble_eq_true rfl) (by decide) (by decide) dX3_seizeCollateral_135 (fun r2 X2 T2 I4 h2 => ?_)
        obtain ⟨rfl, rfl, rfl, hP4⟩ := h2
        refine r_st (st' := _) rfl ?_
        rw [hD3.han] at hP4
        have hD4 := DW.tr hD3.1 hP4
        exact r_vret (pc := 138) C dX3_seizeCollateral_138 ⟨rfl, rfl, rfl, by rw [dfP, ← dfP_eq (by omega)]; exact hD4⟩ (by decide)
      · skip
        refine r_iload_n (pc := 12) C 2 dX3_seizeCollateral_12 rfl rfl ?_
        refine r_ifgt (pc := 13) (tgt := 20) C dX3_seizeCollateral_13 rfl (fun c_13 => ?_) (fun c_13 => ?_)
        · skip
          refine r_iload_n (pc := 20) C 2 dX3_seizeCollateral_20 rfl rfl ?_
          refine r_aload_n (pc := 21) C 0 dX3_seizeCollateral_21 rfl rfl ?_
          refine r_getR (pc := 22) (x := b + 1) C f_X3_42 ((Dk_0 hd)) rfl rfl dX3_seizeCollateral_22 ?_
          refine r_iload_n (pc := 25) C 3 dX3_seizeCollateral_25 rfl rfl ?_
          refine r_iald (pc := 26) (x := q) C ((Dk_1 hd)) rfl (by omega) (by decide) dX3_seizeCollateral_26 ?_
          refine r_t (hJ.get (at_pr (by omega))) ?_
          refine r_t (y := nI (pN w q)) ((tkV_n (by omega) (by omega)).trans (hDk.1 q c_9).1) ?_
          refine r_callSN (pc := 27) C hfl kn_X3_246 c_X9_quotientUp rfl rfl (Nat.le_of_ble_eq_true rfl) (by decide) (by decide) dX3_seizeCollateral_27 ?_
          refine r_istore (pc := 30) (lo' := [(4, _), (0, _), (1, _), (2, _), (3, _)]) C dX3_seizeCollateral_30 (by decide) rfl ?_
          refine r_iload (pc := 32) C 0 dX3_seizeCollateral_32 rfl ?_
          refine r_aload_n (pc := 34) C 2 dX3_seizeCollateral_34 rfl rfl ?_
          refine r_getR (pc := 35) (x := b + 5 + 17 + 2 * pm s + 1) C f_X3_186 ((Dk_l hd (hV.l (by omega)))) rfl rfl dX3_seizeCollateral_35 ?_
          refine r_iload_n (pc := 38) C 4 dX3_seizeCollateral_38 rfl rfl ?_
          refine r_iald (pc := 39) (x := q) C ((Dk_p hd (hJ.l (by omega)))) rfl (by omega) (by decide) dX3_seizeCollateral_39 ?_
          refine r_t (hJ.get (at_pledged hs (by omega))) ?_
          refine r_t (y := nI (uN w s q)) ((tkV_u c_9).trans (by rw [i_sub0]; exact (hDk.2.1 q c_9).1)) ?_
          refine r_min (pc := 40) C k_X3_250 (Nat.le_of_ble_eq_true rfl) (by decide) dX3_seizeCollateral_40 ?_
          refine r_t (y := nI ((tt (pN w) (uN w s) (dN w s) q))) (take_t (hDk.1 q c_9).2 (hG.d29 hs) (hDk.2.1 q c_9).2 (zz_le hDk.p q (by omega)) c_13) ?_
          refine r_istore (pc := 43) (lo' := [(5, _), (4, _), (0, _), (1, _), (2, _), (3, _)]) C dX3_seizeCollateral_43 (by decide) rfl ?_
          refine r_aload_n (pc := 45) C 3 dX3_seizeCollateral_45 rfl rfl ?_
          refine r_getR (pc := 46) (x := b + 5 + 17 + 2 * pm s + 1) C f_X3_186 ((Dk_l hd (hV.l (by omega)))) rfl rfl dX3_seizeCollateral_46 ?_
          refine r_iload_n (pc := 49) C 5 dX3_seizeCollateral_49 rfl rfl ?_
          refine r_dup2 (pc := 50) C dX3_seizeCollateral_50 rfl rfl ?_
          refine r_iald (pc := 51) (x := q) C ((Dk_p hd (hJ.l (by omega)))) rfl (by omega) (by decide) dX3_seizeCollateral_51 ?_
          refine r_t (hJ.get (at_pledged hs (by omega))) ?_
          refine r_iload (pc := 52) C 0 dX3_seizeCollateral_52 rfl ?_
          refine r_isub (pc := 54) C dX3_seizeCollateral_54 ?_
          refine r_iast (pc := 55) (x := q) C ((Dk_p hd (hJ.l (by omega)))) rfl (by omega) (by decide) dX3_seizeCollateral_55 ?_
          refine r_dk (hJ.put (at_pledged hs (by omega))) (fun I1 hD1 => ?_)
          refine r_aload_n (pc := 56) C 2 dX3_seizeCollateral_56 rfl rfl ?_
          refine r_getR (pc := 57) (x := b + 2) C f_X3_46 ((Dk_0 hd)) rfl rfl dX3_seizeCollateral_57 ?_
          refine r_iload_n (pc := 60) C 5 dX3_seizeCollateral_60 rfl rfl ?_
          refine r_dup2 (pc := 61) C dX3_seizeCollateral_61 rfl rfl ?_
          refine r_iald (pc := 62) (x := q) C ((Dk_2 hd)) rfl (by omega) (by decide) dX3_seizeCollateral_62 ?_
          refine r_t (hD1.get (at_st (by omega))) ?_
          refine r_iload (pc := 63) C 0 dX3_seizeCollateral_63 rfl ?_
          refine r_iadd (pc := 65) C dX3_seizeCollateral_65 ?_
          refine r_iast (pc := 66) (x := q) C ((Dk_2 hd)) rfl (by omega) (by decide) dX3_seizeCollateral_66 ?_
          refine r_dk (hD1.put (at_st (by omega))) (fun I2 hD2 => ?_)
          rw [tkV_j c_9] at hD2
          refine r_iload_n (pc := 67) C 4 dX3_seizeCollateral_67 rfl rfl ?_
          refine r_iload (pc := 68) C 0 dX3_seizeCollateral_68 rfl ?_
          refine r_aload_n (pc := 70) C 2 dX3_seizeCollateral_70 rfl rfl ?_
          refine r_getR (pc := 71) (x := b + 1) C f_X3_42 ((Dk_0 hd)) rfl rfl dX3_seizeCollateral_71 ?_
          refine r_iload_n (pc := 74) C 5 dX3_seizeCollateral_74 rfl rfl ?_
          refine r_iald (pc := 75) (x := q) C ((Dk_1 hd)) rfl (by omega) (by decide) dX3_seizeCollateral_75 ?_
          refine r_t (hD2.get (at_pr (by omega))) ?_
          refine r_t (y := nI ((pN w q))) ((tkV_n (by omega) (by omega)).trans (hDk.1 q c_9).1) ?_
          refine r_imulN (pc := 76) C dX3_seizeCollateral_76 ?_
          refine r_isub (pc := 77) C dX3_seizeCollateral_77 ?_
          refine r_t (y := nI (dN w s) - nI (zz (pN w) (uN w s) (dN w s) (q + 1))) open_t ?_
          refine r_istore_n (pc := 78) (lo' := [(2, _), (5, _), (4, _), (0, _), (1, _), (3, _)]) C dX3_seizeCollateral_78 rfl (by decide) rfl ?_
          refine r_iincN (pc := 79) (m := 1) (lo' := [(3, _), (2, _), (5, _), (4, _), (0, _), (1, _)]) C 5 dX3_seizeCollateral_79 rfl rfl (by decide) rfl ?_
          refine r_goto (pc := 82) (tgt := 7) C dX3_seizeCollateral_82 rfl ?_
          refine r_ls [4, 5, 1, 0] rfl ?_
          exact ih_7 (q + 1) _ (by omega) (by omega) hD2
        · skip
          refine r_iconst (pc := 16) (v := 0) C dX3_seizeCollateral_16 rfl ?_
          refine r_goto (pc := 17) (tgt := 30) C dX3_seizeCollateral_17 rfl ?_
          refine r_istore (pc := 30) (lo' := [(4, _), (0, _), (1, _), (2, _), (3, _)]) C dX3_seizeCollateral_30 (by decide) rfl ?_
          refine r_iload (pc := 32) C 0 dX3_seizeCollateral_32 rfl ?_
          refine r_aload_n (pc := 34) C 2 dX3_seizeCollateral_34 rfl rfl ?_
          refine r_getR (pc := 35) (x := b + 5 + 17 + 2 * pm s + 1) C f_X3_186 ((Dk_l hd (hV.l (by omega)))) rfl rfl dX3_seizeCollateral_35 ?_
          refine r_iload_n (pc := 38) C 4 dX3_seizeCollateral_38 rfl rfl ?_
          refine r_iald (pc := 39) (x := q) C ((Dk_p hd (hJ.l (by omega)))) rfl (by omega) (by decide) dX3_seizeCollateral_39 ?_
          refine r_t (hJ.get (at_pledged hs (by omega))) ?_
          refine r_t (y := nI (uN w s q)) ((tkV_u c_9).trans (by rw [i_sub0]; exact (hDk.2.1 q c_9).1)) ?_
          refine r_min (pc := 40) C k_X3_250 (Nat.le_of_ble_eq_true rfl) (by decide) dX3_seizeCollateral_40 ?_
          refine r_t (y := nI ((tt (pN w) (uN w s) (dN w s) q))) (take_f (hDk.1 q c_9).2 (hG.d29 hs) (hDk.2.1 q c_9).2 (zz_le hDk.p q (by omega)) c_13) ?_
          refine r_istore (pc := 43) (lo' := [(5, _), (4, _), (0, _), (1, _), (2, _), (3, _)]) C dX3_seizeCollateral_43 (by decide) rfl ?_
          refine r_aload_n (pc := 45) C 3 dX3_seizeCollateral_45 rfl rfl ?_
          refine r_getR (pc := 46) (x := b + 5 + 17 + 2 * pm s + 1) C f_X3_186 ((Dk_l hd (hV.l (by omega)))) rfl rfl dX3_seizeCollateral_46 ?_
          refine r_iload_n (pc := 49) C 5 dX3_seizeCollateral_49 rfl rfl ?_
          refine r_dup2 (pc := 50) C dX3_seizeCollateral_50 rfl rfl ?_
          refine r_iald (pc := 51) (x := q) C ((Dk_p hd (hJ.l (by omega)))) rfl (by omega) (by decide) dX3_seizeCollateral_51 ?_
          refine r_t (hJ.get (at_pledged hs (by omega))) ?_
          refine r_iload (pc := 52) C 0 dX3_seizeCollateral_52 rfl ?_
          refine r_isub (pc := 54) C dX3_seizeCollateral_54 ?_
          refine r_iast (pc := 55) (x := q) C ((Dk_p hd (hJ.l (by omega)))) rfl (by omega) (by decide) dX3_seizeCollateral_55 ?_
          refine r_dk (hJ.put (at_pledged hs (by omega))) (fun I1 hD1 => ?_)
          refine r_aload_n (pc := 56) C 2 dX3_seizeCollateral_56 rfl rfl ?_
          refine r_getR (pc := 57) (x := b + 2) C f_X3_46 ((Dk_0 hd)) rfl rfl dX3_seizeCollateral_57 ?_
          refine r_iload_n (pc := 60) C 5 dX3_seizeCollateral_60 rfl rfl ?_
          refine r_dup2 (pc := 61) C dX3_seizeCollateral_61 rfl rfl ?_
          refine r_iald (pc := 62) (x := q) C ((Dk_2 hd)) rfl (by omega) (by decide) dX3_seizeCollateral_62 ?_
          refine r_t (hD1.get (at_st (by omega))) ?_
          refine r_iload (pc := 63) C 0 dX3_seizeCollateral_63 rfl ?_
          refine r_iadd (pc := 65) C dX3_seizeCollateral_65 ?_
          refine r_iast (pc := 66) (x := q) C ((Dk_2 hd)) rfl (by omega) (by decide) dX3_seizeCollateral_66 ?_
          refine r_dk (hD1.put (at_st (by omega))) (fun I2 hD2 => ?_)
          rw [tkV_j c_9] at hD2
          refine r_iload_n (pc := 67) C 4 dX3_seizeCollateral_67 rfl rfl ?_
          refine r_iload (pc := 68) C 0 dX3_seizeCollateral_68 rfl ?_
          refine r_aload_n (pc := 70) C 2 dX3_seizeCollateral_70 rfl rfl ?_
          refine r_getR (pc := 71) (x := b + 1) C f_X3_42 ((Dk_0 hd)) rfl rfl dX3_seizeCollateral_71 ?_
          refine r_iload_n (pc := 74) C 5 dX3_seizeCollateral_74 rfl rfl ?_
          refine r_iald (pc := 75) (x := q) C ((Dk_1 hd)) rfl (by omega) (by decide) dX3_seizeCollateral_75 ?_
          refine r_t (hD2.get (at_pr (by omega))) ?_
          refine r_t (y := nI ((pN w q))) ((tkV_n (by omega) (by omega)).trans (hDk.1 q c_9).1) ?_
          refine r_imulN (pc := 76) C dX3_seizeCollateral_76 ?_
          refine r_isub (pc := 77) C dX3_seizeCollateral_77 ?_
          refine r_t (y := nI (dN w s) - nI (zz (pN w) (uN w s) (dN w s) (q + 1))) open_t ?_
          refine r_istore_n (pc := 78) (lo' := [(2, _), (5, _), (4, _), (0, _), (1, _), (3, _)]) C dX3_seizeCollateral_78 rfl (by decide) rfl ?_
          refine r_iincN (pc := 79) (m := 1) (lo' := [(3, _), (2, _), (5, _), (4, _), (0, _), (1, _)]) C 5 dX3_seizeCollateral_79 rfl rfl (by decide) rfl ?_
          refine r_goto (pc := 82) (tgt := 7) C dX3_seizeCollateral_82 rfl ?_
          refine r_ls [4, 5, 1, 0] rfl ?_
          exact ih_7 (q + 1) _ (by omega) (by omega) hD2
  refine r_ls [2, 3, 1, 0] rfl ?_
  exact loop_7 5 0 _ (by omega) (by omega) (by rw [tkV_0]; exact hW)

set_option maxHeartbeats 1000000 in
theorem c_X3_letOneDayPass {g : GG} {X : va_W} {T : TT} {I : II} {b : Nat} (hd : isDk T b) {w : Nat → Int32} {B N E : Nat} {pm : Nat → Nat} (hV : DV I b w B N E pm) {D U : Nat} (hG : Gd w B N E D U) (hS : Sd w N) (hDx : D + 1 ≤ 100000) : Mc g yX3_letOneDayPass cX3_letOneDayPass 3 none 5 0 0 [.ref b] X T I (PE I b X T none ((dyV w N).1) B (dyV w N).2.1 E ((I b 9))) := by
  have hB6 := hV.hB
  have hN10 := hV.hN
  have hE20 := hV.hE
  have hW := hV.toW
  have hN := hG.N.1
  refine Mc.of (by decide) (Nat.le_of_ble_eq_true rfl) (fun k hfl C => ?_)
  refine r_lo (lo' := [(0, _)]) rfl ?_
  refine r_aload_n (pc := 0) C 0 dX3_letOneDayPass_0 rfl rfl ?_
  refine r_dup (pc := 1) C dX3_letOneDayPass_1 rfl ?_
  refine r_getI (pc := 2) C f_X3_9 ((Dk_0 hd)) rfl dX3_letOneDayPass_2 ?_
  refine r_t (hW.get at_today) ?_
  refine r_iconst (pc := 5) (v := 1) C dX3_letOneDayPass_5 rfl ?_
  refine r_iadd (pc := 6) C dX3_letOneDayPass_6 ?_
  refine r_putI (pc := 7) C f_X3_9 ((Dk_0 hd)) rfl rfl rfl dX3_letOneDayPass_7 ?_
  refine r_dk (hW.put at_today) (fun I1 hD1 => ?_)
  refine r_iconst (pc := 10) (v := 0) C dX3_letOneDayPass_10 rfl ?_
  refine r_istore_n (pc := 11) (lo' := [(1, _), (0, _)]) C dX3_letOneDayPass_11 rfl (by decide) rfl ?_
  have loop_12 : ∀ (n_12 : Nat) (q : Nat) (J : II), N - q < n_12 → (q ≤ N) → (DW I J b (inV (upd w 0 (w 0 + nI 1)) q) B N E pm (I b 9)) → Go g k 3 (Qm g k (PE I b X T none ((dyV w N).1) B (dyV w N).2.1 E ((I b 9))) 0 0) 0 0 12 [(0, .ref b), (1, .int (nI q))] [] X T J := by
    intro n_12
    induction n_12 with
    | zero => intro _ _ h_; exact absurd h_ (Nat.not_lt_zero _)
    | succ n_12 ih_12 =>
      intro q J hq hq1 hJ
      refine r_iload_n (pc := 12) C 1 dX3_letOneDayPass_12 rfl rfl ?_
      refine r_aload_n (pc := 13) C 0 dX3_letOneDayPass_13 rfl rfl ?_
      refine r_getI (pc := 14) C f_X3_21 ((Dk_0 hd)) rfl dX3_letOneDayPass_14 ?_
      refine r_t (hJ.get at_loanTotal) ?_
      refine r_t (y := nI N) ((inV_n (by omega)).trans ((upd_n (by omega)).trans hN)) ?_
      refine r_cgeN (pc := 17) (tgt := 49) C dX3_letOneDayPass_17 rfl (by omega) (by omega) (fun c_17 => ?_) (fun c_17 => ?_)
      · skip
        obtain rfl : N = q := by omega
        refine r_iconst (pc := 49) (v := 0) C dX3_letOneDayPass_49 rfl ?_
        refine r_istore_n (pc := 50) (lo' := [(1, _), (0, _)]) C dX3_letOneDayPass_50 rfl (by decide) rfl ?_
        refine r_aload_n (pc := 51) C 1 dX3_letOneDayPass_51 rfl rfl ?_
        refine r_getI (pc := 52) C f_X3_21 ((Dk_0 hd)) rfl dX3_letOneDayPass_52 ?_
        refine r_t (hJ.get at_loanTotal) ?_
        refine r_t (y := nI N) ((inV_n (by omega)).trans ((upd_n (by omega)).trans hN)) ?_
        refine r_istore_n (pc := 55) (lo' := [(2, _), (1, _), (0, _)]) C dX3_letOneDayPass_55 rfl (by decide) rfl ?_
        have loop_56 : ∀ (n_56 : Nat) (v : Nat → Int32) (L s n : Nat) (J : II) (pv : Nat → Nat), L - s < n_56 → (s ≤ L) → (Gd v B L E (D + 1) U) → (dpV (L - s) v L s n = dyV w N) → (DW I J b v B L E pv (I b 9)) → Go g k 3 (Qm g k (PE I b X T none ((dyV w N).1) B (dyV w N).2.1 E ((I b 9))) 0 0) 0 0 56 [(0, .ref b), (1, .int (nI s)), (2, .int (nI (L - s)))] [] X T J := by
          intro n_56
          induction n_56 with
          | zero => intro _ _ _ _ _ _ h_; exact absurd h_ (Nat.not_lt_zero _)
          | succ n_56 ih_56 =>
            intro v L s n J pv hq9 hsL hG9 hinv hJ
            have hL := hG9.N
            refine r_iload_n (pc := 56) C 2 dX3_letOneDayPass_56 rfl rfl ?_
            refine r_ifleN (pc := 57) (tgt := 100) C dX3_letOneDayPass_57 rfl (by omega) (fun c_57 => ?_) (fun c_57 => ?_)
            · skip
              exact r_vret (pc := 100) C dX3_letOneDayPass_100 ⟨rfl, rfl, rfl, pv, by rw [← hinv, dpV_end (by omega)]; exact hJ⟩ (by decide)
            · skip
              have hs : s < L := by omega
              refine r_aload_n (pc := 60) C 0 dX3_letOneDayPass_60 rfl rfl ?_
              refine r_aload_n (pc := 61) C 0 dX3_letOneDayPass_61 rfl rfl ?_
              refine r_getR (pc := 62) (x := b + 5) C f_X3_60 ((Dk_0 hd)) rfl rfl dX3_letOneDayPass_62 ?_
              refine r_iload_n (pc := 65) C 1 dX3_letOneDayPass_65 rfl rfl ?_
              refine r_lald (pc := 66) (x := s) (p := pv s) C ((Dk_5 hd)) rfl (by omega) (hJ.p (by omega)) (hJ.l (by omega)) dX3_letOneDayPass_66 ?_
              refine r_cVi (pc := 67) C hfl k_X3_236 (c_X3_isInDefault hd hJ.toV (by omega)) ((Dk_0 hd)) ca_X3 rfl rfl (Nat.le_of_ble_eq_true rfl) (by decide) (by decide) dX3_letOneDayPass_67 ?_
              refine r_ifeqB (pc := 70) (tgt := 91) C dX3_letOneDayPass_70 rfl (fun c_70 => ?_) (fun c_70 => ?_)
              · skip
                refine r_iincN (pc := 91) (m := 1) (lo' := [(1, _), (0, _), (2, _)]) C 1 dX3_letOneDayPass_91 rfl rfl (by decide) rfl ?_
                refine r_idec (pc := 94) (lo' := [(2, _), (1, _), (0, _)]) C 2 dX3_letOneDayPass_94 rfl rfl (by omega) (by decide) rfl ?_
                refine r_goto (pc := 97) (tgt := 56) C dX3_letOneDayPass_97 rfl ?_
                refine r_ls [2, 1, 0] rfl ?_
                rw [show L - s - 1 = L - (s + 1) by omega]
                exact ih_56 _ _ _ n _ _ (by omega) (by omega) hG9 (by rw [← hinv, dpV_f hs c_70]) hJ
              · skip
                refine r_aload_n (pc := 73) C 0 dX3_letOneDayPass_73 rfl rfl ?_
                refine r_aload_n (pc := 74) C 0 dX3_letOneDayPass_74 rfl rfl ?_
                refine r_getR (pc := 75) (x := b + 5) C f_X3_60 ((Dk_0 hd)) rfl rfl dX3_letOneDayPass_75 ?_
                refine r_iload_n (pc := 78) C 1 dX3_letOneDayPass_78 rfl rfl ?_
                refine r_lald (pc := 79) (x := s) (p := pv s) C ((Dk_5 hd)) rfl (by omega) (hJ.p (by omega)) (hJ.l (by omega)) dX3_letOneDayPass_79 ?_
                refine r_callV (pc := 80) C hfl k_X3_240 (c_X3_seizeCollateral hd hJ.toV hG9 hs) ((Dk_0 hd)) ca_X3 rfl rfl (Nat.le_of_ble_eq_true rfl) (by decide) (by decide) dX3_letOneDayPass_80 (fun r2 X2 T2 I2 h2 => ?_)
                obtain ⟨rfl, rfl, rfl, hP2⟩ := h2
                refine r_st (st' := _) rfl ?_
                rw [hJ.han] at hP2
                have hD2 := DW.tr hJ.1 hP2
                refine r_aload_n (pc := 83) C 0 dX3_letOneDayPass_83 rfl rfl ?_
                refine r_iload_n (pc := 84) C 1 dX3_letOneDayPass_84 rfl rfl ?_
                refine r_cVv (pc := 85) C hfl k_X3_224 (c_X3_removeLoanAt hd hD2.toV (by rw [dfP_n (by have := (hG9.own hs).1; omega) (by omega) (by omega)]; exact hG9.N.1) hs) ((Dk_0 hd)) ca_X3 rfl rfl (Nat.le_of_ble_eq_true rfl) (by decide) (by decide) dX3_letOneDayPass_85 ?_
                refine r_dk (hD2.rm (w' := dfW v L s) hs goV_2 (fun j hj => goV_n (by omega) hL.2 hs (by omega)) (fun r j hr hj => goV_l hr hj)) (fun I3 hD3 => ?_)
                refine r_goto (pc := 88) (tgt := 94) C dX3_letOneDayPass_88 rfl ?_
                refine r_idec (pc := 94) (lo' := [(2, _), (0, _), (1, _)]) C 2 dX3_letOneDayPass_94 rfl rfl (by omega) (by decide) rfl ?_
                refine r_goto (pc := 97) (tgt := 56) C dX3_letOneDayPass_97 rfl ?_
                refine r_ls [1, 2, 0] rfl ?_
                rw [show L - s - 1 = L - 1 - s by omega]
                exact ih_56 _ _ _ (n + 1) _ _ (by omega) (by omega) (hG9.df hs) (by rw [← hinv, dpV_t hs c_70]) hD3
        refine r_ls [2, 1, 0] rfl ?_
        exact loop_56 (N + 1) _ _ 0 0 _ _ (by omega) (by omega) (hG.dd hS hDx) rfl hJ
      · skip
        refine r_aload_n (pc := 20) C 0 dX3_letOneDayPass_20 rfl rfl ?_
        refine r_getR (pc := 21) (x := b + 5) C f_X3_60 ((Dk_0 hd)) rfl rfl dX3_letOneDayPass_21 ?_
        refine r_iload_n (pc := 24) C 1 dX3_letOneDayPass_24 rfl rfl ?_
        refine r_lald (pc := 25) (x := q) (p := pm q) C ((Dk_5 hd)) rfl (by omega) (hJ.p (by omega)) (hJ.l (by omega)) dX3_letOneDayPass_25 ?_
        refine r_dup (pc := 26) C dX3_letOneDayPass_26 rfl ?_
        refine r_getI (pc := 27) C f_X3_230 ((Dk_l hd (hJ.l (by omega)))) rfl dX3_letOneDayPass_27 ?_
        refine r_t (hJ.get (at_loan (i := 3) (by omega) (by decide))) ?_
        refine r_aload_n (pc := 30) C 0 dX3_letOneDayPass_30 rfl rfl ?_
        refine r_getR (pc := 31) (x := b + 5) C f_X3_60 ((Dk_0 hd)) rfl rfl dX3_letOneDayPass_31 ?_
        refine r_iload_n (pc := 34) C 1 dX3_letOneDayPass_34 rfl rfl ?_
        refine r_lald (pc := 35) (x := q) (p := pm q) C ((Dk_5 hd)) rfl (by omega) (hJ.p (by omega)) (hJ.l (by omega)) dX3_letOneDayPass_35 ?_
        refine r_cVi (pc := 36) C hfl k_X3_233 (c_X7_dailyInterest hd hJ.toV (by omega)) ((Dk_l hd (hJ.l (by omega)))) ca_X7 rfl rfl (Nat.le_of_ble_eq_true rfl) (by decide) (by decide) dX3_letOneDayPass_36 ?_
        refine r_iadd (pc := 39) C dX3_letOneDayPass_39 ?_
        refine r_putI (pc := 40) C f_X3_230 ((Dk_l hd (hJ.l (by omega)))) rfl rfl rfl dX3_letOneDayPass_40 ?_
        refine r_dk (hJ.put (at_loan (i := 3) (by omega) (by decide))) (fun I2 hD2 => ?_)
        rw [inV_s rfl] at hD2
        refine r_iincN (pc := 43) (m := 1) (lo' := [(1, _), (0, _)]) C 1 dX3_letOneDayPass_43 rfl rfl (by decide) rfl ?_
        refine r_goto (pc := 46) (tgt := 12) C dX3_letOneDayPass_46 rfl ?_
        refine r_ls [1, 0] rfl ?_
        exact ih_12 (q + 1) _ (by omega) (by omega) hD2
  refine r_ls [1, 0] rfl ?_
  exact loop_12 (N + 1) 0 _ (by omega) (by omega) (by rw [inV_0]; exact hD1)

set_option maxHeartbeats 1000000 in
theorem c_X3_letDaysPass__v {g : GG} {X : va_W} {T : TT} {I : II} {b : Nat} (hd : isDk T b) {w : Nat → Int32} {B N E : Nat} {pm : Nat → Nat} (hV : DV I b w B N E pm) {t D U : Nat} (t1 : 1 ≤ t) (t2 : t ≤ 60) (hDx : D + t ≤ 100000) (hG : Gd w B N E D U) (hS : Sd w N) : Mc g yX3_letDaysPass cX3_letDaysPass 4 (some (.object "LendingDesk$Fault")) 6 0 0 [.ref b, .int (nI t)] X T I (CH g I b X T 8 (fPass (nI t)) ((psV t w N 0).1) B (psV t w N 0).2.1 E (nI (psV t w N 0).2.2)) := by
  have hB6 := hV.hB
  have hN10 := hV.hN
  have hE20 := hV.hE
  have hB := hG.B.1
  have hN := hG.N.1
  have hE := hG.E.1
  have hW := hV.toW
  refine Mc.of (by decide) (Nat.le_of_ble_eq_true rfl) (fun k hfl C => ?_)
  refine r_lo (lo' := [(0, _), (1, _)]) rfl ?_
  refine r_iload_n (pc := 0) C 1 dX3_letDaysPass_0 rfl rfl ?_
  refine r_iconst (pc := 1) (v := 1) C dX3_letDaysPass_1 rfl ?_
  refine r_bipush (pc := 2) (v := 60) C dX3_letDaysPass_2 rfl ?_
  refine r_callSN (pc := 4) C hfl kn_X3_144 c_X9_isWithin rfl rfl (Nat.le_of_ble_eq_true rfl) (by decide) (by decide) dX3_letDaysPass_4 ?_
  refine r_ifneB (pc := 7) (tgt := 14) C dX3_letDaysPass_7 rfl (fun c_7 => ?_) (fun c_7 => ?_)
  · skip
    refine r_aload_n (pc := 14) C 0 dX3_letDaysPass_14 rfl rfl ?_
    refine r_getI (pc := 15) C f_X3_30 ((Dk_0 hd)) rfl dX3_letDaysPass_15 ?_
    refine r_t (hW.get at_defaultedTotal) ?_
    refine r_istore_n (pc := 18) (lo' := [(2, _), (0, _), (1, _)]) C dX3_letDaysPass_18 rfl (by decide) rfl ?_
    refine r_iconst (pc := 19) (v := 0) C dX3_letDaysPass_19 rfl ?_
    refine r_istore_n (pc := 20) (lo' := [(3, _), (2, _), (0, _), (1, _)]) C dX3_letDaysPass_20 rfl (by decide) rfl ?_
    have loop_21 : ∀ (n_21 : Nat) (v : Nat → Int32) (L q n : Nat) (J : II) (pv : Nat → Nat), t - q < n_21 → (q ≤ t) → (Gd v B L E (D + q) U) → (Sd v L) → (psV (t - q) v L n = psV t w N 0) → (DW I J b v B L E pv (I b 9)) → Go g k 4 (Qm g k (CH g I b X T 8 (fPass (nI t)) ((psV t w N 0).1) B (psV t w N 0).2.1 E (nI (psV t w N 0).2.2)) 0 0) 0 0 21 [(0, .ref b), (1, .int (nI t)), (2, .int (w 7)), (3, .int (nI q))] [] X T J := by
      intro n_21
      induction n_21 with
      | zero => intro _ _ _ _ _ _ h_; exact absurd h_ (Nat.not_lt_zero _)
      | succ n_21 ih_21 =>
        intro v L q n J pv hq hq1 hG9 hS9 hinv hJ
        refine r_iload_n (pc := 21) C 3 dX3_letDaysPass_21 rfl rfl ?_
        refine r_iload_n (pc := 22) C 1 dX3_letDaysPass_22 rfl rfl ?_
        refine r_cgeN (pc := 23) (tgt := 36) C dX3_letDaysPass_23 rfl (by omega) (by omega) (fun c_23 => ?_) (fun c_23 => ?_)
        · skip
          have e_ps : psV t w N 0 = (v, L, n) := by rw [← hinv, psV_end c_23]
          refine r_aload_n (pc := 36) C 0 dX3_letDaysPass_36 rfl rfl ?_
          refine r_aload_n (pc := 37) C 0 dX3_letDaysPass_37 rfl rfl ?_
          refine r_getI (pc := 38) C f_X3_30 ((Dk_0 hd)) rfl dX3_letDaysPass_38 ?_
          refine r_t (hJ.get at_defaultedTotal) ?_
          refine r_iload_n (pc := 41) C 2 dX3_letDaysPass_41 rfl rfl ?_
          refine r_isub (pc := 42) C dX3_letDaysPass_42 ?_
          refine r_t (y := nI (psV t w N 0).2.2) ((by rw [← ps_an hG hS hDx, e_ps])) ?_
          refine r_putI (pc := 43) C f_X3_39 ((Dk_0 hd)) rfl rfl rfl dX3_letDaysPass_43 ?_
          refine r_dk hJ.ans (fun I1 hD1 => ?_)
          rw [show v = (psV t w N 0).1 by rw [e_ps], show L = (psV t w N 0).2.1 by rw [e_ps]] at hD1
          refine r_flt (pc := 46) C (by decide) kf_X3_155 dX3_letDaysPass_46 ?_
          exact r_aret (pc := 49) C (Or.inl ⟨_, rfl⟩) (Or.inr ⟨_, rfl⟩) dX3_letDaysPass_49 (CH_ok (by simp [fPass, c_7]) hD1) (by decide)
        · skip
          refine r_aload_n (pc := 26) C 0 dX3_letDaysPass_26 rfl rfl ?_
          refine r_callV (pc := 27) C hfl k_X3_227 (c_X3_letOneDayPass hd hJ.toV hG9 hS9 (by omega)) ((Dk_0 hd)) ca_X3 rfl rfl (Nat.le_of_ble_eq_true rfl) (by decide) (by decide) dX3_letDaysPass_27 (fun r2 X2 T2 J2 h2 => ?_)
          obtain ⟨rfl, rfl, rfl, pv2, hP2⟩ := h2
          refine r_st (st' := _) rfl ?_
          rw [hJ.han] at hP2
          have hJ2 := DW.tr hJ.1 hP2
          refine r_iincN (pc := 30) (m := 1) (lo' := [(3, _), (0, _), (1, _), (2, _)]) C 3 dX3_letDaysPass_30 rfl rfl (by decide) rfl ?_
          refine r_goto (pc := 33) (tgt := 21) C dX3_letDaysPass_33 rfl ?_
          refine r_ls [1, 2, 3, 0] rfl ?_
          exact ih_21 _ _ _ _ _ _ (by omega) (by omega) (hG9.dy hS9 (by omega)).1 (hG9.dy hS9 (by omega)).2.1 (by rw [← hinv, psV_go c_23]) hJ2
    refine r_ls [2, 3, 1, 0] rfl ?_
    exact loop_21 (t + 1) _ _ 0 0 _ _ (by omega) (by omega) hG hS rfl hW
  · skip
    refine r_flt (pc := 10) C (by decide) kf_X3_148 dX3_letDaysPass_10 ?_
    exact r_aret (pc := 13) C (Or.inl ⟨_, rfl⟩) (Or.inr ⟨_, rfl⟩) dX3_letDaysPass_13 (CH_no (c := 1) (by simp [fPass, c_7]) (by decide) (by decide)) (by decide)

set_option maxHeartbeats 1000000 in
theorem c_X3_letDaysPass__x {g : GG} {X : va_W} {T : TT} {I : II} {b : Nat} (hd : isDk T b) {w : Nat → Int32} {B N E : Nat} {pm : Nat → Nat} (hV : DV I b w B N E pm) {d : Int32} (hx : ¬ okR 1 60 d) {D U : Nat} (hG : Gd w B N E D U) (hS : Sd w N) : Mc g yX3_letDaysPass cX3_letDaysPass 4 (some (.object "LendingDesk$Fault")) 6 0 0 [.ref b, .int d] X T I (CH g I b X T 8 (fPass d) w B N E (nI 0)) := by
  have hB6 := hV.hB
  have hN10 := hV.hN
  have hE20 := hV.hE
  have hB := hG.B.1
  have hN := hG.N.1
  have hE := hG.E.1
  have hW := hV.toW
  refine Mc.of (by decide) (Nat.le_of_ble_eq_true rfl) (fun k hfl C => ?_)
  refine r_lo (lo' := [(0, _), (1, _)]) rfl ?_
  refine r_iload_n (pc := 0) C 1 dX3_letDaysPass_0 rfl rfl ?_
  refine r_iconst (pc := 1) (v := 1) C dX3_letDaysPass_1 rfl ?_
  refine r_bipush (pc := 2) (v := 60) C dX3_letDaysPass_2 rfl ?_
  refine r_callSN (pc := 4) C hfl kn_X3_144 c_X9_isWithin rfl rfl (Nat.le_of_ble_eq_true rfl) (by decide) (by decide) dX3_letDaysPass_4 ?_
  refine r_ifneB (pc := 7) (tgt := 14) C dX3_letDaysPass_7 rfl (fun c_7 => False.elim (by exact hx c_7)) (fun c_7 => ?_)
  refine r_flt (pc := 10) C (by decide) kf_X3_148 dX3_letDaysPass_10 ?_
  exact r_aret (pc := 13) C (Or.inl ⟨_, rfl⟩) (Or.inr ⟨_, rfl⟩) dX3_letDaysPass_13 (CH_no (c := 1) (by simp [fPass, hx]) (by decide) (by decide)) (by decide)
