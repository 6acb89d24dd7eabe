set_option maxHeartbeats 1000000 in
theorem c_defaultsNow {g : GG} {X : va_W} {T : TT} {I : II} {M : Nat} {w : Nat → Int32} (hm : isMd T M) {N s b d : Nat} {p u : Nat → Nat} (hN : w 2 = nI N) (hN10 : N ≤ 10) (hs : s < N) (hb : b < 6) (hw : w (58 + 10 * s + 1) = nI b) (hD : Dk w s p u d) : Mc g yX10_defaultsNow cX10_defaultsNow 4 none 3 0 0 [.ref M, .int (nI s)] X T (sr I (M + 1) w) (Ex none X T (sr I (M + 1) (dfV w N s b d p u))) := by
  refine Mc.of (by decide) (Nat.le_of_ble_eq_true rfl) (fun k hfl C => ?_)
  refine r_lo (lo' := [(0, _), (1, _)]) rfl ?_
  refine r_iconst (pc := 0) (v := 0) C dX10_defaultsNow_0 rfl ?_
  refine r_istore_n (pc := 1) (lo' := [(2, _), (0, _), (1, _)]) C dX10_defaultsNow_1 rfl (by decide) rfl ?_
  refine r_iconst (pc := 2) (v := 0) C dX10_defaultsNow_2 rfl ?_
  refine r_istore_n (pc := 3) (lo' := [(3, _), (2, _), (0, _), (1, _)]) C dX10_defaultsNow_3 rfl (by decide) rfl ?_
  have loop_4 : ∀ (n_4 : Nat) (q : Nat), 4 - q < n_4 → (q ≤ 4) → Go g k 4 (Qm g k (Ex none X T (sr I (M + 1) (dfV w N s b d p u))) 0 0) 0 0 4 [(0, .ref M), (1, .int (nI s)), (2, .int (nI (zz p u d q))), (3, .int (nI q))] [] X T ((sr I (M + 1) (tkV w s (am (tt p u d) q 0)))) := by
    intro n_4
    induction n_4 with
    | zero => intro _ h_; exact absurd h_ (Nat.not_lt_zero _)
    | succ n_4 ih_4 =>
      intro q hq hq1
      refine r_iload_n (pc := 4) C 3 dX10_defaultsNow_4 rfl rfl ?_
      refine r_iconst (pc := 5) (v := 4) C dX10_defaultsNow_5 rfl ?_
      refine r_cgeN (pc := 6) (tgt := 84) C dX10_defaultsNow_6 rfl (by omega) (by omega) (fun c_6 => ?_) (fun c_6 => ?_)
      · skip
        obtain rfl : q = 4 := by omega
        refine r_aload_n (pc := 84) C 0 dX10_defaultsNow_84 rfl rfl ?_
        refine r_iload_n (pc := 85) C 1 dX10_defaultsNow_85 rfl rfl ?_
        refine r_cVi (pc := 86) C hfl k_X10_62 (c_debtAt hm (by omega)) hm.1 ca_X10 rfl rfl (Nat.le_of_ble_eq_true rfl) (by decide) (by decide) dX10_defaultsNow_86 ?_
        refine r_t (y := nI d) (debt_tk.trans hD.2.2.1) ?_
        refine r_iload_n (pc := 89) C 2 dX10_defaultsNow_89 rfl rfl ?_
        refine r_cleN (pc := 90) (tgt := 110) C dX10_defaultsNow_90 rfl (by have := hD.2.2.2; omega) (by have h9 := zz_le (u := u) (d := d) hD.p 4 (Nat.le_refl _); have := hD.2.2.2; omega) (fun c_90 => ?_) (fun c_90 => ?_)
        · skip
          refine r_I (I' := (sr I (M + 1) (dfA w s d p u))) (by rw [dfA, lsV, if_neg (by omega)]) ?_
          refine r_aload_n (pc := 110) C 0 dX10_defaultsNow_110 rfl rfl ?_
          refine r_iload_n (pc := 111) C 1 dX10_defaultsNow_111 rfl rfl ?_
          refine r_cVv (pc := 112) C hfl k_X10_143 (c_givesBack hm (by omega) hb ((dfA_n (by omega) (by omega) (by omega)).trans hw)) hm.1 ca_X10 rfl rfl (Nat.le_of_ble_eq_true rfl) (by decide) (by decide) dX10_defaultsNow_112 ?_
          refine r_aload_n (pc := 115) C 0 dX10_defaultsNow_115 rfl rfl ?_
          refine r_aload_n (pc := 116) C 0 dX10_defaultsNow_116 rfl rfl ?_
          refine r_iload_n (pc := 117) C 1 dX10_defaultsNow_117 rfl rfl ?_
          refine r_iconst (pc := 118) (v := 1) C dX10_defaultsNow_118 rfl ?_
          refine r_cVi (pc := 119) C hfl k_X10_58 (c_is hm (by omega) (by omega)) hm.1 ca_X10 rfl rfl (Nat.le_of_ble_eq_true rfl) (by decide) (by decide) dX10_defaultsNow_119 ?_
          refine r_t (y := nI b) ((gbK_n (by omega) (by omega)).trans ((dfA_n (by omega) (by omega) (by omega)).trans hw)) ?_
          refine r_iconst (pc := 122) (v := 1) C dX10_defaultsNow_122 rfl ?_
          refine r_iconst (pc := 123) (v := 1) C dX10_defaultsNow_123 rfl ?_
          refine r_cVv (pc := 124) C hfl k_X10_69 (c_adds hm (by omega) (by omega)) hm.1 ca_X10 rfl rfl (Nat.le_of_ble_eq_true rfl) (by decide) (by decide) dX10_defaultsNow_124 ?_
          refine r_aload_n (pc := 127) C 0 dX10_defaultsNow_127 rfl rfl ?_
          refine r_getR (pc := 128) (x := M + 1) C f_X10_13 hm.1 rfl rfl dX10_defaultsNow_128 ?_
          refine r_bipush (pc := 131) (v := 7) C dX10_defaultsNow_131 rfl ?_
          refine r_dup2 (pc := 133) C dX10_defaultsNow_133 rfl rfl ?_
          refine r_wld (pc := 134) (x := 7) C hm.2.1 rfl (by omega) (by decide) dX10_defaultsNow_134 ?_
          refine r_iconst (pc := 135) (v := 1) C dX10_defaultsNow_135 rfl ?_
          refine r_iadd (pc := 136) C dX10_defaultsNow_136 ?_
          refine r_wst (pc := 137) (x := 7) C hm.2.1 rfl (by omega) (by decide) dX10_defaultsNow_137 ?_
          refine r_I (I' := (sr I (M + 1) (ad (ad (gbK (dfA w s d p u) s b 4) (22 + 6 * b + 1) (nI 1)) 7 (nI 1)))) rfl ?_
          refine r_aload_n (pc := 138) C 0 dX10_defaultsNow_138 rfl rfl ?_
          refine r_iload_n (pc := 139) C 1 dX10_defaultsNow_139 rfl rfl ?_
          refine r_cVv (pc := 140) C hfl k_X10_147 (c_goes hm (by rw [ad_n (by omega), ad_n (by omega), gbK_n (by omega) (by omega), dfA_n (by omega) (by omega) (by omega)]; exact hN) hN10 hs) hm.1 ca_X10 rfl rfl (Nat.le_of_ble_eq_true rfl) (by decide) (by decide) dX10_defaultsNow_140 ?_
          exact r_vret (pc := 143) C dX10_defaultsNow_143 ⟨rfl, rfl, rfl, rfl⟩ (by decide)
        · skip
          refine r_aload_n (pc := 93) C 0 dX10_defaultsNow_93 rfl rfl ?_
          refine r_getR (pc := 94) (x := M + 1) C f_X10_13 hm.1 rfl rfl dX10_defaultsNow_94 ?_
          refine r_bipush (pc := 97) (v := 8) C dX10_defaultsNow_97 rfl ?_
          refine r_dup2 (pc := 99) C dX10_defaultsNow_99 rfl rfl ?_
          refine r_wld (pc := 100) (x := 8) C hm.2.1 rfl (by omega) (by decide) dX10_defaultsNow_100 ?_
          refine r_aload_n (pc := 101) C 0 dX10_defaultsNow_101 rfl rfl ?_
          refine r_iload_n (pc := 102) C 1 dX10_defaultsNow_102 rfl rfl ?_
          refine r_cVi (pc := 103) C hfl k_X10_62 (c_debtAt hm (by omega)) hm.1 ca_X10 rfl rfl (Nat.le_of_ble_eq_true rfl) (by decide) (by decide) dX10_defaultsNow_103 ?_
          refine r_t (y := nI d) (debt_tk.trans hD.2.2.1) ?_
          refine r_iload_n (pc := 106) C 2 dX10_defaultsNow_106 rfl rfl ?_
          refine r_isub (pc := 107) C dX10_defaultsNow_107 ?_
          refine r_t (y := nI ((d - zz p u d 4))) (pk_sub (by omega)) ?_
          refine r_iadd (pc := 108) C dX10_defaultsNow_108 ?_
          refine r_wst (pc := 109) (x := 8) C hm.2.1 rfl (by omega) (by decide) dX10_defaultsNow_109 ?_
          refine r_I (I' := (sr I (M + 1) (dfA w s d p u))) (by rw [dfA, lsV, if_pos (by omega)]; rfl) ?_
          refine r_aload_n (pc := 110) C 0 dX10_defaultsNow_110 rfl rfl ?_
          refine r_iload_n (pc := 111) C 1 dX10_defaultsNow_111 rfl rfl ?_
          refine r_cVv (pc := 112) C hfl k_X10_143 (c_givesBack hm (by omega) hb ((dfA_n (by omega) (by omega) (by omega)).trans hw)) hm.1 ca_X10 rfl rfl (Nat.le_of_ble_eq_true rfl) (by decide) (by decide) dX10_defaultsNow_112 ?_
          refine r_aload_n (pc := 115) C 0 dX10_defaultsNow_115 rfl rfl ?_
          refine r_aload_n (pc := 116) C 0 dX10_defaultsNow_116 rfl rfl ?_
          refine r_iload_n (pc := 117) C 1 dX10_defaultsNow_117 rfl rfl ?_
          refine r_iconst (pc := 118) (v := 1) C dX10_defaultsNow_118 rfl ?_
          refine r_cVi (pc := 119) C hfl k_X10_58 (c_is hm (by omega) (by omega)) hm.1 ca_X10 rfl rfl (Nat.le_of_ble_eq_true rfl) (by decide) (by decide) dX10_defaultsNow_119 ?_
          refine r_t (y := nI b) ((gbK_n (by omega) (by omega)).trans ((dfA_n (by omega) (by omega) (by omega)).trans hw)) ?_
          refine r_iconst (pc := 122) (v := 1) C dX10_defaultsNow_122 rfl ?_
          refine r_iconst (pc := 123) (v := 1) C dX10_defaultsNow_123 rfl ?_
          refine r_cVv (pc := 124) C hfl k_X10_69 (c_adds hm (by omega) (by omega)) hm.1 ca_X10 rfl rfl (Nat.le_of_ble_eq_true rfl) (by decide) (by decide) dX10_defaultsNow_124 ?_
          refine r_aload_n (pc := 127) C 0 dX10_defaultsNow_127 rfl rfl ?_
          refine r_getR (pc := 128) (x := M + 1) C f_X10_13 hm.1 rfl rfl dX10_defaultsNow_128 ?_
          refine r_bipush (pc := 131) (v := 7) C dX10_defaultsNow_131 rfl ?_
          refine r_dup2 (pc := 133) C dX10_defaultsNow_133 rfl rfl ?_
          refine r_wld (pc := 134) (x := 7) C hm.2.1 rfl (by omega) (by decide) dX10_defaultsNow_134 ?_
          refine r_iconst (pc := 135) (v := 1) C dX10_defaultsNow_135 rfl ?_
          refine r_iadd (pc := 136) C dX10_defaultsNow_136 ?_
          refine r_wst (pc := 137) (x := 7) C hm.2.1 rfl (by omega) (by decide) dX10_defaultsNow_137 ?_
          refine r_I (I' := (sr I (M + 1) (ad (ad (gbK (dfA w s d p u) s b 4) (22 + 6 * b + 1) (nI 1)) 7 (nI 1)))) rfl ?_
          refine r_aload_n (pc := 138) C 0 dX10_defaultsNow_138 rfl rfl ?_
          refine r_iload_n (pc := 139) C 1 dX10_defaultsNow_139 rfl rfl ?_
          refine r_cVv (pc := 140) C hfl k_X10_147 (c_goes hm (by rw [ad_n (by omega), ad_n (by omega), gbK_n (by omega) (by omega), dfA_n (by omega) (by omega) (by omega)]; exact hN) hN10 hs) hm.1 ca_X10 rfl rfl (Nat.le_of_ble_eq_true rfl) (by decide) (by decide) dX10_defaultsNow_140 ?_
          exact r_vret (pc := 143) C dX10_defaultsNow_143 ⟨rfl, rfl, rfl, rfl⟩ (by decide)
      · skip
        have loop_9 : ∀ (n_9 : Nat) (i : Nat), tt p u d q - i < n_9 → (i ≤ tt p u d q) → Go g k 4 (Qm g k (Ex none X T (sr I (M + 1) (dfV w N s b d p u))) 0 0) 0 0 9 [(0, .ref M), (1, .int (nI s)), (2, .int (nI (zz p u d q + i * p q))), (3, .int (nI q))] [] X T ((sr I (M + 1) (tkV w s (am (tt p u d) q i)))) := by
          intro n_9
          induction n_9 with
          | zero => intro _ h_; exact absurd h_ (Nat.not_lt_zero _)
          | succ n_9 ih_9 =>
            intro i hi hi1
            refine r_iload_n (pc := 9) C 2 dX10_defaultsNow_9 rfl rfl ?_
            refine r_aload_n (pc := 10) C 0 dX10_defaultsNow_10 rfl rfl ?_
            refine r_iload_n (pc := 11) C 1 dX10_defaultsNow_11 rfl rfl ?_
            refine r_cVi (pc := 12) C hfl k_X10_62 (c_debtAt hm (by omega)) hm.1 ca_X10 rfl rfl (Nat.le_of_ble_eq_true rfl) (by decide) (by decide) dX10_defaultsNow_12 ?_
            refine r_t (y := nI d) (debt_tk.trans hD.2.2.1) ?_
            refine r_cgeN (pc := 15) (tgt := 78) C dX10_defaultsNow_15 rfl (by have h9 := zz_ati hD.p c_6 hi1; have := hD.2.2.2; omega) (by have := hD.2.2.2; omega) (fun c_15 => ?_) (fun c_15 => ?_)
            · skip
              obtain rfl : i = tt p u d q := by
                rcases Nat.lt_or_ge i (tt p u d q) with h9 | h9
                · have h8 := (tt_lt (hD.p q c_6).1 hi1).mpr h9
                  omega
                · omega
              refine r_iincN (pc := 78) (m := 1) (lo' := [(3, _), (0, _), (1, _), (2, _)]) C 3 dX10_defaultsNow_78 rfl rfl (by decide) rfl ?_
              refine r_goto (pc := 81) (tgt := 4) C dX10_defaultsNow_81 rfl ?_
              refine r_ls [1, 2, 3, 0] rfl ?_
              rw [← zz_s]
              refine r_I (I' := (sr I (M + 1) (tkV w s (am (tt p u d) (q + 1) 0)))) (by rw [am_s]) ?_
              exact ih_4 (q + 1) (by omega) (by omega)
            · skip
              refine r_aload_n (pc := 18) C 0 dX10_defaultsNow_18 rfl rfl ?_
              refine r_iload_n (pc := 19) C 1 dX10_defaultsNow_19 rfl rfl ?_
              refine r_bipush (pc := 20) (v := 6) C dX10_defaultsNow_20 rfl ?_
              refine r_iload_n (pc := 22) C 3 dX10_defaultsNow_22 rfl rfl ?_
              refine r_iaddN (pc := 23) C dX10_defaultsNow_23 ?_
              refine r_cVi (pc := 24) C hfl k_X10_58 (c_is hm (by omega) (by omega)) hm.1 ca_X10 rfl rfl (Nat.le_of_ble_eq_true rfl) (by decide) (by decide) dX10_defaultsNow_24 ?_
              refine r_t (y := nI ((u q - i))) ((tkV_u c_6).trans (by rw [(hD.2.1 q c_6).1, pk_sub (by have := tt_le (p := p) (u := u) (d := d) (k := q); omega)])) ?_
              refine r_ifleN (pc := 27) (tgt := 78) C dX10_defaultsNow_27 rfl (by have := (hD.2.1 q c_6).2; omega) (fun c_27 => ?_) (fun c_27 => ?_)
              · skip
                obtain rfl : i = tt p u d q := by
                  rcases Nat.lt_or_ge i (tt p u d q) with h9 | h9
                  · have h8 := (tt_lt (hD.p q c_6).1 hi1).mpr h9
                    omega
                  · omega
                refine r_iincN (pc := 78) (m := 1) (lo' := [(3, _), (0, _), (1, _), (2, _)]) C 3 dX10_defaultsNow_78 rfl rfl (by decide) rfl ?_
                refine r_goto (pc := 81) (tgt := 4) C dX10_defaultsNow_81 rfl ?_
                refine r_ls [1, 2, 3, 0] rfl ?_
                rw [← zz_s]
                refine r_I (I' := (sr I (M + 1) (tkV w s (am (tt p u d) (q + 1) 0)))) (by rw [am_s]) ?_
                exact ih_4 (q + 1) (by omega) (by omega)
              · skip
                refine r_aload_n (pc := 30) C 0 dX10_defaultsNow_30 rfl rfl ?_
                refine r_iload_n (pc := 31) C 1 dX10_defaultsNow_31 rfl rfl ?_
                refine r_bipush (pc := 32) (v := 6) C dX10_defaultsNow_32 rfl ?_
                refine r_iload_n (pc := 34) C 3 dX10_defaultsNow_34 rfl rfl ?_
                refine r_iaddN (pc := 35) C dX10_defaultsNow_35 ?_
                refine r_aload_n (pc := 36) C 0 dX10_defaultsNow_36 rfl rfl ?_
                refine r_iload_n (pc := 37) C 1 dX10_defaultsNow_37 rfl rfl ?_
                refine r_bipush (pc := 38) (v := 6) C dX10_defaultsNow_38 rfl ?_
                refine r_iload_n (pc := 40) C 3 dX10_defaultsNow_40 rfl rfl ?_
                refine r_iaddN (pc := 41) C dX10_defaultsNow_41 ?_
                refine r_cVi (pc := 42) C hfl k_X10_58 (c_is hm (by omega) (by omega)) hm.1 ca_X10 rfl rfl (Nat.le_of_ble_eq_true rfl) (by decide) (by decide) dX10_defaultsNow_42 ?_
                refine r_t (y := nI ((u q - i))) ((tkV_u c_6).trans (by rw [(hD.2.1 q c_6).1, pk_sub (by have := tt_le (p := p) (u := u) (d := d) (k := q); omega)])) ?_
                refine r_iconst (pc := 45) (v := 1) C dX10_defaultsNow_45 rfl ?_
                refine r_isub (pc := 46) C dX10_defaultsNow_46 ?_
                refine r_t (y := nI ((u q - i - 1))) (pk_sub (by omega)) ?_
                refine r_cVv (pc := 47) C hfl k_X10_73 (c_puts hm (by omega) (by omega)) hm.1 ca_X10 rfl rfl (Nat.le_of_ble_eq_true rfl) (by decide) (by decide) dX10_defaultsNow_47 ?_
                refine r_aload_n (pc := 50) C 0 dX10_defaultsNow_50 rfl rfl ?_
                refine r_getR (pc := 51) (x := M + 1) C f_X10_13 hm.1 rfl rfl dX10_defaultsNow_51 ?_
                refine r_bipush (pc := 54) (v := 14) C dX10_defaultsNow_54 rfl ?_
                refine r_iload_n (pc := 56) C 3 dX10_defaultsNow_56 rfl rfl ?_
                refine r_iaddN (pc := 57) C dX10_defaultsNow_57 ?_
                refine r_dup2 (pc := 58) C dX10_defaultsNow_58 rfl rfl ?_
                refine r_wld (pc := 59) (x := 14 + q) C hm.2.1 rfl (by omega) (by decide) dX10_defaultsNow_59 ?_
                refine r_iconst (pc := 60) (v := 1) C dX10_defaultsNow_60 rfl ?_
                refine r_iadd (pc := 61) C dX10_defaultsNow_61 ?_
                refine r_wst (pc := 62) (x := 14 + q) C hm.2.1 rfl (by omega) (by decide) dX10_defaultsNow_62 ?_
                refine r_I (I' := (sr I (M + 1) (tkV w s (am (tt p u d) q (i + 1))))) (congrArg (sr I (M + 1)) (tkV_s c_6 (by rw [(hD.2.1 q c_6).1, pk_sub (by omega), Nat.sub_sub]))) ?_
                refine r_iload_n (pc := 63) C 2 dX10_defaultsNow_63 rfl rfl ?_
                refine r_aload_n (pc := 64) C 0 dX10_defaultsNow_64 rfl rfl ?_
                refine r_getR (pc := 65) (x := M + 1) C f_X10_13 hm.1 rfl rfl dX10_defaultsNow_65 ?_
                refine r_bipush (pc := 68) (v := 10) C dX10_defaultsNow_68 rfl ?_
                refine r_iload_n (pc := 70) C 3 dX10_defaultsNow_70 rfl rfl ?_
                refine r_iaddN (pc := 71) C dX10_defaultsNow_71 ?_
                refine r_wld (pc := 72) (x := 10 + q) C hm.2.1 rfl (by omega) (by decide) dX10_defaultsNow_72 ?_
                refine r_t (y := nI ((p q))) ((tkV_n (by omega) (by omega)).trans (hD.1 q c_6).1) ?_
                refine r_iaddN (pc := 73) C dX10_defaultsNow_73 ?_
                refine r_t (y := nI ((zz p u d q + (i + 1) * p q))) (congrArg nI (by rw [Nat.succ_mul, Nat.add_assoc])) ?_
                refine r_istore_n (pc := 74) (lo' := [(2, _), (0, _), (1, _), (3, _)]) C dX10_defaultsNow_74 rfl (by decide) rfl ?_
                refine r_goto (pc := 75) (tgt := 9) C dX10_defaultsNow_75 rfl ?_
                refine r_ls [1, 2, 0, 3] rfl ?_
                have h9 := (tt_lt (hD.p q c_6).1 hi1).mp ⟨c_15, by omega⟩
                exact ih_9 (i + 1) (by omega) (by omega)
        refine r_ls [0, 1, 2, 3] rfl ?_
        rw [show zz p u d q = zz p u d q + 0 * p q by rw [Nat.zero_mul, Nat.add_zero]]
        exact loop_9 (tt p u d q + 1) 0 (by omega) (by omega)
  refine r_ls [2, 3, 1, 0] rfl ?_
  refine r_I (I' := (sr I (M + 1) (tkV w s (am (tt p u d) 0 0)))) (by rw [tkV_0]) ?_
  exact loop_4 5 0 (by omega) (by omega)

theorem c_defaults2 {g : GG} {X : va_W} {T : TT} {I : II} {M : Nat} {w : Nat → Int32} (hm : isMd T M) {B N E D U s : Nat} (hG : Gd w B N E D U) (hs : s < N) : Mc g yX10_defaultsNow cX10_defaultsNow 4 none 3 0 0 [.ref M, .int (nI s)] X T (sr I (M + 1) w) (Ex none X T (sr I (M + 1) (dfW w N s))) :=
  c_defaultsNow hm hG.N.1 hG.N.2 hs (by have := (hG.own hs).1; have := hG.B.2; omega) (hG.own hs).2 (hG.dk hs)

set_option maxHeartbeats 1000000 in
theorem c_passesOne {g : GG} {X : va_W} {T : TT} {I : II} {M : Nat} {w : Nat → Int32} (hm : isMd T M) {B N E D U : Nat} (hG : Gd w B N E D U) (hS : Sd w N) (hD1 : D + 1 ≤ 100000) : Mc g yX10_passesOne cX10_passesOne 3 (some .int) 4 0 0 [.ref M] X T (sr I (M + 1) w) (Ex (some (.int (nI (dyV w N).2.2))) X T (sr I (M + 1) ((dyV w N).1))) := by
  have hN := hG.N.1
  have hN10 := hG.N.2
  refine Mc.of (by decide) (Nat.le_of_ble_eq_true rfl) (fun k hfl C => ?_)
  refine r_lo (lo' := [(0, _)]) rfl ?_
  refine r_aload_n (pc := 0) C 0 dX10_passesOne_0 rfl rfl ?_
  refine r_getR (pc := 1) (x := M + 1) C f_X10_13 hm.1 rfl rfl dX10_passesOne_1 ?_
  refine r_iconst (pc := 4) (v := 0) C dX10_passesOne_4 rfl ?_
  refine r_dup2 (pc := 5) C dX10_passesOne_5 rfl rfl ?_
  refine r_wld (pc := 6) (x := 0) C hm.2.1 rfl (by omega) (by decide) dX10_passesOne_6 ?_
  refine r_iconst (pc := 7) (v := 1) C dX10_passesOne_7 rfl ?_
  refine r_iadd (pc := 8) C dX10_passesOne_8 ?_
  refine r_wst (pc := 9) (x := 0) C hm.2.1 rfl (by omega) (by decide) dX10_passesOne_9 ?_
  refine r_iconst (pc := 10) (v := 0) C dX10_passesOne_10 rfl ?_
  refine r_istore_n (pc := 11) (lo' := [(1, _), (0, _)]) C dX10_passesOne_11 rfl (by decide) rfl ?_
  have loop_12 : ∀ (n_12 : Nat) (q : Nat), N - q < n_12 → (q ≤ N) → Go g k 3 (Qm g k (Ex (some (.int (nI (dyV w N).2.2))) X T (sr I (M + 1) ((dyV w N).1))) 0 0) 0 0 12 [(0, .ref M), (1, .int (nI q))] [] X T ((sr I (M + 1) (inV (upd w 0 (w 0 + nI 1)) q))) := by
    intro n_12
    induction n_12 with
    | zero => intro _ h_; exact absurd h_ (Nat.not_lt_zero _)
    | succ n_12 ih_12 =>
      intro q hq hq1
      refine r_iload_n (pc := 12) C 1 dX10_passesOne_12 rfl rfl ?_
      refine r_aload_n (pc := 13) C 0 dX10_passesOne_13 rfl rfl ?_
      refine r_getR (pc := 14) (x := M + 1) C f_X10_13 hm.1 rfl rfl dX10_passesOne_14 ?_
      refine r_iconst (pc := 17) (v := 2) C dX10_passesOne_17 rfl ?_
      refine r_wld (pc := 18) (x := 2) C hm.2.1 rfl (by omega) (by decide) dX10_passesOne_18 ?_
      refine r_t (y := nI N) ((inV_n (by omega)).trans ((upd_n (by decide)).trans hN)) ?_
      refine r_cgeN (pc := 19) (tgt := 46) C dX10_passesOne_19 rfl (by omega) (by omega) (fun c_19 => ?_) (fun c_19 => ?_)
      · skip
        refine r_I (I' := (sr I (M + 1) (ddV w N))) (by rw [show q = N by omega]; rfl) ?_
        refine r_iconst (pc := 46) (v := 0) C dX10_passesOne_46 rfl ?_
        refine r_istore_n (pc := 47) (lo' := [(1, _), (0, _)]) C dX10_passesOne_47 rfl (by decide) rfl ?_
        refine r_iconst (pc := 48) (v := 0) C dX10_passesOne_48 rfl ?_
        refine r_istore_n (pc := 49) (lo' := [(2, _), (1, _), (0, _)]) C dX10_passesOne_49 rfl (by decide) rfl ?_
        have loop_50 : ∀ (n_50 : Nat) (v : Nat → Int32) (L s n : Nat), L - s < n_50 → (s ≤ L) → (Gd v B L E (D + 1) U) → (dpV (L - s) v L s n = dyV w N) → Go g k 3 (Qm g k (Ex (some (.int (nI (dyV w N).2.2))) X T (sr I (M + 1) ((dyV w N).1))) 0 0) 0 0 50 [(0, .ref M), (1, .int (nI n)), (2, .int (nI s))] [] X T ((sr I (M + 1) v)) := by
          intro n_50
          induction n_50 with
          | zero => intro _ _ _ _ h_; exact absurd h_ (Nat.not_lt_zero _)
          | succ n_50 ih_50 =>
            intro v L s n hq hq1 hG9 hinv
            refine r_iload_n (pc := 50) C 2 dX10_passesOne_50 rfl rfl ?_
            refine r_aload_n (pc := 51) C 0 dX10_passesOne_51 rfl rfl ?_
            refine r_getR (pc := 52) (x := M + 1) C f_X10_13 hm.1 rfl rfl dX10_passesOne_52 ?_
            refine r_iconst (pc := 55) (v := 2) C dX10_passesOne_55 rfl ?_
            refine r_wld (pc := 56) (x := 2) C hm.2.1 rfl (by omega) (by decide) dX10_passesOne_56 ?_
            refine r_t (y := nI L) hG9.N.1 ?_
            refine r_cgeN (pc := 57) (tgt := 85) C dX10_passesOne_57 rfl (by have := hG9.N.2; omega) (by have := hG9.N.2; omega) (fun c_57 => ?_) (fun c_57 => ?_)
            · skip
              refine r_iload_n (pc := 85) C 1 dX10_passesOne_85 rfl rfl ?_
              exact r_iret (pc := 86) C dX10_passesOne_86 ⟨by rw [← hinv, dpV_end c_57], rfl, rfl, by rw [← hinv, dpV_end c_57]⟩ (by decide)
            · skip
              refine r_aload_n (pc := 60) C 0 dX10_passesOne_60 rfl rfl ?_
              refine r_iload_n (pc := 61) C 2 dX10_passesOne_61 rfl rfl ?_
              refine r_cVi (pc := 62) C hfl k_X10_165 (c_isFailing hm (by have := hG9.N.2; omega)) hm.1 ca_X10 rfl rfl (Nat.le_of_ble_eq_true rfl) (by decide) (by decide) dX10_passesOne_62 ?_
              refine r_ifeqB (pc := 65) (tgt := 79) C dX10_passesOne_65 rfl (fun c_65 => ?_) (fun c_65 => ?_)
              · skip
                refine r_iincN (pc := 79) (m := 1) (lo' := [(2, _), (0, _), (1, _)]) C 2 dX10_passesOne_79 rfl rfl (by decide) rfl ?_
                refine r_goto (pc := 82) (tgt := 50) C dX10_passesOne_82 rfl ?_
                refine r_ls [1, 2, 0] rfl ?_
                exact ih_50 _ _ _ _ (by omega) (by omega) hG9 (by rw [← hinv, dpV_f c_57 c_65])
              · skip
                refine r_aload_n (pc := 68) C 0 dX10_passesOne_68 rfl rfl ?_
                refine r_iload_n (pc := 69) C 2 dX10_passesOne_69 rfl rfl ?_
                refine r_cVv (pc := 70) C hfl k_X10_168 (c_defaults2 hm hG9 c_57) hm.1 ca_X10 rfl rfl (Nat.le_of_ble_eq_true rfl) (by decide) (by decide) dX10_passesOne_70 ?_
                refine r_iincN (pc := 73) (m := 1) (lo' := [(1, _), (0, _), (2, _)]) C 1 dX10_passesOne_73 rfl rfl (by decide) rfl ?_
                refine r_goto (pc := 76) (tgt := 50) C dX10_passesOne_76 rfl ?_
                refine r_ls [1, 0, 2] rfl ?_
                exact ih_50 _ _ _ _ (by omega) (by omega) (hG9.df c_57) (by rw [← hinv, dpV_t c_57 c_65])
        refine r_ls [2, 1, 0] rfl ?_
        exact loop_50 (N + 1) (ddV w N) N 0 0 (by omega) (by omega) (hG.dd hS hD1) rfl
      · skip
        refine r_aload_n (pc := 22) C 0 dX10_passesOne_22 rfl rfl ?_
        refine r_iload_n (pc := 23) C 1 dX10_passesOne_23 rfl rfl ?_
        refine r_iconst (pc := 24) (v := 3) C dX10_passesOne_24 rfl ?_
        refine r_aload_n (pc := 25) C 0 dX10_passesOne_25 rfl rfl ?_
        refine r_iload_n (pc := 26) C 1 dX10_passesOne_26 rfl rfl ?_
        refine r_iconst (pc := 27) (v := 3) C dX10_passesOne_27 rfl ?_
        refine r_cVi (pc := 28) C hfl k_X10_58 (c_is hm (by omega) (by omega)) hm.1 ca_X10 rfl rfl (Nat.le_of_ble_eq_true rfl) (by decide) (by decide) dX10_passesOne_28 ?_
        refine r_aload_n (pc := 31) C 0 dX10_passesOne_31 rfl rfl ?_
        refine r_iload_n (pc := 32) C 1 dX10_passesOne_32 rfl rfl ?_
        refine r_cVi (pc := 33) C hfl k_X10_162 (c_interestPerDay hm (by omega)) hm.1 ca_X10 rfl rfl (Nat.le_of_ble_eq_true rfl) (by decide) (by decide) dX10_passesOne_33 ?_
        refine r_iadd (pc := 36) C dX10_passesOne_36 ?_
        refine r_cVv (pc := 37) C hfl k_X10_73 (c_puts hm (by omega) (by omega)) hm.1 ca_X10 rfl rfl (Nat.le_of_ble_eq_true rfl) (by decide) (by decide) dX10_passesOne_37 ?_
        refine r_iincN (pc := 40) (m := 1) (lo' := [(1, _), (0, _)]) C 1 dX10_passesOne_40 rfl rfl (by decide) rfl ?_
        refine r_goto (pc := 43) (tgt := 12) C dX10_passesOne_43 rfl ?_
        refine r_ls [1, 0] rfl ?_
        refine r_I (I' := (sr I (M + 1) (inV (upd w 0 (w 0 + nI 1)) (q + 1)))) (congrArg (sr I (M + 1)) (inV_s rfl)) ?_
        exact ih_12 (q + 1) (by omega) (by omega)
  refine r_ls [1, 0] rfl ?_
  refine r_I (I' := (sr I (M + 1) (inV (upd w 0 (w 0 + nI 1)) 0))) (by rw [inV_0]) ?_
  exact loop_12 (N + 1) 0 (by omega) (by omega)

set_option maxHeartbeats 1000000 in
theorem c_passes {g : GG} {X : va_W} {T : TT} {I : II} {M : Nat} {w : Nat → Int32} (hm : isMd T M) {B N E D U t : Nat} (hG : Gd w B N E D U) (hS : Sd w N) (ht : t ≤ 60) (hD1 : D + t ≤ 100000) : Mc g yX10_passes cX10_passes 4 (some .int) 5 0 0 [.ref M, .int (nI t)] X T (sr I (M + 1) w) (Ex (some (.int (nI (psV t w N 0).2.2))) X T (sr I (M + 1) ((psV t w N 0).1))) := by
  refine Mc.of (by decide) (Nat.le_of_ble_eq_true rfl) (fun k hfl C => ?_)
  refine r_lo (lo' := [(0, _), (1, _)]) rfl ?_
  refine r_iconst (pc := 0) (v := 0) C dX10_passes_0 rfl ?_
  refine r_istore_n (pc := 1) (lo' := [(2, _), (0, _), (1, _)]) C dX10_passes_1 rfl (by decide) rfl ?_
  refine r_iconst (pc := 2) (v := 0) C dX10_passes_2 rfl ?_
  refine r_istore_n (pc := 3) (lo' := [(3, _), (2, _), (0, _), (1, _)]) C dX10_passes_3 rfl (by decide) rfl ?_
  have loop_4 : ∀ (n_4 : Nat) (v : Nat → Int32) (L q n : Nat), t - q < n_4 → (q ≤ t) → (Gd v B L E (D + q) U) → (Sd v L) → (psV (t - q) v L n = psV t w N 0) → Go g k 4 (Qm g k (Ex (some (.int (nI (psV t w N 0).2.2))) X T (sr I (M + 1) ((psV t w N 0).1))) 0 0) 0 0 4 [(0, .ref M), (1, .int (nI t)), (2, .int (nI n)), (3, .int (nI q))] [] X T ((sr I (M + 1) v)) := by
    intro n_4
    induction n_4 with
    | zero => intro _ _ _ _ h_; exact absurd h_ (Nat.not_lt_zero _)
    | succ n_4 ih_4 =>
      intro v L q n hq hq1 hG9 hS9 hinv
      refine r_iload_n (pc := 4) C 3 dX10_passes_4 rfl rfl ?_
      refine r_iload_n (pc := 5) C 1 dX10_passes_5 rfl rfl ?_
      refine r_cgeN (pc := 6) (tgt := 22) C dX10_passes_6 rfl (by omega) (by omega) (fun c_6 => ?_) (fun c_6 => ?_)
      · skip
        refine r_iload_n (pc := 22) C 2 dX10_passes_22 rfl rfl ?_
        exact r_iret (pc := 23) C dX10_passes_23 ⟨by rw [← hinv, psV_end c_6], rfl, rfl, by rw [← hinv, psV_end c_6]⟩ (by decide)
      · skip
        refine r_iload_n (pc := 9) C 2 dX10_passes_9 rfl rfl ?_
        refine r_aload_n (pc := 10) C 0 dX10_passes_10 rfl rfl ?_
        refine r_cVi (pc := 11) C hfl k_X10_171 (c_passesOne hm hG9 hS9 (by omega)) hm.1 ca_X10 rfl rfl (Nat.le_of_ble_eq_true rfl) (by decide) (by decide) dX10_passes_11 ?_
        refine r_iaddN (pc := 14) C dX10_passes_14 ?_
        refine r_istore_n (pc := 15) (lo' := [(2, _), (0, _), (1, _), (3, _)]) C dX10_passes_15 rfl (by decide) rfl ?_
        refine r_iincN (pc := 16) (m := 1) (lo' := [(3, _), (2, _), (0, _), (1, _)]) C 3 dX10_passes_16 rfl rfl (by decide) rfl ?_
        refine r_goto (pc := 19) (tgt := 4) C dX10_passes_19 rfl ?_
        refine r_ls [2, 3, 1, 0] rfl ?_
        exact ih_4 _ _ _ _ (by omega) (by omega) (hG9.dy hS9 (by omega)).1 (hG9.dy hS9 (by omega)).2.1 (by rw [← hinv, psV_go c_6])
  refine r_ls [2, 3, 1, 0] rfl ?_
  exact loop_4 (t + 1) w N 0 0 (by omega) (by omega) hG hS rfl

set_option maxHeartbeats 1000000 in
theorem c_pass__x {g : GG} {X : va_W} {T : TT} {I : II} {M : Nat} {w : Nat → Int32} (hm : isMd T M) {d : Int32} (h0 : fPass d ≠ 0) : Mc g yX10_pass cX10_pass 2 (some .int) 7 0 0 [.ref M, .int d] X T (sr I (M + 1) w) (Ex (some (.int (nI 0))) X T (sr (u2 I M 0 (nI 1)) (M + 1) w)) := by
  refine Mc.of (by decide) (Nat.le_of_ble_eq_true rfl) (fun k hfl C => ?_)
  refine r_lo (lo' := [(0, _), (1, _)]) rfl ?_
  refine r_aload_n (pc := 0) C 0 dX10_pass_0 rfl rfl ?_
  refine r_iconst (pc := 1) (v := 0) C dX10_pass_1 rfl ?_
  refine r_wput (pc := 2) (by omega) C f_X10_1 hm.1 rfl rfl rfl dX10_pass_2 ?_
  refine r_iload_n (pc := 5) C 1 dX10_pass_5 rfl rfl ?_
  refine r_cSi (pc := 6) C hfl k_X10_175 (c_notPass _) rfl rfl (Nat.le_of_ble_eq_true rfl) (by decide) (by decide) dX10_pass_6 ?_
  refine r_ifeqN (pc := 9) (tgt := 18) C dX10_pass_9 rfl (by have := fPass_le d; omega) (fun c_9 => False.elim (by omega)) (fun c_9 => ?_)
  refine r_aload_n (pc := 12) C 0 dX10_pass_12 rfl rfl ?_
  refine r_iconst (pc := 13) (v := 1) C dX10_pass_13 rfl ?_
  refine r_cVi (pc := 14) C hfl k_X10_79 (c_fails hm ) hm.1 ca_X10 rfl rfl (Nat.le_of_ble_eq_true rfl) (by decide) (by decide) dX10_pass_14 ?_
  exact r_iret (pc := 17) C dX10_pass_17 ⟨rfl, rfl, rfl, by rw [u2_u2]⟩ (by decide)

set_option maxHeartbeats 1000000 in
theorem c_pass__o {g : GG} {X : va_W} {T : TT} {I : II} {M : Nat} {w : Nat → Int32} (hm : isMd T M) {B N E D U t : Nat} (hG : Gd w B N E D U) (hS : Sd w N) (ht : t ≤ 60) (hD1 : D + t ≤ 100000) (h0 : fPass (nI t) = 0) {c f : Nat} (hc : I M 5 = nI c) (hf : I M 6 = nI f) (hf8 : f < 8) (hc8 : c ≤ 8) : Mc g yX10_pass cX10_pass 2 (some .int) 7 0 0 [.ref M, .int (nI t)] X T (sr I (M + 1) w) (Ex (some (.int (nI (psV t w N 0).2.2))) X T (sr (rmF (u2 I M 0 (nI 0)) M w c f) (M + 1) ((psV t w N 0).1))) := by
  refine Mc.of (by decide) (Nat.le_of_ble_eq_true rfl) (fun k hfl C => ?_)
  refine r_lo (lo' := [(0, _), (1, _)]) rfl ?_
  refine r_aload_n (pc := 0) C 0 dX10_pass_0 rfl rfl ?_
  refine r_iconst (pc := 1) (v := 0) C dX10_pass_1 rfl ?_
  refine r_wput (pc := 2) (by omega) C f_X10_1 hm.1 rfl rfl rfl dX10_pass_2 ?_
  refine r_iload_n (pc := 5) C 1 dX10_pass_5 rfl rfl ?_
  refine r_cSi (pc := 6) C hfl k_X10_175 (c_notPass _) rfl rfl (Nat.le_of_ble_eq_true rfl) (by decide) (by decide) dX10_pass_6 ?_
  refine r_ifeqN (pc := 9) (tgt := 18) C dX10_pass_9 rfl (by have := fPass_le (nI t); omega) (fun c_9 => ?_) (fun c_9 => False.elim (by omega))
  refine r_aload_n (pc := 18) C 0 dX10_pass_18 rfl rfl ?_
  refine r_cVv (pc := 19) C hfl k_X10_82 (c_rem hm ((u2_o (by decide)).trans hc) ((u2_o (by decide)).trans hf) hf8 hc8) hm.1 ca_X10 rfl rfl (Nat.le_of_ble_eq_true rfl) (by decide) (by decide) dX10_pass_19 ?_
  refine r_aload_n (pc := 22) C 0 dX10_pass_22 rfl rfl ?_
  refine r_iload_n (pc := 23) C 1 dX10_pass_23 rfl rfl ?_
  refine r_cVi (pc := 24) C hfl k_X10_178 (c_passes hm hG hS ht hD1) hm.1 ca_X10 rfl rfl (Nat.le_of_ble_eq_true rfl) (by decide) (by decide) dX10_pass_24 ?_
  exact r_iret (pc := 27) C dX10_pass_27 ⟨rfl, rfl, rfl, rfl⟩ (by decide)
