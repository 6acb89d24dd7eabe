theorem c_rem {g : GG} {X : va_W} {T : TT} {I : II} {M : Nat} {w : Nat → Int32} (hm : isMd T M) {c f : Nat} (hc : I M 5 = nI c) (hf : I M 6 = nI f) (hf8 : f < 8) (hc8 : c ≤ 8) : Mc g yX10_remembers cX10_remembers 1 none 2 0 0 [.ref M] X T (sr I (M + 1) w) (Ex none X T (sr (rmF I M w c f) (M + 1) w)) := by
  rw [← rmI_sr]
  exact c_remembers hm ((congrFun (sr_n (by omega)) _).trans hc) ((congrFun (sr_n (by omega)) _).trans hf) hf8 hc8

set_option maxHeartbeats 1000000 in
theorem c_lends {g : GG} {X : va_W} {T : TT} {I : II} {M : Nat} {w : Nat → Int32} (hm : isMd T M) {N n m : Nat} {u p t : Int32} (hN : w 2 = nI N) (hN10 : N < 10) (hn : n < 6) (hm4 : m < 4) : Mc g yX10_lends cX10_lends 8 (some .int) 3 0 0 [.ref M, .int (nI n), .int (nI m), .int u, .int p, .int t] X T (sr I (M + 1) w) (Ex (some (.int (w 3))) X T (sr I (M + 1) (ldV w N n m u p t))) := by
  refine Mc.of (by decide) (Nat.le_of_ble_eq_true rfl) (fun k hfl C => ?_)
  refine r_lo (lo' := [(0, _), (1, _), (2, _), (3, _), (4, _), (5, _)]) rfl ?_
  refine r_aload_n (pc := 0) C 0 dX10_lends_0 rfl rfl ?_
  refine r_getR (pc := 1) (x := M + 1) C f_X10_13 hm.1 rfl rfl dX10_lends_1 ?_
  refine r_iconst (pc := 4) (v := 2) C dX10_lends_4 rfl ?_
  refine r_wld (pc := 5) (x := 2) C hm.2.1 rfl (by omega) (by decide) dX10_lends_5 ?_
  refine r_t (y := nI N) hN ?_
  refine r_istore (pc := 6) (lo' := [(6, _), (0, _), (1, _), (2, _), (3, _), (4, _), (5, _)]) C dX10_lends_6 (by decide) rfl ?_
  refine r_aload_n (pc := 8) C 1 dX10_lends_8 rfl rfl ?_
  refine r_iload (pc := 9) C 0 dX10_lends_9 rfl ?_
  refine r_iconst (pc := 11) (v := 0) C dX10_lends_11 rfl ?_
  refine r_aload_n (pc := 12) C 1 dX10_lends_12 rfl rfl ?_
  refine r_getR (pc := 13) (x := M + 1) C f_X10_13 hm.1 rfl rfl dX10_lends_13 ?_
  refine r_iconst (pc := 16) (v := 3) C dX10_lends_16 rfl ?_
  refine r_wld (pc := 17) (x := 3) C hm.2.1 rfl (by omega) (by decide) dX10_lends_17 ?_
  refine r_cVv (pc := 18) C hfl k_X10_73 (c_puts hm (by omega) (by omega)) hm.1 ca_X10 rfl rfl (Nat.le_of_ble_eq_true rfl) (by decide) (by decide) dX10_lends_18 ?_
  refine r_aload_n (pc := 21) C 1 dX10_lends_21 rfl rfl ?_
  refine r_iload (pc := 22) C 0 dX10_lends_22 rfl ?_
  refine r_iconst (pc := 24) (v := 1) C dX10_lends_24 rfl ?_
  refine r_iload_n (pc := 25) C 2 dX10_lends_25 rfl rfl ?_
  refine r_cVv (pc := 26) C hfl k_X10_73 (c_puts hm (by omega) (by omega)) hm.1 ca_X10 rfl rfl (Nat.le_of_ble_eq_true rfl) (by decide) (by decide) dX10_lends_26 ?_
  refine r_aload_n (pc := 29) C 1 dX10_lends_29 rfl rfl ?_
  refine r_iload (pc := 30) C 0 dX10_lends_30 rfl ?_
  refine r_iconst (pc := 32) (v := 2) C dX10_lends_32 rfl ?_
  refine r_iload (pc := 33) C 5 dX10_lends_33 rfl ?_
  refine r_cVv (pc := 35) C hfl k_X10_73 (c_puts hm (by omega) (by omega)) hm.1 ca_X10 rfl rfl (Nat.le_of_ble_eq_true rfl) (by decide) (by decide) dX10_lends_35 ?_
  refine r_aload_n (pc := 38) C 1 dX10_lends_38 rfl rfl ?_
  refine r_iload (pc := 39) C 0 dX10_lends_39 rfl ?_
  refine r_iconst (pc := 41) (v := 3) C dX10_lends_41 rfl ?_
  refine r_iconst (pc := 42) (v := 0) C dX10_lends_42 rfl ?_
  refine r_cVv (pc := 43) C hfl k_X10_73 (c_puts hm (by omega) (by omega)) hm.1 ca_X10 rfl rfl (Nat.le_of_ble_eq_true rfl) (by decide) (by decide) dX10_lends_43 ?_
  refine r_I (I' := (sr I (M + 1) (ld4 w N n p))) rfl ?_
  refine r_aload_n (pc := 46) C 1 dX10_lends_46 rfl rfl ?_
  refine r_iload (pc := 47) C 0 dX10_lends_47 rfl ?_
  refine r_iconst (pc := 49) (v := 4) C dX10_lends_49 rfl ?_
  refine r_bipush (pc := 50) (v := 10) C dX10_lends_50 rfl ?_
  refine r_iconst (pc := 52) (v := 5) C dX10_lends_52 rfl ?_
  refine r_aload_n (pc := 53) C 1 dX10_lends_53 rfl rfl ?_
  refine r_iload_n (pc := 54) C 2 dX10_lends_54 rfl rfl ?_
  refine r_cVi (pc := 55) C hfl k_X10_111 (c_loansWith (N := N) hm (by (try simp only [ld6, ld5, ld4]); (repeat (first | rw [upd_n (by omega)] | rw [ad_n (by omega)] | rw [sb_n (by omega)] | rw [plK_n (by omega)])); exact hN) (by omega)) hm.1 ca_X10 rfl rfl (Nat.le_of_ble_eq_true rfl) (by decide) (by decide) dX10_lends_55 ?_
  refine r_t (y := withV w N (nI n)) (withV_c (fun s hs => by (try simp only [ld6, ld5, ld4]); (repeat (first | rw [upd_n (by omega)] | rw [ad_n (by omega)] | rw [sb_n (by omega)] | rw [plK_n (by omega)])))) ?_
  refine r_imul (pc := 58) C dX10_lends_58 ?_
  refine r_iadd (pc := 59) C dX10_lends_59 ?_
  refine r_cVv (pc := 60) C hfl k_X10_73 (c_puts hm (by omega) (by omega)) hm.1 ca_X10 rfl rfl (Nat.le_of_ble_eq_true rfl) (by decide) (by decide) dX10_lends_60 ?_
  refine r_I (I' := (sr I (M + 1) (ld5 w N n p))) rfl ?_
  refine r_aload_n (pc := 63) C 1 dX10_lends_63 rfl rfl ?_
  refine r_iload (pc := 64) C 0 dX10_lends_64 rfl ?_
  refine r_iconst (pc := 66) (v := 5) C dX10_lends_66 rfl ?_
  refine r_aload_n (pc := 67) C 1 dX10_lends_67 rfl rfl ?_
  refine r_getR (pc := 68) (x := M + 1) C f_X10_13 hm.1 rfl rfl dX10_lends_68 ?_
  refine r_iconst (pc := 71) (v := 0) C dX10_lends_71 rfl ?_
  refine r_wld (pc := 72) (x := 0) C hm.2.1 rfl (by omega) (by decide) dX10_lends_72 ?_
  refine r_t (y := w 0) (by (try simp only [ld6, ld5, ld4]); (repeat (first | rw [upd_n (by omega)] | rw [ad_n (by omega)] | rw [sb_n (by omega)] | rw [plK_n (by omega)]))) ?_
  refine r_iload (pc := 73) C 6 dX10_lends_73 rfl ?_
  refine r_iadd (pc := 75) C dX10_lends_75 ?_
  refine r_cVv (pc := 76) C hfl k_X10_73 (c_puts hm (by omega) (by omega)) hm.1 ca_X10 rfl rfl (Nat.le_of_ble_eq_true rfl) (by decide) (by decide) dX10_lends_76 ?_
  refine r_I (I' := (sr I (M + 1) (ld6 w N n p t))) rfl ?_
  refine r_iconst (pc := 79) (v := 0) C dX10_lends_79 rfl ?_
  refine r_istore (pc := 80) (lo' := [(7, _), (6, _), (0, _), (1, _), (2, _), (3, _), (4, _), (5, _)]) C dX10_lends_80 (by decide) rfl ?_
  have loop_82 : ∀ (n_82 : Nat) (q : Nat), 4 - q < n_82 → (q ≤ 4) → Go g k 8 (Qm g k (Ex (some (.int (w 3))) X T (sr I (M + 1) (ldV w N n m u p t))) 0 0) 0 0 82 [(0, .ref M), (1, .int (nI n)), (2, .int (nI m)), (3, .int u), (4, .int p), (5, .int t), (6, .int (nI N)), (7, .int (nI q))] [] X T ((sr I (M + 1) ((plK (ld6 w N n p t) N m u q)))) := by
    intro n_82
    induction n_82 with
    | zero => intro _ h_; exact absurd h_ (Nat.not_lt_zero _)
    | succ n_82 ih_82 =>
      intro q hq hq1
      refine r_iload (pc := 82) C 7 dX10_lends_82 rfl ?_
      refine r_iconst (pc := 84) (v := 4) C dX10_lends_84 rfl ?_
      refine r_cgeN (pc := 85) (tgt := 116) C dX10_lends_85 rfl (by omega) (by omega) (fun c_85 => ?_) (fun c_85 => ?_)
      · skip
        refine r_I (I' := (sr I (M + 1) ((plK (ld6 w N n p t) N m u 4)))) (by rw [show q = 4 by omega]) ?_
        refine r_aload_n (pc := 116) C 0 dX10_lends_116 rfl rfl ?_
        refine r_iload_n (pc := 117) C 1 dX10_lends_117 rfl rfl ?_
        refine r_iconst (pc := 118) (v := 2) C dX10_lends_118 rfl ?_
        refine r_iload_n (pc := 119) C 2 dX10_lends_119 rfl rfl ?_
        refine r_iaddN (pc := 120) C dX10_lends_120 ?_
        refine r_iload_n (pc := 121) C 3 dX10_lends_121 rfl rfl ?_
        refine r_ineg (pc := 122) C dX10_lends_122 ?_
        refine r_cVv (pc := 123) C hfl k_X10_69 (c_adds hm (by omega) (by omega)) hm.1 ca_X10 rfl rfl (Nat.le_of_ble_eq_true rfl) (by decide) (by decide) dX10_lends_123 ?_
        refine r_aload_n (pc := 126) C 0 dX10_lends_126 rfl rfl ?_
        refine r_iload_n (pc := 127) C 1 dX10_lends_127 rfl rfl ?_
        refine r_iconst (pc := 128) (v := 0) C dX10_lends_128 rfl ?_
        refine r_iload (pc := 129) C 4 dX10_lends_129 rfl ?_
        refine r_cVv (pc := 131) C hfl k_X10_69 (c_adds hm (by omega) (by omega)) hm.1 ca_X10 rfl rfl (Nat.le_of_ble_eq_true rfl) (by decide) (by decide) dX10_lends_131 ?_
        refine r_aload_n (pc := 134) C 0 dX10_lends_134 rfl rfl ?_
        refine r_getR (pc := 135) (x := M + 1) C f_X10_13 hm.1 rfl rfl dX10_lends_135 ?_
        refine r_iconst (pc := 138) (v := 4) C dX10_lends_138 rfl ?_
        refine r_dup2 (pc := 139) C dX10_lends_139 rfl rfl ?_
        refine r_wld (pc := 140) (x := 4) C hm.2.1 rfl (by omega) (by decide) dX10_lends_140 ?_
        refine r_iload (pc := 141) C 4 dX10_lends_141 rfl ?_
        refine r_isub (pc := 143) C dX10_lends_143 ?_
        refine r_wst (pc := 144) (x := 4) C hm.2.1 rfl (by omega) (by decide) dX10_lends_144 ?_
        refine r_aload_n (pc := 145) C 0 dX10_lends_145 rfl rfl ?_
        refine r_getR (pc := 146) (x := M + 1) C f_X10_13 hm.1 rfl rfl dX10_lends_146 ?_
        refine r_iconst (pc := 149) (v := 2) C dX10_lends_149 rfl ?_
        refine r_dup2 (pc := 150) C dX10_lends_150 rfl rfl ?_
        refine r_wld (pc := 151) (x := 2) C hm.2.1 rfl (by omega) (by decide) dX10_lends_151 ?_
        refine r_t (y := nI N) (by (try simp only [ld6, ld5, ld4]); (repeat (first | rw [upd_n (by omega)] | rw [ad_n (by omega)] | rw [sb_n (by omega)] | rw [plK_n (by omega)])); exact hN) ?_
        refine r_iconst (pc := 152) (v := 1) C dX10_lends_152 rfl ?_
        refine r_iaddN (pc := 153) C dX10_lends_153 ?_
        refine r_wst (pc := 154) (x := 2) C hm.2.1 rfl (by omega) (by decide) dX10_lends_154 ?_
        refine r_aload_n (pc := 155) C 0 dX10_lends_155 rfl rfl ?_
        refine r_getR (pc := 156) (x := M + 1) C f_X10_13 hm.1 rfl rfl dX10_lends_156 ?_
        refine r_iconst (pc := 159) (v := 3) C dX10_lends_159 rfl ?_
        refine r_dup2 (pc := 160) C dX10_lends_160 rfl rfl ?_
        refine r_wld (pc := 161) (x := 3) C hm.2.1 rfl (by omega) (by decide) dX10_lends_161 ?_
        refine r_t (y := w 3) (by (try simp only [ld6, ld5, ld4]); (repeat (first | rw [upd_n (by omega)] | rw [ad_n (by omega)] | rw [sb_n (by omega)] | rw [plK_n (by omega)]))) ?_
        refine r_iconst (pc := 162) (v := 1) C dX10_lends_162 rfl ?_
        refine r_iadd (pc := 163) C dX10_lends_163 ?_
        refine r_wst (pc := 164) (x := 3) C hm.2.1 rfl (by omega) (by decide) dX10_lends_164 ?_
        refine r_aload_n (pc := 165) C 0 dX10_lends_165 rfl rfl ?_
        refine r_getR (pc := 166) (x := M + 1) C f_X10_13 hm.1 rfl rfl dX10_lends_166 ?_
        refine r_iconst (pc := 169) (v := 3) C dX10_lends_169 rfl ?_
        refine r_wld (pc := 170) (x := 3) C hm.2.1 rfl (by omega) (by decide) dX10_lends_170 ?_
        refine r_t (y := w 3 + nI 1) upd_e ?_
        refine r_iconst (pc := 171) (v := 1) C dX10_lends_171 rfl ?_
        refine r_isub (pc := 172) C dX10_lends_172 ?_
        exact r_iret (pc := 173) C dX10_lends_173 ⟨congrArg (fun z => some (Value.int z)) (Int32.add_sub_cancel _ _), rfl, rfl, rfl⟩ (by decide)
      · skip
        refine r_aload_n (pc := 88) C 0 dX10_lends_88 rfl rfl ?_
        refine r_iload (pc := 89) C 6 dX10_lends_89 rfl ?_
        refine r_bipush (pc := 91) (v := 6) C dX10_lends_91 rfl ?_
        refine r_iload (pc := 93) C 7 dX10_lends_93 rfl ?_
        refine r_iaddN (pc := 95) C dX10_lends_95 ?_
        refine r_iload (pc := 96) C 7 dX10_lends_96 rfl ?_
        refine r_iload_n (pc := 98) C 2 dX10_lends_98 rfl rfl ?_
        refine r_cneN (pc := 99) (tgt := 106) C dX10_lends_99 rfl (by omega) (by omega) (fun c_99 => ?_) (fun c_99 => ?_)
        · skip
          refine r_iconst (pc := 106) (v := 0) C dX10_lends_106 rfl ?_
          refine r_cVv (pc := 107) C hfl k_X10_73 (c_puts hm (by omega) (by omega)) hm.1 ca_X10 rfl rfl (Nat.le_of_ble_eq_true rfl) (by decide) (by decide) dX10_lends_107 ?_
          refine r_iincN (pc := 110) (m := 1) (lo' := [(7, _), (0, _), (1, _), (2, _), (3, _), (4, _), (5, _), (6, _)]) C 7 dX10_lends_110 rfl rfl (by decide) rfl ?_
          refine r_goto (pc := 113) (tgt := 82) C dX10_lends_113 rfl ?_
          refine r_ls [1, 2, 3, 4, 5, 6, 7, 0] rfl ?_
          refine r_I (I' := (sr I (M + 1) ((plK (ld6 w N n p t) N m u (q + 1))))) (congrArg (sr I (M + 1)) (plK_s (if_neg c_99))) ?_
          exact ih_82 (q + 1) (by omega) (by omega)
        · skip
          refine r_iload_n (pc := 102) C 3 dX10_lends_102 rfl rfl ?_
          refine r_goto (pc := 103) (tgt := 107) C dX10_lends_103 rfl ?_
          refine r_cVv (pc := 107) C hfl k_X10_73 (c_puts hm (by omega) (by omega)) hm.1 ca_X10 rfl rfl (Nat.le_of_ble_eq_true rfl) (by decide) (by decide) dX10_lends_107 ?_
          refine r_iincN (pc := 110) (m := 1) (lo' := [(7, _), (0, _), (1, _), (2, _), (3, _), (4, _), (5, _), (6, _)]) C 7 dX10_lends_110 rfl rfl (by decide) rfl ?_
          refine r_goto (pc := 113) (tgt := 82) C dX10_lends_113 rfl ?_
          refine r_ls [1, 2, 3, 4, 5, 6, 7, 0] rfl ?_
          refine r_I (I' := (sr I (M + 1) ((plK (ld6 w N n p t) N m u (q + 1))))) (congrArg (sr I (M + 1)) (plK_s (if_pos c_99))) ?_
          exact ih_82 (q + 1) (by omega) (by omega)
  refine r_ls [2, 3, 4, 5, 6, 7, 1, 0] rfl ?_
  refine r_I (I' := (sr I (M + 1) ((plK (ld6 w N n p t) N m u 0)))) (by rw [plK_0]) ?_
  exact loop_82 5 0 (by omega) (by omega)

set_option maxHeartbeats 1000000 in
theorem c_pledges {g : GG} {X : va_W} {T : TT} {I : II} {M : Nat} {w : Nat → Int32} (hm : isMd T M) {id u : Int32} {m b : Nat} {N : Nat} (hN : w 2 = nI N) (hN10 : N ≤ 10) {s : Nat} (hs : s < N) (hr : atS w N id (nI s)) (hb : b < 6) (hw : w (58 + 10 * s + 1) = nI b) (hm4 : m < 4) : Mc g yX10_pledges cX10_pledges 5 (some .int) 3 0 0 [.ref M, .int id, .int (nI m), .int u] X T (sr I (M + 1) w) (Ex (some (.int (valV (pgV w s b m u) s))) X T (sr I (M + 1) (pgV w s b m u))) := by
  refine Mc.of (by decide) (Nat.le_of_ble_eq_true rfl) (fun k hfl C => ?_)
  refine r_lo (lo' := [(0, _), (1, _), (2, _), (3, _)]) rfl ?_
  refine r_aload_n (pc := 0) C 0 dX10_pledges_0 rfl rfl ?_
  refine r_iload_n (pc := 1) C 1 dX10_pledges_1 rfl rfl ?_
  refine r_cVi (pc := 2) C hfl k_X10_121 (c_slotOf hm hN hN10 hr) hm.1 ca_X10 rfl rfl (Nat.le_of_ble_eq_true rfl) (by decide) (by decide) dX10_pledges_2 ?_
  refine r_istore (pc := 5) (lo' := [(4, _), (0, _), (1, _), (2, _), (3, _)]) C dX10_pledges_5 (by decide) rfl ?_
  refine r_aload_n (pc := 7) C 1 dX10_pledges_7 rfl rfl ?_
  refine r_aload_n (pc := 8) C 1 dX10_pledges_8 rfl rfl ?_
  refine r_iload (pc := 9) C 0 dX10_pledges_9 rfl ?_
  refine r_iconst (pc := 11) (v := 1) C dX10_pledges_11 rfl ?_
  refine r_cVi (pc := 12) C hfl k_X10_58 (c_is hm (by omega) (by omega)) hm.1 ca_X10 rfl rfl (Nat.le_of_ble_eq_true rfl) (by decide) (by decide) dX10_pledges_12 ?_
  refine r_t (y := nI b) hw ?_
  refine r_iconst (pc := 15) (v := 2) C dX10_pledges_15 rfl ?_
  refine r_iload_n (pc := 16) C 3 dX10_pledges_16 rfl rfl ?_
  refine r_iaddN (pc := 17) C dX10_pledges_17 ?_
  refine r_iload_n (pc := 18) C 4 dX10_pledges_18 rfl rfl ?_
  refine r_ineg (pc := 19) C dX10_pledges_19 ?_
  refine r_cVv (pc := 20) C hfl k_X10_69 (c_adds hm (by omega) (by omega)) hm.1 ca_X10 rfl rfl (Nat.le_of_ble_eq_true rfl) (by decide) (by decide) dX10_pledges_20 ?_
  refine r_aload_n (pc := 23) C 1 dX10_pledges_23 rfl rfl ?_
  refine r_iload (pc := 24) C 0 dX10_pledges_24 rfl ?_
  refine r_bipush (pc := 26) (v := 6) C dX10_pledges_26 rfl ?_
  refine r_iload_n (pc := 28) C 3 dX10_pledges_28 rfl rfl ?_
  refine r_iaddN (pc := 29) C dX10_pledges_29 ?_
  refine r_aload_n (pc := 30) C 1 dX10_pledges_30 rfl rfl ?_
  refine r_iload (pc := 31) C 0 dX10_pledges_31 rfl ?_
  refine r_bipush (pc := 33) (v := 6) C dX10_pledges_33 rfl ?_
  refine r_iload_n (pc := 35) C 3 dX10_pledges_35 rfl rfl ?_
  refine r_iaddN (pc := 36) C dX10_pledges_36 ?_
  refine r_cVi (pc := 37) C hfl k_X10_58 (c_is hm (by omega) (by omega)) hm.1 ca_X10 rfl rfl (Nat.le_of_ble_eq_true rfl) (by decide) (by decide) dX10_pledges_37 ?_
  refine r_iload_n (pc := 40) C 4 dX10_pledges_40 rfl rfl ?_
  refine r_iadd (pc := 41) C dX10_pledges_41 ?_
  refine r_cVv (pc := 42) C hfl k_X10_73 (c_puts hm (by omega) (by omega)) hm.1 ca_X10 rfl rfl (Nat.le_of_ble_eq_true rfl) (by decide) (by decide) dX10_pledges_42 ?_
  refine r_aload_n (pc := 45) C 1 dX10_pledges_45 rfl rfl ?_
  refine r_iload (pc := 46) C 0 dX10_pledges_46 rfl ?_
  refine r_cVi (pc := 48) C hfl k_X10_66 (c_valueAt hm (by omega)) hm.1 ca_X10 rfl rfl (Nat.le_of_ble_eq_true rfl) (by decide) (by decide) dX10_pledges_48 ?_
  exact r_iret (pc := 51) C dX10_pledges_51 ⟨rfl, rfl, rfl, rfl⟩ (by decide)

set_option maxHeartbeats 1000000 in
theorem c_enters__s {g : GG} {X : va_W} {T : TT} {I : II} {M : Nat} {w : Nat → Int32} (hm : isMd T M) {id c : Int32} {e : Nat} {E : Nat} (hE : w 5 = nI E) (hE20 : E ≤ 20) (he : e < E) (hr : atE w E (w 0) id (nI e)) : Mc g yX10_enters cX10_enters 5 none 3 0 0 [.ref M, .int id, .int c] X T (sr I (M + 1) w) (Ex none X T (sr I (M + 1) (enV w E id c (nI e)))) := by
  refine Mc.of (by decide) (Nat.le_of_ble_eq_true rfl) (fun k hfl C => ?_)
  refine r_lo (lo' := [(0, _), (1, _), (2, _)]) rfl ?_
  refine r_aload_n (pc := 0) C 0 dX10_enters_0 rfl rfl ?_
  refine r_aload_n (pc := 1) C 0 dX10_enters_1 rfl rfl ?_
  refine r_getR (pc := 2) (x := M + 1) C f_X10_13 hm.1 rfl rfl dX10_enters_2 ?_
  refine r_iconst (pc := 5) (v := 0) C dX10_enters_5 rfl ?_
  refine r_wld (pc := 6) (x := 0) C hm.2.1 rfl (by omega) (by decide) dX10_enters_6 ?_
  refine r_iload_n (pc := 7) C 1 dX10_enters_7 rfl rfl ?_
  refine r_cVi (pc := 8) C hfl k_X10_136 (c_entryFor hm hE hE20 hr) hm.1 ca_X10 rfl rfl (Nat.le_of_ble_eq_true rfl) (by decide) (by decide) dX10_enters_8 ?_
  refine r_istore_n (pc := 11) (lo' := [(3, _), (0, _), (1, _), (2, _)]) C dX10_enters_11 rfl (by decide) rfl ?_
  refine r_iload_n (pc := 12) C 0 dX10_enters_12 rfl rfl ?_
  refine r_ifgeN (pc := 13) (tgt := 137) C dX10_enters_13 rfl (by omega) ?_
  refine r_aload_n (pc := 137) C 1 dX10_enters_137 rfl rfl ?_
  refine r_getR (pc := 138) (x := M + 1) C f_X10_13 hm.1 rfl rfl dX10_enters_138 ?_
  refine r_sipush (pc := 141) (v := 158) C dX10_enters_141 rfl ?_
  refine r_iconst (pc := 144) (v := 3) C dX10_enters_144 rfl ?_
  refine r_iload_n (pc := 145) C 0 dX10_enters_145 rfl rfl ?_
  refine r_imulN (pc := 146) C dX10_enters_146 ?_
  refine r_iaddN (pc := 147) C dX10_enters_147 ?_
  refine r_iconst (pc := 148) (v := 2) C dX10_enters_148 rfl ?_
  refine r_iaddN (pc := 149) C dX10_enters_149 ?_
  refine r_dup2 (pc := 150) C dX10_enters_150 rfl rfl ?_
  refine r_wld (pc := 151) (x := (158 + (3 * e)) + 2) C hm.2.1 rfl (by omega) (by decide) dX10_enters_151 ?_
  refine r_iload_n (pc := 152) C 3 dX10_enters_152 rfl rfl ?_
  refine r_iadd (pc := 153) C dX10_enters_153 ?_
  refine r_wst (pc := 154) (x := (158 + (3 * e)) + 2) C hm.2.1 rfl (by omega) (by decide) dX10_enters_154 ?_
  exact r_vret (pc := 155) C dX10_enters_155 ⟨rfl, rfl, rfl, by rw [enV, if_neg (nI_pos (by omega)), nI_clamp (by omega)]; rfl⟩ (by decide)

set_option maxHeartbeats 1000000 in
theorem c_enters__n {g : GG} {X : va_W} {T : TT} {I : II} {M : Nat} {w : Nat → Int32} (hm : isMd T M) {id c : Int32} {E : Nat} (hE : w 5 = nI E) (hE20 : E < 20) (hr : atE w E (w 0) id (-1)) : Mc g yX10_enters cX10_enters 5 none 3 0 0 [.ref M, .int id, .int c] X T (sr I (M + 1) w) (Ex none X T (sr I (M + 1) (enV w E id c (-1)))) := by
  refine Mc.of (by decide) (Nat.le_of_ble_eq_true rfl) (fun k hfl C => ?_)
  refine r_lo (lo' := [(0, _), (1, _), (2, _)]) rfl ?_
  refine r_aload_n (pc := 0) C 0 dX10_enters_0 rfl rfl ?_
  refine r_aload_n (pc := 1) C 0 dX10_enters_1 rfl rfl ?_
  refine r_getR (pc := 2) (x := M + 1) C f_X10_13 hm.1 rfl rfl dX10_enters_2 ?_
  refine r_iconst (pc := 5) (v := 0) C dX10_enters_5 rfl ?_
  refine r_wld (pc := 6) (x := 0) C hm.2.1 rfl (by omega) (by decide) dX10_enters_6 ?_
  refine r_iload_n (pc := 7) C 1 dX10_enters_7 rfl rfl ?_
  refine r_cVi (pc := 8) C hfl k_X10_136 (c_entryFor hm hE (by omega) hr) hm.1 ca_X10 rfl rfl (Nat.le_of_ble_eq_true rfl) (by decide) (by decide) dX10_enters_8 ?_
  refine r_istore_n (pc := 11) (lo' := [(3, _), (0, _), (1, _), (2, _)]) C dX10_enters_11 rfl (by decide) rfl ?_
  refine r_iload_n (pc := 12) C 0 dX10_enters_12 rfl rfl ?_
  refine r_ifge (pc := 13) (tgt := 137) C dX10_enters_13 rfl (fun c => absurd c (by decide)) (fun _ => ?_)
  refine r_aload_n (pc := 16) C 1 dX10_enters_16 rfl rfl ?_
  refine r_getR (pc := 17) (x := M + 1) C f_X10_13 hm.1 rfl rfl dX10_enters_17 ?_
  refine r_iconst (pc := 20) (v := 5) C dX10_enters_20 rfl ?_
  refine r_wld (pc := 21) (x := 5) C hm.2.1 rfl (by omega) (by decide) dX10_enters_21 ?_
  refine r_t (y := nI E) hE ?_
  refine r_bipush (pc := 22) (v := 20) C dX10_enters_22 rfl ?_
  refine r_cneN (pc := 24) (tgt := 72) C dX10_enters_24 rfl (by omega) (by omega) (fun c_24 => ?_) (fun c_24 => False.elim (by omega))
  refine r_aload_n (pc := 72) C 1 dX10_enters_72 rfl rfl ?_
  refine r_getR (pc := 73) (x := M + 1) C f_X10_13 hm.1 rfl rfl dX10_enters_73 ?_
  refine r_iconst (pc := 76) (v := 5) C dX10_enters_76 rfl ?_
  refine r_wld (pc := 77) (x := 5) C hm.2.1 rfl (by omega) (by decide) dX10_enters_77 ?_
  refine r_t (y := nI E) hE ?_
  refine r_istore_n (pc := 78) (lo' := [(3, _), (0, _), (1, _), (2, _)]) C dX10_enters_78 rfl (by decide) rfl ?_
  refine r_aload_n (pc := 79) C 1 dX10_enters_79 rfl rfl ?_
  refine r_getR (pc := 80) (x := M + 1) C f_X10_13 hm.1 rfl rfl dX10_enters_80 ?_
  refine r_iconst (pc := 83) (v := 5) C dX10_enters_83 rfl ?_
  refine r_dup2 (pc := 84) C dX10_enters_84 rfl rfl ?_
  refine r_wld (pc := 85) (x := 5) C hm.2.1 rfl (by omega) (by decide) dX10_enters_85 ?_
  refine r_t (y := nI E) hE ?_
  refine r_iconst (pc := 86) (v := 1) C dX10_enters_86 rfl ?_
  refine r_iaddN (pc := 87) C dX10_enters_87 ?_
  refine r_wst (pc := 88) (x := 5) C hm.2.1 rfl (by omega) (by decide) dX10_enters_88 ?_
  refine r_aload_n (pc := 89) C 1 dX10_enters_89 rfl rfl ?_
  refine r_getR (pc := 90) (x := M + 1) C f_X10_13 hm.1 rfl rfl dX10_enters_90 ?_
  refine r_sipush (pc := 93) (v := 158) C dX10_enters_93 rfl ?_
  refine r_iconst (pc := 96) (v := 3) C dX10_enters_96 rfl ?_
  refine r_iload_n (pc := 97) C 0 dX10_enters_97 rfl rfl ?_
  refine r_imulN (pc := 98) C dX10_enters_98 ?_
  refine r_iaddN (pc := 99) C dX10_enters_99 ?_
  refine r_aload_n (pc := 100) C 1 dX10_enters_100 rfl rfl ?_
  refine r_getR (pc := 101) (x := M + 1) C f_X10_13 hm.1 rfl rfl dX10_enters_101 ?_
  refine r_iconst (pc := 104) (v := 0) C dX10_enters_104 rfl ?_
  refine r_wld (pc := 105) (x := 0) C hm.2.1 rfl (by omega) (by decide) dX10_enters_105 ?_
  refine r_t (y := w 0) (upd_n (by decide)) ?_
  refine r_wst (pc := 106) (x := 158 + (3 * E)) C hm.2.1 rfl (by omega) (by decide) dX10_enters_106 ?_
  refine r_aload_n (pc := 107) C 1 dX10_enters_107 rfl rfl ?_
  refine r_getR (pc := 108) (x := M + 1) C f_X10_13 hm.1 rfl rfl dX10_enters_108 ?_
  refine r_sipush (pc := 111) (v := 158) C dX10_enters_111 rfl ?_
  refine r_iconst (pc := 114) (v := 3) C dX10_enters_114 rfl ?_
  refine r_iload_n (pc := 115) C 0 dX10_enters_115 rfl rfl ?_
  refine r_imulN (pc := 116) C dX10_enters_116 ?_
  refine r_iaddN (pc := 117) C dX10_enters_117 ?_
  refine r_iconst (pc := 118) (v := 1) C dX10_enters_118 rfl ?_
  refine r_iaddN (pc := 119) C dX10_enters_119 ?_
  refine r_iload_n (pc := 120) C 2 dX10_enters_120 rfl rfl ?_
  refine r_wst (pc := 121) (x := (158 + (3 * E)) + 1) C hm.2.1 rfl (by omega) (by decide) dX10_enters_121 ?_
  refine r_aload_n (pc := 122) C 1 dX10_enters_122 rfl rfl ?_
  refine r_getR (pc := 123) (x := M + 1) C f_X10_13 hm.1 rfl rfl dX10_enters_123 ?_
  refine r_sipush (pc := 126) (v := 158) C dX10_enters_126 rfl ?_
  refine r_iconst (pc := 129) (v := 3) C dX10_enters_129 rfl ?_
  refine r_iload_n (pc := 130) C 0 dX10_enters_130 rfl rfl ?_
  refine r_imulN (pc := 131) C dX10_enters_131 ?_
  refine r_iaddN (pc := 132) C dX10_enters_132 ?_
  refine r_iconst (pc := 133) (v := 2) C dX10_enters_133 rfl ?_
  refine r_iaddN (pc := 134) C dX10_enters_134 ?_
  refine r_iconst (pc := 135) (v := 0) C dX10_enters_135 rfl ?_
  refine r_wst (pc := 136) (x := (158 + (3 * E)) + 2) C hm.2.1 rfl (by omega) (by decide) dX10_enters_136 ?_
  refine r_aload_n (pc := 137) C 1 dX10_enters_137 rfl rfl ?_
  refine r_getR (pc := 138) (x := M + 1) C f_X10_13 hm.1 rfl rfl dX10_enters_138 ?_
  refine r_sipush (pc := 141) (v := 158) C dX10_enters_141 rfl ?_
  refine r_iconst (pc := 144) (v := 3) C dX10_enters_144 rfl ?_
  refine r_iload_n (pc := 145) C 0 dX10_enters_145 rfl rfl ?_
  refine r_imulN (pc := 146) C dX10_enters_146 ?_
  refine r_iaddN (pc := 147) C dX10_enters_147 ?_
  refine r_iconst (pc := 148) (v := 2) C dX10_enters_148 rfl ?_
  refine r_iaddN (pc := 149) C dX10_enters_149 ?_
  refine r_dup2 (pc := 150) C dX10_enters_150 rfl rfl ?_
  refine r_wld (pc := 151) (x := (158 + (3 * E)) + 2) C hm.2.1 rfl (by omega) (by decide) dX10_enters_151 ?_
  refine r_iload_n (pc := 152) C 3 dX10_enters_152 rfl rfl ?_
  refine r_iadd (pc := 153) C dX10_enters_153 ?_
  refine r_wst (pc := 154) (x := (158 + (3 * E)) + 2) C hm.2.1 rfl (by omega) (by decide) dX10_enters_154 ?_
  exact r_vret (pc := 155) C dX10_enters_155 ⟨rfl, rfl, rfl, by rw [enV, if_pos (by decide), if_neg (by omega)]; rfl⟩ (by decide)

set_option maxHeartbeats 1000000 in
theorem c_enters__f {g : GG} {X : va_W} {T : TT} {I : II} {M : Nat} {w : Nat → Int32} (hm : isMd T M) {id c : Int32} (hE : w 5 = nI 20) (hr : atE w 20 (w 0) id (-1)) : Mc g yX10_enters cX10_enters 5 none 3 0 0 [.ref M, .int id, .int c] X T (sr I (M + 1) w) (Ex none X T (sr I (M + 1) (enV w 20 id c (-1)))) := by
  refine Mc.of (by decide) (Nat.le_of_ble_eq_true rfl) (fun k hfl C => ?_)
  refine r_lo (lo' := [(0, _), (1, _), (2, _)]) rfl ?_
  refine r_aload_n (pc := 0) C 0 dX10_enters_0 rfl rfl ?_
  refine r_aload_n (pc := 1) C 0 dX10_enters_1 rfl rfl ?_
  refine r_getR (pc := 2) (x := M + 1) C f_X10_13 hm.1 rfl rfl dX10_enters_2 ?_
  refine r_iconst (pc := 5) (v := 0) C dX10_enters_5 rfl ?_
  refine r_wld (pc := 6) (x := 0) C hm.2.1 rfl (by omega) (by decide) dX10_enters_6 ?_
  refine r_iload_n (pc := 7) C 1 dX10_enters_7 rfl rfl ?_
  refine r_cVi (pc := 8) C hfl k_X10_136 (c_entryFor hm hE (by omega) hr) hm.1 ca_X10 rfl rfl (Nat.le_of_ble_eq_true rfl) (by decide) (by decide) dX10_enters_8 ?_
  refine r_istore_n (pc := 11) (lo' := [(3, _), (0, _), (1, _), (2, _)]) C dX10_enters_11 rfl (by decide) rfl ?_
  refine r_iload_n (pc := 12) C 0 dX10_enters_12 rfl rfl ?_
  refine r_ifge (pc := 13) (tgt := 137) C dX10_enters_13 rfl (fun c => absurd c (by decide)) (fun _ => ?_)
  refine r_aload_n (pc := 16) C 1 dX10_enters_16 rfl rfl ?_
  refine r_getR (pc := 17) (x := M + 1) C f_X10_13 hm.1 rfl rfl dX10_enters_17 ?_
  refine r_iconst (pc := 20) (v := 5) C dX10_enters_20 rfl ?_
  refine r_wld (pc := 21) (x := 5) C hm.2.1 rfl (by omega) (by decide) dX10_enters_21 ?_
  refine r_t (y := nI 20) hE ?_
  refine r_bipush (pc := 22) (v := 20) C dX10_enters_22 rfl ?_
  refine r_cneN (pc := 24) (tgt := 72) C dX10_enters_24 rfl (by omega) (by omega) (fun c_24 => False.elim (by omega)) (fun c_24 => ?_)
  refine r_sipush (pc := 27) (v := 158) C dX10_enters_27 rfl ?_
  refine r_istore (pc := 30) (lo' := [(4, _), (3, _), (0, _), (1, _), (2, _)]) C dX10_enters_30 (by decide) rfl ?_
  have loop_32 : ∀ (n_32 : Nat) (q : Nat), 215 - q < n_32 → (158 ≤ q) → (q ≤ 215) → Go g k 5 (Qm g k (Ex none X T (sr I (M + 1) (enV w 20 id c (-1)))) 0 0) 0 0 32 [(0, .ref M), (1, .int id), (2, .int c), (3, .int (-1)), (4, .int (nI q))] [] X T ((sr I (M + 1) ((shV w 158 3 q)))) := by
    intro n_32
    induction n_32 with
    | zero => intro _ h_; exact absurd h_ (Nat.not_lt_zero _)
    | succ n_32 ih_32 =>
      intro q hq hq1 hq2
      refine r_iload (pc := 32) C 4 dX10_enters_32 rfl ?_
      refine r_sipush (pc := 34) (v := 215) C dX10_enters_34 rfl ?_
      refine r_cgeN (pc := 37) (tgt := 62) C dX10_enters_37 rfl (by omega) (by omega) (fun c_37 => ?_) (fun c_37 => ?_)
      · skip
        refine r_I (I' := (sr I (M + 1) ((shV w 158 3 215)))) (by rw [show q = 215 by omega]) ?_
        refine r_aload_n (pc := 62) C 0 dX10_enters_62 rfl rfl ?_
        refine r_getR (pc := 63) (x := M + 1) C f_X10_13 hm.1 rfl rfl dX10_enters_63 ?_
        refine r_iconst (pc := 66) (v := 5) C dX10_enters_66 rfl ?_
        refine r_dup2 (pc := 67) C dX10_enters_67 rfl rfl ?_
        refine r_wld (pc := 68) (x := 5) C hm.2.1 rfl (by omega) (by decide) dX10_enters_68 ?_
        refine r_t (y := nI 20) ((shV_n (by omega)).trans hE) ?_
        refine r_iconst (pc := 69) (v := 1) C dX10_enters_69 rfl ?_
        refine r_isub (pc := 70) C dX10_enters_70 ?_
        refine r_t (y := nI 19) (by decide) ?_
        refine r_wst (pc := 71) (x := 5) C hm.2.1 rfl (by omega) (by decide) dX10_enters_71 ?_
        refine r_I (I' := (sr I (M + 1) (olV w))) rfl ?_
        refine r_aload_n (pc := 72) C 0 dX10_enters_72 rfl rfl ?_
        refine r_getR (pc := 73) (x := M + 1) C f_X10_13 hm.1 rfl rfl dX10_enters_73 ?_
        refine r_iconst (pc := 76) (v := 5) C dX10_enters_76 rfl ?_
        refine r_wld (pc := 77) (x := 5) C hm.2.1 rfl (by omega) (by decide) dX10_enters_77 ?_
        refine r_t (y := nI 19) upd_e ?_
        refine r_istore_n (pc := 78) (lo' := [(3, _), (0, _), (1, _), (2, _), (4, _)]) C dX10_enters_78 rfl (by decide) rfl ?_
        refine r_aload_n (pc := 79) C 1 dX10_enters_79 rfl rfl ?_
        refine r_getR (pc := 80) (x := M + 1) C f_X10_13 hm.1 rfl rfl dX10_enters_80 ?_
        refine r_iconst (pc := 83) (v := 5) C dX10_enters_83 rfl ?_
        refine r_dup2 (pc := 84) C dX10_enters_84 rfl rfl ?_
        refine r_wld (pc := 85) (x := 5) C hm.2.1 rfl (by omega) (by decide) dX10_enters_85 ?_
        refine r_t (y := nI 19) upd_e ?_
        refine r_iconst (pc := 86) (v := 1) C dX10_enters_86 rfl ?_
        refine r_iaddN (pc := 87) C dX10_enters_87 ?_
        refine r_wst (pc := 88) (x := 5) C hm.2.1 rfl (by omega) (by decide) dX10_enters_88 ?_
        refine r_aload_n (pc := 89) C 1 dX10_enters_89 rfl rfl ?_
        refine r_getR (pc := 90) (x := M + 1) C f_X10_13 hm.1 rfl rfl dX10_enters_90 ?_
        refine r_sipush (pc := 93) (v := 158) C dX10_enters_93 rfl ?_
        refine r_iconst (pc := 96) (v := 3) C dX10_enters_96 rfl ?_
        refine r_iload_n (pc := 97) C 0 dX10_enters_97 rfl rfl ?_
        refine r_imulN (pc := 98) C dX10_enters_98 ?_
        refine r_iaddN (pc := 99) C dX10_enters_99 ?_
        refine r_aload_n (pc := 100) C 1 dX10_enters_100 rfl rfl ?_
        refine r_getR (pc := 101) (x := M + 1) C f_X10_13 hm.1 rfl rfl dX10_enters_101 ?_
        refine r_iconst (pc := 104) (v := 0) C dX10_enters_104 rfl ?_
        refine r_wld (pc := 105) (x := 0) C hm.2.1 rfl (by omega) (by decide) dX10_enters_105 ?_
        refine r_t (y := olV w 0) (upd_n (by decide)) ?_
        refine r_wst (pc := 106) (x := 158 + (3 * 19)) C hm.2.1 rfl (by omega) (by decide) dX10_enters_106 ?_
        refine r_aload_n (pc := 107) C 1 dX10_enters_107 rfl rfl ?_
        refine r_getR (pc := 108) (x := M + 1) C f_X10_13 hm.1 rfl rfl dX10_enters_108 ?_
        refine r_sipush (pc := 111) (v := 158) C dX10_enters_111 rfl ?_
        refine r_iconst (pc := 114) (v := 3) C dX10_enters_114 rfl ?_
        refine r_iload_n (pc := 115) C 0 dX10_enters_115 rfl rfl ?_
        refine r_imulN (pc := 116) C dX10_enters_116 ?_
        refine r_iaddN (pc := 117) C dX10_enters_117 ?_
        refine r_iconst (pc := 118) (v := 1) C dX10_enters_118 rfl ?_
        refine r_iaddN (pc := 119) C dX10_enters_119 ?_
        refine r_iload_n (pc := 120) C 2 dX10_enters_120 rfl rfl ?_
        refine r_wst (pc := 121) (x := (158 + (3 * 19)) + 1) C hm.2.1 rfl (by omega) (by decide) dX10_enters_121 ?_
        refine r_aload_n (pc := 122) C 1 dX10_enters_122 rfl rfl ?_
        refine r_getR (pc := 123) (x := M + 1) C f_X10_13 hm.1 rfl rfl dX10_enters_123 ?_
        refine r_sipush (pc := 126) (v := 158) C dX10_enters_126 rfl ?_
        refine r_iconst (pc := 129) (v := 3) C dX10_enters_129 rfl ?_
        refine r_iload_n (pc := 130) C 0 dX10_enters_130 rfl rfl ?_
        refine r_imulN (pc := 131) C dX10_enters_131 ?_
        refine r_iaddN (pc := 132) C dX10_enters_132 ?_
        refine r_iconst (pc := 133) (v := 2) C dX10_enters_133 rfl ?_
        refine r_iaddN (pc := 134) C dX10_enters_134 ?_
        refine r_iconst (pc := 135) (v := 0) C dX10_enters_135 rfl ?_
        refine r_wst (pc := 136) (x := (158 + (3 * 19)) + 2) C hm.2.1 rfl (by omega) (by decide) dX10_enters_136 ?_
        refine r_aload_n (pc := 137) C 1 dX10_enters_137 rfl rfl ?_
        refine r_getR (pc := 138) (x := M + 1) C f_X10_13 hm.1 rfl rfl dX10_enters_138 ?_
        refine r_sipush (pc := 141) (v := 158) C dX10_enters_141 rfl ?_
        refine r_iconst (pc := 144) (v := 3) C dX10_enters_144 rfl ?_
        refine r_iload_n (pc := 145) C 0 dX10_enters_145 rfl rfl ?_
        refine r_imulN (pc := 146) C dX10_enters_146 ?_
        refine r_iaddN (pc := 147) C dX10_enters_147 ?_
        refine r_iconst (pc := 148) (v := 2) C dX10_enters_148 rfl ?_
        refine r_iaddN (pc := 149) C dX10_enters_149 ?_
        refine r_dup2 (pc := 150) C dX10_enters_150 rfl rfl ?_
        refine r_wld (pc := 151) (x := (158 + (3 * 19)) + 2) C hm.2.1 rfl (by omega) (by decide) dX10_enters_151 ?_
        refine r_iload_n (pc := 152) C 3 dX10_enters_152 rfl rfl ?_
        refine r_iadd (pc := 153) C dX10_enters_153 ?_
        refine r_wst (pc := 154) (x := (158 + (3 * 19)) + 2) C hm.2.1 rfl (by omega) (by decide) dX10_enters_154 ?_
        exact r_vret (pc := 155) C dX10_enters_155 ⟨rfl, rfl, rfl, by rw [enV, if_pos (by decide), if_pos rfl]; rfl⟩ (by decide)
      · skip
        refine r_aload_n (pc := 40) C 0 dX10_enters_40 rfl rfl ?_
        refine r_getR (pc := 41) (x := M + 1) C f_X10_13 hm.1 rfl rfl dX10_enters_41 ?_
        refine r_iload (pc := 44) C 4 dX10_enters_44 rfl ?_
        refine r_aload_n (pc := 46) C 0 dX10_enters_46 rfl rfl ?_
        refine r_getR (pc := 47) (x := M + 1) C f_X10_13 hm.1 rfl rfl dX10_enters_47 ?_
        refine r_iload (pc := 50) C 4 dX10_enters_50 rfl ?_
        refine r_iconst (pc := 52) (v := 3) C dX10_enters_52 rfl ?_
        refine r_iaddN (pc := 53) C dX10_enters_53 ?_
        refine r_wld (pc := 54) (x := q + 3) C hm.2.1 rfl (by omega) (by decide) dX10_enters_54 ?_
        refine r_wst (pc := 55) (x := q) C hm.2.1 rfl (by omega) (by decide) dX10_enters_55 ?_
        refine r_iincN (pc := 56) (m := 1) (lo' := [(4, _), (0, _), (1, _), (2, _), (3, _)]) C 4 dX10_enters_56 rfl rfl (by decide) rfl ?_
        refine r_goto (pc := 59) (tgt := 32) C dX10_enters_59 rfl ?_
        refine r_ls [1, 2, 3, 4, 0] rfl ?_
        refine r_I (I' := (sr I (M + 1) ((shV w 158 3 (q + 1))))) (congrArg (sr I (M + 1)) (shV_s hq1)) ?_
        exact ih_32 (q + 1) (by omega) (by omega) (by omega)
  refine r_ls [2, 3, 4, 1, 0] rfl ?_
  refine r_I (I' := (sr I (M + 1) ((shV w 158 3 158)))) (by rw [shV_0 (Nat.le_refl _)]) ?_
  exact loop_32 58 158 (by omega) (by omega) (by omega)

theorem c_enters {g : GG} {X : va_W} {T : TT} {I : II} {M : Nat} {w : Nat → Int32} (hm : isMd T M) {id c r : Int32} {E : Nat} (hE : w 5 = nI E) (hE20 : E ≤ 20) (hr : atE w E (w 0) id r) : Mc g yX10_enters cX10_enters 5 none 3 0 0 [.ref M, .int id, .int c] X T (sr I (M + 1) w) (Ex none X T (sr I (M + 1) (enV w E id c r))) := by
  rcases hr with ⟨e, h1, h2, h3, rfl⟩ | ⟨h1, rfl⟩
  · exact c_enters__s hm hE hE20 h1 (Or.inl ⟨e, h1, h2, h3, rfl⟩)
  · rcases Nat.lt_or_ge E 20 with h | h
    · exact c_enters__n hm hE h (Or.inr ⟨h1, rfl⟩)
    · obtain rfl : E = 20 := by omega
      exact c_enters__f hm hE (Or.inr ⟨h1, rfl⟩)

set_option maxHeartbeats 1000000 in
theorem c_repays {g : GG} {X : va_W} {T : TT} {I : II} {M : Nat} {w : Nat → Int32} (hm : isMd T M) {id c r : Int32} {b : Nat} {N : Nat} (hN : w 2 = nI N) (hN10 : N ≤ 10) {s : Nat} (hs : s < N) (hr : atS w N id (nI s)) {E : Nat} (hE : w 5 = nI E) (hE20 : E ≤ 20) (hb : b < 6) (hw : w (58 + 10 * s + 1) = nI b) (hre : atE (rpB w s b c) E (w 0) id r) (hk : ∀ j, (j = 2 ∨ j = 58 + 10 * s + 1) → rpC w E s b id c r j = w j) : Mc g yX10_repays cX10_repays 6 (some .int) 4 0 0 [.ref M, .int id, .int c] X T (sr I (M + 1) w) (Ex (some (.int (debtV (rpC w E s b id c r) s))) X T (sr I (M + 1) (rpV w N E s b id c r))) := by
  refine Mc.of (by decide) (Nat.le_of_ble_eq_true rfl) (fun k hfl C => ?_)
  refine r_lo (lo' := [(0, _), (1, _), (2, _)]) rfl ?_
  refine r_aload_n (pc := 0) C 0 dX10_repays_0 rfl rfl ?_
  refine r_iload_n (pc := 1) C 1 dX10_repays_1 rfl rfl ?_
  refine r_cVi (pc := 2) C hfl k_X10_121 (c_slotOf hm hN hN10 hr) hm.1 ca_X10 rfl rfl (Nat.le_of_ble_eq_true rfl) (by decide) (by decide) dX10_repays_2 ?_
  refine r_istore_n (pc := 5) (lo' := [(3, _), (0, _), (1, _), (2, _)]) C dX10_repays_5 rfl (by decide) rfl ?_
  refine r_iload_n (pc := 6) C 3 dX10_repays_6 rfl rfl ?_
  refine r_aload_n (pc := 7) C 1 dX10_repays_7 rfl rfl ?_
  refine r_iload_n (pc := 8) C 0 dX10_repays_8 rfl rfl ?_
  refine r_iconst (pc := 9) (v := 3) C dX10_repays_9 rfl ?_
  refine r_cVi (pc := 10) C hfl k_X10_58 (c_is hm (by omega) (by omega)) hm.1 ca_X10 rfl rfl (Nat.le_of_ble_eq_true rfl) (by decide) (by decide) dX10_repays_10 ?_
  refine r_cge (pc := 13) (tgt := 20) C dX10_repays_13 rfl (fun c_13 => ?_) (fun c_13 => ?_)
  · skip
    replace c_13 := Int32.not_lt.mpr c_13
    refine r_aload_n (pc := 20) C 1 dX10_repays_20 rfl rfl ?_
    refine r_iload_n (pc := 21) C 0 dX10_repays_21 rfl rfl ?_
    refine r_iconst (pc := 22) (v := 3) C dX10_repays_22 rfl ?_
    refine r_cVi (pc := 23) C hfl k_X10_58 (c_is hm (by omega) (by omega)) hm.1 ca_X10 rfl rfl (Nat.le_of_ble_eq_true rfl) (by decide) (by decide) dX10_repays_23 ?_
    refine r_t (y := onI w s c) (by rw [onI, if_neg c_13]) ?_
    refine r_istore (pc := 26) (lo' := [(4, _), (3, _), (0, _), (1, _), (2, _)]) C dX10_repays_26 (by decide) rfl ?_
    refine r_aload_n (pc := 28) C 2 dX10_repays_28 rfl rfl ?_
    refine r_iload_n (pc := 29) C 1 dX10_repays_29 rfl rfl ?_
    refine r_iconst (pc := 30) (v := 3) C dX10_repays_30 rfl ?_
    refine r_aload_n (pc := 31) C 2 dX10_repays_31 rfl rfl ?_
    refine r_iload_n (pc := 32) C 1 dX10_repays_32 rfl rfl ?_
    refine r_iconst (pc := 33) (v := 3) C dX10_repays_33 rfl ?_
    refine r_cVi (pc := 34) C hfl k_X10_58 (c_is hm (by omega) (by omega)) hm.1 ca_X10 rfl rfl (Nat.le_of_ble_eq_true rfl) (by decide) (by decide) dX10_repays_34 ?_
    refine r_iload (pc := 37) C 0 dX10_repays_37 rfl ?_
    refine r_isub (pc := 39) C dX10_repays_39 ?_
    refine r_cVv (pc := 40) C hfl k_X10_73 (c_puts hm (by omega) (by omega)) hm.1 ca_X10 rfl rfl (Nat.le_of_ble_eq_true rfl) (by decide) (by decide) dX10_repays_40 ?_
    refine r_I (I' := (sr I (M + 1) (upd w (58 + 10 * s + 3) (w (58 + 10 * s + 3) - onI w s c)))) rfl ?_
    refine r_aload_n (pc := 43) C 2 dX10_repays_43 rfl rfl ?_
    refine r_iload_n (pc := 44) C 1 dX10_repays_44 rfl rfl ?_
    refine r_iconst (pc := 45) (v := 2) C dX10_repays_45 rfl ?_
    refine r_aload_n (pc := 46) C 2 dX10_repays_46 rfl rfl ?_
    refine r_iload_n (pc := 47) C 1 dX10_repays_47 rfl rfl ?_
    refine r_iconst (pc := 48) (v := 2) C dX10_repays_48 rfl ?_
    refine r_cVi (pc := 49) C hfl k_X10_58 (c_is hm (by omega) (by omega)) hm.1 ca_X10 rfl rfl (Nat.le_of_ble_eq_true rfl) (by decide) (by decide) dX10_repays_49 ?_
    refine r_t (y := w (58 + 10 * s + 2)) (upd_n (by omega)) ?_
    refine r_iload_n (pc := 52) C 4 dX10_repays_52 rfl rfl ?_
    refine r_isub (pc := 53) C dX10_repays_53 ?_
    refine r_iload (pc := 54) C 0 dX10_repays_54 rfl ?_
    refine r_iadd (pc := 56) C dX10_repays_56 ?_
    refine r_cVv (pc := 57) C hfl k_X10_73 (c_puts hm (by omega) (by omega)) hm.1 ca_X10 rfl rfl (Nat.le_of_ble_eq_true rfl) (by decide) (by decide) dX10_repays_57 ?_
    refine r_I (I' := (sr I (M + 1) (rpA w s c))) rfl ?_
    refine r_aload_n (pc := 60) C 2 dX10_repays_60 rfl rfl ?_
    refine r_aload_n (pc := 61) C 2 dX10_repays_61 rfl rfl ?_
    refine r_iload_n (pc := 62) C 1 dX10_repays_62 rfl rfl ?_
    refine r_iconst (pc := 63) (v := 1) C dX10_repays_63 rfl ?_
    refine r_cVi (pc := 64) C hfl k_X10_58 (c_is hm (by omega) (by omega)) hm.1 ca_X10 rfl rfl (Nat.le_of_ble_eq_true rfl) (by decide) (by decide) dX10_repays_64 ?_
    refine r_t (y := nI b) (by (try simp only [rpB, rpA]); (repeat (first | rw [upd_n (by omega)] | rw [ad_n (by omega)] | rw [sb_n (by omega)])); exact hw) ?_
    refine r_iconst (pc := 67) (v := 0) C dX10_repays_67 rfl ?_
    refine r_iload_n (pc := 68) C 4 dX10_repays_68 rfl rfl ?_
    refine r_ineg (pc := 69) C dX10_repays_69 ?_
    refine r_cVv (pc := 70) C hfl k_X10_69 (c_adds hm (by omega) (by omega)) hm.1 ca_X10 rfl rfl (Nat.le_of_ble_eq_true rfl) (by decide) (by decide) dX10_repays_70 ?_
    refine r_aload_n (pc := 73) C 2 dX10_repays_73 rfl rfl ?_
    refine r_getR (pc := 74) (x := M + 1) C f_X10_13 hm.1 rfl rfl dX10_repays_74 ?_
    refine r_iconst (pc := 77) (v := 4) C dX10_repays_77 rfl ?_
    refine r_dup2 (pc := 78) C dX10_repays_78 rfl rfl ?_
    refine r_wld (pc := 79) (x := 4) C hm.2.1 rfl (by omega) (by decide) dX10_repays_79 ?_
    refine r_iload_n (pc := 80) C 4 dX10_repays_80 rfl rfl ?_
    refine r_iadd (pc := 81) C dX10_repays_81 ?_
    refine r_wst (pc := 82) (x := 4) C hm.2.1 rfl (by omega) (by decide) dX10_repays_82 ?_
    refine r_I (I' := (sr I (M + 1) (rpB w s b c))) rfl ?_
    refine r_aload_n (pc := 83) C 2 dX10_repays_83 rfl rfl ?_
    refine r_iload_n (pc := 84) C 3 dX10_repays_84 rfl rfl ?_
    refine r_iload_n (pc := 85) C 4 dX10_repays_85 rfl rfl ?_
    refine r_cVv (pc := 86) C hfl k_X10_139 (c_enters hm (by (try simp only [rpB, rpA]); (repeat (first | rw [upd_n (by omega)] | rw [ad_n (by omega)] | rw [sb_n (by omega)])); exact hE) hE20 (by rw [show rpB w s b c 0 = w 0 from by (try simp only [rpB, rpA]); (repeat (first | rw [upd_n (by omega)] | rw [ad_n (by omega)] | rw [sb_n (by omega)]))]; exact hre)) hm.1 ca_X10 rfl rfl (Nat.le_of_ble_eq_true rfl) (by decide) (by decide) dX10_repays_86 ?_
    refine r_I (I' := (sr I (M + 1) (rpC w E s b id c r))) rfl ?_
    refine r_aload_n (pc := 89) C 2 dX10_repays_89 rfl rfl ?_
    refine r_iload_n (pc := 90) C 1 dX10_repays_90 rfl rfl ?_
    refine r_cVi (pc := 91) C hfl k_X10_62 (c_debtAt hm (by omega)) hm.1 ca_X10 rfl rfl (Nat.le_of_ble_eq_true rfl) (by decide) (by decide) dX10_repays_91 ?_
    refine r_istore (pc := 94) (lo' := [(5, _), (4, _), (3, _), (0, _), (1, _), (2, _)]) C dX10_repays_94 (by decide) rfl ?_
    refine r_iload (pc := 96) C 0 dX10_repays_96 rfl ?_
    refine r_ifne (pc := 98) (tgt := 122) C dX10_repays_98 rfl (fun c_98 => ?_) (fun c_98 => ?_)
    · skip
      refine r_iload (pc := 122) C 0 dX10_repays_122 rfl ?_
      exact r_iret (pc := 124) C dX10_repays_124 ⟨rfl, rfl, rfl, by rw [rpV, if_neg c_98]⟩ (by decide)
    · skip
      refine r_aload_n (pc := 101) C 3 dX10_repays_101 rfl rfl ?_
      refine r_iload_n (pc := 102) C 2 dX10_repays_102 rfl rfl ?_
      refine r_cVv (pc := 103) C hfl k_X10_143 (c_givesBack hm (by omega) hb ((hk _ (Or.inr rfl)).trans hw)) hm.1 ca_X10 rfl rfl (Nat.le_of_ble_eq_true rfl) (by decide) (by decide) dX10_repays_103 ?_
      refine r_aload_n (pc := 106) C 3 dX10_repays_106 rfl rfl ?_
      refine r_iload_n (pc := 107) C 2 dX10_repays_107 rfl rfl ?_
      refine r_cVv (pc := 108) C hfl k_X10_147 (c_goes hm ((gbK_n (by omega) (by omega)).trans ((hk _ (Or.inl rfl)).trans hN)) hN10 hs) hm.1 ca_X10 rfl rfl (Nat.le_of_ble_eq_true rfl) (by decide) (by decide) dX10_repays_108 ?_
      refine r_aload_n (pc := 111) C 3 dX10_repays_111 rfl rfl ?_
      refine r_getR (pc := 112) (x := M + 1) C f_X10_13 hm.1 rfl rfl dX10_repays_112 ?_
      refine r_bipush (pc := 115) (v := 6) C dX10_repays_115 rfl ?_
      refine r_dup2 (pc := 117) C dX10_repays_117 rfl rfl ?_
      refine r_wld (pc := 118) (x := 6) C hm.2.1 rfl (by omega) (by decide) dX10_repays_118 ?_
      refine r_iconst (pc := 119) (v := 1) C dX10_repays_119 rfl ?_
      refine r_iadd (pc := 120) C dX10_repays_120 ?_
      refine r_wst (pc := 121) (x := 6) C hm.2.1 rfl (by omega) (by decide) dX10_repays_121 ?_
      refine r_iload (pc := 122) C 0 dX10_repays_122 rfl ?_
      exact r_iret (pc := 124) C dX10_repays_124 ⟨rfl, rfl, rfl, by rw [rpV, if_pos c_98]; rfl⟩ (by decide)
  · skip
    replace c_13 := Int32.not_le.mp c_13
    refine r_iload_n (pc := 16) C 3 dX10_repays_16 rfl rfl ?_
    refine r_goto (pc := 17) (tgt := 26) C dX10_repays_17 rfl ?_
    refine r_t (y := onI w s c) (by rw [onI, if_pos c_13]) ?_
    refine r_istore (pc := 26) (lo' := [(4, _), (3, _), (0, _), (1, _), (2, _)]) C dX10_repays_26 (by decide) rfl ?_
    refine r_aload_n (pc := 28) C 2 dX10_repays_28 rfl rfl ?_
    refine r_iload_n (pc := 29) C 1 dX10_repays_29 rfl rfl ?_
    refine r_iconst (pc := 30) (v := 3) C dX10_repays_30 rfl ?_
    refine r_aload_n (pc := 31) C 2 dX10_repays_31 rfl rfl ?_
    refine r_iload_n (pc := 32) C 1 dX10_repays_32 rfl rfl ?_
    refine r_iconst (pc := 33) (v := 3) C dX10_repays_33 rfl ?_
    refine r_cVi (pc := 34) C hfl k_X10_58 (c_is hm (by omega) (by omega)) hm.1 ca_X10 rfl rfl (Nat.le_of_ble_eq_true rfl) (by decide) (by decide) dX10_repays_34 ?_
    refine r_iload (pc := 37) C 0 dX10_repays_37 rfl ?_
    refine r_isub (pc := 39) C dX10_repays_39 ?_
    refine r_cVv (pc := 40) C hfl k_X10_73 (c_puts hm (by omega) (by omega)) hm.1 ca_X10 rfl rfl (Nat.le_of_ble_eq_true rfl) (by decide) (by decide) dX10_repays_40 ?_
    refine r_I (I' := (sr I (M + 1) (upd w (58 + 10 * s + 3) (w (58 + 10 * s + 3) - onI w s c)))) rfl ?_
    refine r_aload_n (pc := 43) C 2 dX10_repays_43 rfl rfl ?_
    refine r_iload_n (pc := 44) C 1 dX10_repays_44 rfl rfl ?_
    refine r_iconst (pc := 45) (v := 2) C dX10_repays_45 rfl ?_
    refine r_aload_n (pc := 46) C 2 dX10_repays_46 rfl rfl ?_
    refine r_iload_n (pc := 47) C 1 dX10_repays_47 rfl rfl ?_
    refine r_iconst (pc := 48) (v := 2) C dX10_repays_48 rfl ?_
    refine r_cVi (pc := 49) C hfl k_X10_58 (c_is hm (by omega) (by omega)) hm.1 ca_X10 rfl rfl (Nat.le_of_ble_eq_true rfl) (by decide) (by decide) dX10_repays_49 ?_
    refine r_t (y := w (58 + 10 * s + 2)) (upd_n (by omega)) ?_
    refine r_iload_n (pc := 52) C 4 dX10_repays_52 rfl rfl ?_
    refine r_isub (pc := 53) C dX10_repays_53 ?_
    refine r_iload (pc := 54) C 0 dX10_repays_54 rfl ?_
    refine r_iadd (pc := 56) C dX10_repays_56 ?_
    refine r_cVv (pc := 57) C hfl k_X10_73 (c_puts hm (by omega) (by omega)) hm.1 ca_X10 rfl rfl (Nat.le_of_ble_eq_true rfl) (by decide) (by decide) dX10_repays_57 ?_
    refine r_I (I' := (sr I (M + 1) (rpA w s c))) rfl ?_
    refine r_aload_n (pc := 60) C 2 dX10_repays_60 rfl rfl ?_
    refine r_aload_n (pc := 61) C 2 dX10_repays_61 rfl rfl ?_
    refine r_iload_n (pc := 62) C 1 dX10_repays_62 rfl rfl ?_
    refine r_iconst (pc := 63) (v := 1) C dX10_repays_63 rfl ?_
    refine r_cVi (pc := 64) C hfl k_X10_58 (c_is hm (by omega) (by omega)) hm.1 ca_X10 rfl rfl (Nat.le_of_ble_eq_true rfl) (by decide) (by decide) dX10_repays_64 ?_
    refine r_t (y := nI b) (by (try simp only [rpB, rpA]); (repeat (first | rw [upd_n (by omega)] | rw [ad_n (by omega)] | rw [sb_n (by omega)])); exact hw) ?_
    refine r_iconst (pc := 67) (v := 0) C dX10_repays_67 rfl ?_
    refine r_iload_n (pc := 68) C 4 dX10_repays_68 rfl rfl ?_
    refine r_ineg (pc := 69) C dX10_repays_69 ?_
    refine r_cVv (pc := 70) C hfl k_X10_69 (c_adds hm (by omega) (by omega)) hm.1 ca_X10 rfl rfl (Nat.le_of_ble_eq_true rfl) (by decide) (by decide) dX10_repays_70 ?_
    refine r_aload_n (pc := 73) C 2 dX10_repays_73 rfl rfl ?_
    refine r_getR (pc := 74) (x := M + 1) C f_X10_13 hm.1 rfl rfl dX10_repays_74 ?_
    refine r_iconst (pc := 77) (v := 4) C dX10_repays_77 rfl ?_
    refine r_dup2 (pc := 78) C dX10_repays_78 rfl rfl ?_
    refine r_wld (pc := 79) (x := 4) C hm.2.1 rfl (by omega) (by decide) dX10_repays_79 ?_
    refine r_iload_n (pc := 80) C 4 dX10_repays_80 rfl rfl ?_
    refine r_iadd (pc := 81) C dX10_repays_81 ?_
    refine r_wst (pc := 82) (x := 4) C hm.2.1 rfl (by omega) (by decide) dX10_repays_82 ?_
    refine r_I (I' := (sr I (M + 1) (rpB w s b c))) rfl ?_
    refine r_aload_n (pc := 83) C 2 dX10_repays_83 rfl rfl ?_
    refine r_iload_n (pc := 84) C 3 dX10_repays_84 rfl rfl ?_
    refine r_iload_n (pc := 85) C 4 dX10_repays_85 rfl rfl ?_
    refine r_cVv (pc := 86) C hfl k_X10_139 (c_enters hm (by (try simp only [rpB, rpA]); (repeat (first | rw [upd_n (by omega)] | rw [ad_n (by omega)] | rw [sb_n (by omega)])); exact hE) hE20 (by rw [show rpB w s b c 0 = w 0 from by (try simp only [rpB, rpA]); (repeat (first | rw [upd_n (by omega)] | rw [ad_n (by omega)] | rw [sb_n (by omega)]))]; exact hre)) hm.1 ca_X10 rfl rfl (Nat.le_of_ble_eq_true rfl) (by decide) (by decide) dX10_repays_86 ?_
    refine r_I (I' := (sr I (M + 1) (rpC w E s b id c r))) rfl ?_
    refine r_aload_n (pc := 89) C 2 dX10_repays_89 rfl rfl ?_
    refine r_iload_n (pc := 90) C 1 dX10_repays_90 rfl rfl ?_
    refine r_cVi (pc := 91) C hfl k_X10_62 (c_debtAt hm (by omega)) hm.1 ca_X10 rfl rfl (Nat.le_of_ble_eq_true rfl) (by decide) (by decide) dX10_repays_91 ?_
    refine r_istore (pc := 94) (lo' := [(5, _), (4, _), (3, _), (0, _), (1, _), (2, _)]) C dX10_repays_94 (by decide) rfl ?_
    refine r_iload (pc := 96) C 0 dX10_repays_96 rfl ?_
    refine r_ifne (pc := 98) (tgt := 122) C dX10_repays_98 rfl (fun c_98 => ?_) (fun c_98 => ?_)
    · skip
      refine r_iload (pc := 122) C 0 dX10_repays_122 rfl ?_
      exact r_iret (pc := 124) C dX10_repays_124 ⟨rfl, rfl, rfl, by rw [rpV, if_neg c_98]⟩ (by decide)
    · skip
      refine r_aload_n (pc := 101) C 3 dX10_repays_101 rfl rfl ?_
      refine r_iload_n (pc := 102) C 2 dX10_repays_102 rfl rfl ?_
      refine r_cVv (pc := 103) C hfl k_X10_143 (c_givesBack hm (by omega) hb ((hk _ (Or.inr rfl)).trans hw)) hm.1 ca_X10 rfl rfl (Nat.le_of_ble_eq_true rfl) (by decide) (by decide) dX10_repays_103 ?_
      refine r_aload_n (pc := 106) C 3 dX10_repays_106 rfl rfl ?_
      refine r_iload_n (pc := 107) C 2 dX10_repays_107 rfl rfl ?_
      refine r_cVv (pc := 108) C hfl k_X10_147 (c_goes hm ((gbK_n (by omega) (by omega)).trans ((hk _ (Or.inl rfl)).trans hN)) hN10 hs) hm.1 ca_X10 rfl rfl (Nat.le_of_ble_eq_true rfl) (by decide) (by decide) dX10_repays_108 ?_
      refine r_aload_n (pc := 111) C 3 dX10_repays_111 rfl rfl ?_
      refine r_getR (pc := 112) (x := M + 1) C f_X10_13 hm.1 rfl rfl dX10_repays_112 ?_
      refine r_bipush (pc := 115) (v := 6) C dX10_repays_115 rfl ?_
      refine r_dup2 (pc := 117) C dX10_repays_117 rfl rfl ?_
      refine r_wld (pc := 118) (x := 6) C hm.2.1 rfl (by omega) (by decide) dX10_repays_118 ?_
      refine r_iconst (pc := 119) (v := 1) C dX10_repays_119 rfl ?_
      refine r_iadd (pc := 120) C dX10_repays_120 ?_
      refine r_wst (pc := 121) (x := 6) C hm.2.1 rfl (by omega) (by decide) dX10_repays_121 ?_
      refine r_iload (pc := 122) C 0 dX10_repays_122 rfl ?_
      exact r_iret (pc := 124) C dX10_repays_124 ⟨rfl, rfl, rfl, by rw [rpV, if_pos c_98]; rfl⟩ (by decide)
