set_option maxHeartbeats 1000000 in
theorem c_X1_copyFrom {g : GG} {X : va_W} {T : TT} {I : II} {a s : Nat} (ha : T a = (1, 4, rfB a)) (hs : T s = (1, 4, rfB s)) (hg : T (a + 1) = (2, 4, nr)) (hgs : T (s + 1) = (2, 4, nr)) : Mc g yX1_copyFrom cX1_copyFrom 2 none 1 0 0 [.ref a, .ref s] X T I (Ex none X T (cpB I a s)) := by
  refine Mc.of (by decide) (Nat.le_of_ble_eq_true rfl) (fun k hfl C => ?_)
  refine r_lo (lo' := [(0, _), (1, _)]) rfl ?_
  refine r_aload_n (pc := 0) C 0 dX1_copyFrom_0 rfl rfl ?_
  refine r_aload_n (pc := 1) C 1 dX1_copyFrom_1 rfl rfl ?_
  refine r_getI (pc := 2) C f_X1_9 hs rfl dX1_copyFrom_2 ?_
  refine r_putI (pc := 5) C f_X1_9 ha rfl rfl rfl dX1_copyFrom_5 ?_
  refine r_aload_n (pc := 8) C 0 dX1_copyFrom_8 rfl rfl ?_
  refine r_aload_n (pc := 9) C 1 dX1_copyFrom_9 rfl rfl ?_
  refine r_getI (pc := 10) C f_X1_15 hs rfl dX1_copyFrom_10 ?_
  refine r_putI (pc := 13) C f_X1_15 ha rfl rfl rfl dX1_copyFrom_13 ?_
  refine r_aload_n (pc := 16) C 1 dX1_copyFrom_16 rfl rfl ?_
  refine r_getR (pc := 17) (x := s + 1) C f_X1_18 hs rfl rfl dX1_copyFrom_17 ?_
  refine r_iconst (pc := 20) (v := 0) C dX1_copyFrom_20 rfl ?_
  refine r_aload_n (pc := 21) C 0 dX1_copyFrom_21 rfl rfl ?_
  refine r_getR (pc := 22) (x := a + 1) C f_X1_18 ha rfl rfl dX1_copyFrom_22 ?_
  refine r_iconst (pc := 25) (v := 0) C dX1_copyFrom_25 rfl ?_
  refine r_iconst (pc := 26) (v := 4) C dX1_copyFrom_26 rfl ?_
  refine r_acopy (pc := 27) C ka_X1_22 hgs hg (by omega) (by omega) (by decide) (by decide) (by decide) dX1_copyFrom_27 ?_
  exact r_vret (pc := 30) C dX1_copyFrom_30 ⟨rfl, rfl, rfl, rfl⟩ (by decide)

set_option maxHeartbeats 1000000 in
theorem c_X7_copyFrom {g : GG} {X : va_W} {T : TT} {I : II} {a s : Nat} (ha : T a = (1, 9, rfN a)) (hs : T s = (1, 9, rfN s)) (hg : T (a + 1) = (2, 4, nr)) (hgs : T (s + 1) = (2, 4, nr)) : Mc g yX7_copyFrom cX7_copyFrom 2 none 1 0 0 [.ref a, .ref s] X T I (Ex none X T (cpN I a s)) := by
  refine Mc.of (by decide) (Nat.le_of_ble_eq_true rfl) (fun k hfl C => ?_)
  refine r_lo (lo' := [(0, _), (1, _)]) rfl ?_
  refine r_aload_n (pc := 0) C 0 dX7_copyFrom_0 rfl rfl ?_
  refine r_aload_n (pc := 1) C 1 dX7_copyFrom_1 rfl rfl ?_
  refine r_getI (pc := 2) C f_X7_9 hs rfl dX7_copyFrom_2 ?_
  refine r_putI (pc := 5) C f_X7_9 ha rfl rfl rfl dX7_copyFrom_5 ?_
  refine r_aload_n (pc := 8) C 0 dX7_copyFrom_8 rfl rfl ?_
  refine r_aload_n (pc := 9) C 1 dX7_copyFrom_9 rfl rfl ?_
  refine r_getI (pc := 10) C f_X7_15 hs rfl dX7_copyFrom_10 ?_
  refine r_putI (pc := 13) C f_X7_15 ha rfl rfl rfl dX7_copyFrom_13 ?_
  refine r_aload_n (pc := 16) C 0 dX7_copyFrom_16 rfl rfl ?_
  refine r_aload_n (pc := 17) C 1 dX7_copyFrom_17 rfl rfl ?_
  refine r_getI (pc := 18) C f_X7_18 hs rfl dX7_copyFrom_18 ?_
  refine r_putI (pc := 21) C f_X7_18 ha rfl rfl rfl dX7_copyFrom_21 ?_
  refine r_aload_n (pc := 24) C 0 dX7_copyFrom_24 rfl rfl ?_
  refine r_aload_n (pc := 25) C 1 dX7_copyFrom_25 rfl rfl ?_
  refine r_getI (pc := 26) C f_X7_21 hs rfl dX7_copyFrom_26 ?_
  refine r_putI (pc := 29) C f_X7_21 ha rfl rfl rfl dX7_copyFrom_29 ?_
  refine r_aload_n (pc := 32) C 0 dX7_copyFrom_32 rfl rfl ?_
  refine r_aload_n (pc := 33) C 1 dX7_copyFrom_33 rfl rfl ?_
  refine r_getI (pc := 34) C f_X7_24 hs rfl dX7_copyFrom_34 ?_
  refine r_putI (pc := 37) C f_X7_24 ha rfl rfl rfl dX7_copyFrom_37 ?_
  refine r_aload_n (pc := 40) C 0 dX7_copyFrom_40 rfl rfl ?_
  refine r_aload_n (pc := 41) C 1 dX7_copyFrom_41 rfl rfl ?_
  refine r_getI (pc := 42) C f_X7_27 hs rfl dX7_copyFrom_42 ?_
  refine r_putI (pc := 45) C f_X7_27 ha rfl rfl rfl dX7_copyFrom_45 ?_
  refine r_aload_n (pc := 48) C 1 dX7_copyFrom_48 rfl rfl ?_
  refine r_getR (pc := 49) (x := s + 1) C f_X7_30 hs rfl rfl dX7_copyFrom_49 ?_
  refine r_iconst (pc := 52) (v := 0) C dX7_copyFrom_52 rfl ?_
  refine r_aload_n (pc := 53) C 0 dX7_copyFrom_53 rfl rfl ?_
  refine r_getR (pc := 54) (x := a + 1) C f_X7_30 ha rfl rfl dX7_copyFrom_54 ?_
  refine r_iconst (pc := 57) (v := 0) C dX7_copyFrom_57 rfl ?_
  refine r_iconst (pc := 58) (v := 4) C dX7_copyFrom_58 rfl ?_
  refine r_acopy (pc := 59) C ka_X7_47 hgs hg (by omega) (by omega) (by decide) (by decide) (by decide) dX7_copyFrom_59 ?_
  exact r_vret (pc := 62) C dX7_copyFrom_62 ⟨rfl, rfl, rfl, rfl⟩ (by decide)

set_option maxHeartbeats 1000000 in
theorem c_X6_copyFrom {g : GG} {X : va_W} {T : TT} {I : II} {a s : Nat} (ha : T a = (1, 8, rfG a)) (hs : T s = (1, 8, rfG s)) (ha0 : T (a + 1) = (2, 20, nr)) (hb0 : T (s + 1) = (2, 20, nr)) (ha1 : T (a + 2) = (2, 20, nr)) (hb1 : T (s + 2) = (2, 20, nr)) (ha2 : T (a + 3) = (2, 20, nr)) (hb2 : T (s + 3) = (2, 20, nr)) : Mc g yX6_copyFrom cX6_copyFrom 2 none 1 0 0 [.ref a, .ref s] X T I (Ex none X T (cpL I a s)) := by
  refine Mc.of (by decide) (Nat.le_of_ble_eq_true rfl) (fun k hfl C => ?_)
  refine r_lo (lo' := [(0, _), (1, _)]) rfl ?_
  refine r_aload_n (pc := 0) C 0 dX6_copyFrom_0 rfl rfl ?_
  refine r_aload_n (pc := 1) C 1 dX6_copyFrom_1 rfl rfl ?_
  refine r_getI (pc := 2) C f_X6_9 hs rfl dX6_copyFrom_2 ?_
  refine r_putI (pc := 5) C f_X6_9 ha rfl rfl rfl dX6_copyFrom_5 ?_
  refine r_aload_n (pc := 8) C 1 dX6_copyFrom_8 rfl rfl ?_
  refine r_getR (pc := 9) (x := s + 1) C f_X6_15 hs rfl rfl dX6_copyFrom_9 ?_
  refine r_iconst (pc := 12) (v := 0) C dX6_copyFrom_12 rfl ?_
  refine r_aload_n (pc := 13) C 0 dX6_copyFrom_13 rfl rfl ?_
  refine r_getR (pc := 14) (x := a + 1) C f_X6_15 ha rfl rfl dX6_copyFrom_14 ?_
  refine r_iconst (pc := 17) (v := 0) C dX6_copyFrom_17 rfl ?_
  refine r_bipush (pc := 18) (v := 20) C dX6_copyFrom_18 rfl ?_
  refine r_acopy (pc := 20) C ka_X6_32 hb0 ha0 (by omega) (by omega) (by decide) (by decide) (by decide) dX6_copyFrom_20 ?_
  refine r_aload_n (pc := 23) C 1 dX6_copyFrom_23 rfl rfl ?_
  refine r_getR (pc := 24) (x := s + 2) C f_X6_19 hs rfl rfl dX6_copyFrom_24 ?_
  refine r_iconst (pc := 27) (v := 0) C dX6_copyFrom_27 rfl ?_
  refine r_aload_n (pc := 28) C 0 dX6_copyFrom_28 rfl rfl ?_
  refine r_getR (pc := 29) (x := a + 2) C f_X6_19 ha rfl rfl dX6_copyFrom_29 ?_
  refine r_iconst (pc := 32) (v := 0) C dX6_copyFrom_32 rfl ?_
  refine r_bipush (pc := 33) (v := 20) C dX6_copyFrom_33 rfl ?_
  refine r_acopy (pc := 35) C ka_X6_32 hb1 ha1 (by omega) (by omega) (by decide) (by decide) (by decide) dX6_copyFrom_35 ?_
  refine r_aload_n (pc := 38) C 1 dX6_copyFrom_38 rfl rfl ?_
  refine r_getR (pc := 39) (x := s + 3) C f_X6_22 hs rfl rfl dX6_copyFrom_39 ?_
  refine r_iconst (pc := 42) (v := 0) C dX6_copyFrom_42 rfl ?_
  refine r_aload_n (pc := 43) C 0 dX6_copyFrom_43 rfl rfl ?_
  refine r_getR (pc := 44) (x := a + 3) C f_X6_22 ha rfl rfl dX6_copyFrom_44 ?_
  refine r_iconst (pc := 47) (v := 0) C dX6_copyFrom_47 rfl ?_
  refine r_bipush (pc := 48) (v := 20) C dX6_copyFrom_48 rfl ?_
  refine r_acopy (pc := 50) C ka_X6_32 hb2 ha2 (by omega) (by omega) (by decide) (by decide) (by decide) dX6_copyFrom_50 ?_
  exact r_vret (pc := 53) C dX6_copyFrom_53 ⟨rfl, rfl, rfl, rfl⟩ (by decide)

set_option maxHeartbeats 1000000 in
theorem c_X3_copyFrom {g : GG} {X : va_W} {T : TT} {I : II} {a b : Nat} (hda : isDk T a) (hdb : isDk T b) {w : Nat → Int32} {B N E : Nat} {pa pb : Nat → Nat} (hV : DV I b w B N E pb) (hpa : PmOk I a pa) (hdis : a + 42 ≤ b ∨ b + 42 ≤ a) (hB : w 1 = nI B) (hN : w 2 = nI N) : Mc g yX3_copyFrom cX3_copyFrom 3 none 2 0 0 [.ref a, .ref b] X T I (PD I a X T none w B N E pa (I a 9)) := by
  have hB6 := hV.hB
  have hN10 := hV.hN
  have hC := CPV.of hpa hV hdis
  refine Mc.of (by decide) (Nat.le_of_ble_eq_true rfl) (fun k hfl C => ?_)
  refine r_lo (lo' := [(0, _), (1, _)]) rfl ?_
  refine r_aload_n (pc := 0) C 0 dX3_copyFrom_0 rfl rfl ?_
  refine r_aload_n (pc := 1) C 1 dX3_copyFrom_1 rfl rfl ?_
  refine r_getI (pc := 2) C f_X3_9 ((Dk_0 hdb)) rfl dX3_copyFrom_2 ?_
  refine r_t (hC.src.get at_today) ?_
  refine r_putI (pc := 5) C f_X3_9 ((Dk_0 hda)) rfl rfl rfl dX3_copyFrom_5 ?_
  refine r_cp (hC.put at_today rfl) (fun I1 hC1 => ?_)
  refine r_aload_n (pc := 8) C 0 dX3_copyFrom_8 rfl rfl ?_
  refine r_aload_n (pc := 9) C 1 dX3_copyFrom_9 rfl rfl ?_
  refine r_getI (pc := 10) C f_X3_15 ((Dk_0 hdb)) rfl dX3_copyFrom_10 ?_
  refine r_t (hC1.src.get at_funds) ?_
  refine r_putI (pc := 13) C f_X3_15 ((Dk_0 hda)) rfl rfl rfl dX3_copyFrom_13 ?_
  refine r_cp (hC1.put at_funds rfl) (fun I2 hC2 => ?_)
  refine r_aload_n (pc := 16) C 0 dX3_copyFrom_16 rfl rfl ?_
  refine r_aload_n (pc := 17) C 1 dX3_copyFrom_17 rfl rfl ?_
  refine r_getI (pc := 18) C f_X3_18 ((Dk_0 hdb)) rfl dX3_copyFrom_18 ?_
  refine r_t (hC2.src.get at_borrowerTotal) ?_
  refine r_putI (pc := 21) C f_X3_18 ((Dk_0 hda)) rfl rfl rfl dX3_copyFrom_21 ?_
  refine r_cp (hC2.put at_borrowerTotal rfl) (fun I3 hC3 => ?_)
  refine r_aload_n (pc := 24) C 0 dX3_copyFrom_24 rfl rfl ?_
  refine r_aload_n (pc := 25) C 1 dX3_copyFrom_25 rfl rfl ?_
  refine r_getI (pc := 26) C f_X3_21 ((Dk_0 hdb)) rfl dX3_copyFrom_26 ?_
  refine r_t (hC3.src.get at_loanTotal) ?_
  refine r_putI (pc := 29) C f_X3_21 ((Dk_0 hda)) rfl rfl rfl dX3_copyFrom_29 ?_
  refine r_cp (hC3.put at_loanTotal rfl) (fun I4 hC4 => ?_)
  refine r_aload_n (pc := 32) C 0 dX3_copyFrom_32 rfl rfl ?_
  refine r_aload_n (pc := 33) C 1 dX3_copyFrom_33 rfl rfl ?_
  refine r_getI (pc := 34) C f_X3_24 ((Dk_0 hdb)) rfl dX3_copyFrom_34 ?_
  refine r_t (hC4.src.get at_nextId) ?_
  refine r_putI (pc := 37) C f_X3_24 ((Dk_0 hda)) rfl rfl rfl dX3_copyFrom_37 ?_
  refine r_cp (hC4.put at_nextId rfl) (fun I5 hC5 => ?_)
  refine r_aload_n (pc := 40) C 0 dX3_copyFrom_40 rfl rfl ?_
  refine r_aload_n (pc := 41) C 1 dX3_copyFrom_41 rfl rfl ?_
  refine r_getI (pc := 42) C f_X3_27 ((Dk_0 hdb)) rfl dX3_copyFrom_42 ?_
  refine r_t (hC5.src.get at_repaidTotal) ?_
  refine r_putI (pc := 45) C f_X3_27 ((Dk_0 hda)) rfl rfl rfl dX3_copyFrom_45 ?_
  refine r_cp (hC5.put at_repaidTotal rfl) (fun I6 hC6 => ?_)
  refine r_aload_n (pc := 48) C 0 dX3_copyFrom_48 rfl rfl ?_
  refine r_aload_n (pc := 49) C 1 dX3_copyFrom_49 rfl rfl ?_
  refine r_getI (pc := 50) C f_X3_30 ((Dk_0 hdb)) rfl dX3_copyFrom_50 ?_
  refine r_t (hC6.src.get at_defaultedTotal) ?_
  refine r_putI (pc := 53) C f_X3_30 ((Dk_0 hda)) rfl rfl rfl dX3_copyFrom_53 ?_
  refine r_cp (hC6.put at_defaultedTotal rfl) (fun I7 hC7 => ?_)
  refine r_aload_n (pc := 56) C 0 dX3_copyFrom_56 rfl rfl ?_
  refine r_aload_n (pc := 57) C 1 dX3_copyFrom_57 rfl rfl ?_
  refine r_getI (pc := 58) C f_X3_33 ((Dk_0 hdb)) rfl dX3_copyFrom_58 ?_
  refine r_t (hC7.src.get at_lossTotal) ?_
  refine r_putI (pc := 61) C f_X3_33 ((Dk_0 hda)) rfl rfl rfl dX3_copyFrom_61 ?_
  refine r_cp (hC7.put at_lossTotal rfl) (fun I8 hC8 => ?_)
  refine r_aload_n (pc := 64) C 0 dX3_copyFrom_64 rfl rfl ?_
  refine r_aload_n (pc := 65) C 1 dX3_copyFrom_65 rfl rfl ?_
  refine r_getI (pc := 66) C f_X3_36 ((Dk_0 hdb)) rfl dX3_copyFrom_66 ?_
  refine r_t (hC8.src.get at_broughtCoins) ?_
  refine r_putI (pc := 69) C f_X3_36 ((Dk_0 hda)) rfl rfl rfl dX3_copyFrom_69 ?_
  refine r_cp (hC8.put at_broughtCoins rfl) (fun I9 hC9 => ?_)
  refine r_aload_n (pc := 72) C 1 dX3_copyFrom_72 rfl rfl ?_
  refine r_getR (pc := 73) (x := b + 1) C f_X3_42 ((Dk_0 hdb)) rfl rfl dX3_copyFrom_73 ?_
  refine r_iconst (pc := 76) (v := 0) C dX3_copyFrom_76 rfl ?_
  refine r_aload_n (pc := 77) C 0 dX3_copyFrom_77 rfl rfl ?_
  refine r_getR (pc := 78) (x := a + 1) C f_X3_42 ((Dk_0 hda)) rfl rfl dX3_copyFrom_78 ?_
  refine r_iconst (pc := 81) (v := 0) C dX3_copyFrom_81 rfl ?_
  refine r_iconst (pc := 82) (v := 4) C dX3_copyFrom_82 rfl ?_
  refine r_acopy (pc := 83) C ka_X3_73 ((Dk_1 hdb)) ((Dk_1 hda)) (by omega) (by omega) (by decide) (by decide) (by decide) dX3_copyFrom_83 ?_
  refine r_cp (hC9.kd (i := 0) (by decide)) (fun I10 hC10 => ?_)
  refine r_aload_n (pc := 86) C 1 dX3_copyFrom_86 rfl rfl ?_
  refine r_getR (pc := 87) (x := b + 2) C f_X3_46 ((Dk_0 hdb)) rfl rfl dX3_copyFrom_87 ?_
  refine r_iconst (pc := 90) (v := 0) C dX3_copyFrom_90 rfl ?_
  refine r_aload_n (pc := 91) C 0 dX3_copyFrom_91 rfl rfl ?_
  refine r_getR (pc := 92) (x := a + 2) C f_X3_46 ((Dk_0 hda)) rfl rfl dX3_copyFrom_92 ?_
  refine r_iconst (pc := 95) (v := 0) C dX3_copyFrom_95 rfl ?_
  refine r_iconst (pc := 96) (v := 4) C dX3_copyFrom_96 rfl ?_
  refine r_acopy (pc := 97) C ka_X3_73 ((Dk_2 hdb)) ((Dk_2 hda)) (by omega) (by omega) (by decide) (by decide) (by decide) dX3_copyFrom_97 ?_
  refine r_cp (hC10.kd (i := 1) (by decide)) (fun I11 hC11 => ?_)
  refine r_aload_n (pc := 100) C 1 dX3_copyFrom_100 rfl rfl ?_
  refine r_getR (pc := 101) (x := b + 3) C f_X3_49 ((Dk_0 hdb)) rfl rfl dX3_copyFrom_101 ?_
  refine r_iconst (pc := 104) (v := 0) C dX3_copyFrom_104 rfl ?_
  refine r_aload_n (pc := 105) C 0 dX3_copyFrom_105 rfl rfl ?_
  refine r_getR (pc := 106) (x := a + 3) C f_X3_49 ((Dk_0 hda)) rfl rfl dX3_copyFrom_106 ?_
  refine r_iconst (pc := 109) (v := 0) C dX3_copyFrom_109 rfl ?_
  refine r_iconst (pc := 110) (v := 4) C dX3_copyFrom_110 rfl ?_
  refine r_acopy (pc := 111) C ka_X3_73 ((Dk_3 hdb)) ((Dk_3 hda)) (by omega) (by omega) (by decide) (by decide) (by decide) dX3_copyFrom_111 ?_
  refine r_cp (hC11.kd (i := 2) (by decide)) (fun I12 hC12 => ?_)
  refine r_iconst (pc := 114) (v := 0) C dX3_copyFrom_114 rfl ?_
  refine r_istore_n (pc := 115) (lo' := [(2, _), (0, _), (1, _)]) C dX3_copyFrom_115 rfl (by decide) rfl ?_
  have loop_116 : ∀ (n_116 : Nat) (q : Nat) (J : II), B - q < n_116 → (q ≤ B) → (CPV I J a b w B N E pa pb (fun j => (j < 22 ∧ j ≠ 5) ∨ (22 ≤ j ∧ j < 22 + 6 * q)) (I a 9)) → Go g k 3 (Qm g k (PD I a X T none w B N E pa (I a 9)) 0 0) 0 0 116 [(0, .ref a), (1, .ref b), (2, .int (nI q))] [] X T J := by
    intro n_116
    induction n_116 with
    | zero => intro _ _ h_; exact absurd h_ (Nat.not_lt_zero _)
    | succ n_116 ih_116 =>
      intro q J hq hq1 hJ
      refine r_iload_n (pc := 116) C 2 dX3_copyFrom_116 rfl rfl ?_
      refine r_aload_n (pc := 117) C 0 dX3_copyFrom_117 rfl rfl ?_
      refine r_getI (pc := 118) C f_X3_18 ((Dk_0 hda)) rfl dX3_copyFrom_118 ?_
      refine r_t (y := nI B) ((hJ.get at_borrowerTotal (by omega)).trans hB) ?_
      refine r_cgeN (pc := 121) (tgt := 145) C dX3_copyFrom_121 rfl (by omega) (by omega) (fun c_121 => ?_) (fun c_121 => ?_)
      · skip
        refine r_iconst (pc := 145) (v := 0) C dX3_copyFrom_145 rfl ?_
        refine r_istore_n (pc := 146) (lo' := [(2, _), (0, _), (1, _)]) C dX3_copyFrom_146 rfl (by decide) rfl ?_
        have loop_147 : ∀ (n_147 : Nat) (q : Nat) (J : II), N - q < n_147 → (q ≤ N) → (CPV I J a b w B N E pa pb (fun j => (j < 22 ∧ j ≠ 5) ∨ (22 ≤ j ∧ j < 22 + 6 * B) ∨ (58 ≤ j ∧ j < 58 + 10 * q)) (I a 9)) → Go g k 3 (Qm g k (PD I a X T none w B N E pa (I a 9)) 0 0) 0 0 147 [(0, .ref a), (1, .ref b), (2, .int (nI q))] [] X T J := by
          intro n_147
          induction n_147 with
          | zero => intro _ _ h_; exact absurd h_ (Nat.not_lt_zero _)
          | succ n_147 ih_147 =>
            intro q J hq hq1 hJ
            refine r_iload_n (pc := 147) C 2 dX3_copyFrom_147 rfl rfl ?_
            refine r_aload_n (pc := 148) C 0 dX3_copyFrom_148 rfl rfl ?_
            refine r_getI (pc := 149) C f_X3_21 ((Dk_0 hda)) rfl dX3_copyFrom_149 ?_
            refine r_t (y := nI N) ((hJ.get at_loanTotal (by omega)).trans hN) ?_
            refine r_cgeN (pc := 152) (tgt := 176) C dX3_copyFrom_152 rfl (by omega) (by omega) (fun c_152 => ?_) (fun c_152 => ?_)
            · skip
              refine r_aload_n (pc := 176) C 0 dX3_copyFrom_176 rfl rfl ?_
              refine r_getR (pc := 177) (x := a + 6) C f_X3_67 ((Dk_0 hda)) rfl rfl dX3_copyFrom_177 ?_
              refine r_aload_n (pc := 180) C 1 dX3_copyFrom_180 rfl rfl ?_
              refine r_getR (pc := 181) (x := b + 6) C f_X3_67 ((Dk_0 hdb)) rfl rfl dX3_copyFrom_181 ?_
              refine r_cVv (pc := 184) C hfl k_X3_86 (c_X6_copyFrom (Dk_6 hda) (Dk_6 hdb) (Dk_7 hda) (Dk_7 hdb) (Dk_8 hda) (Dk_8 hdb) (Dk_9 hda) (Dk_9 hdb)) ((Dk_6 hda)) ca_X6 rfl rfl (Nat.le_of_ble_eq_true rfl) (by decide) (by decide) dX3_copyFrom_184 ?_
              refine r_cp (hJ.led) (fun I13 hC13 => ?_)
              exact r_vret (pc := 187) C dX3_copyFrom_187 ⟨rfl, rfl, rfl, hC13.fin (fun j hj => by omega)⟩ (by decide)
            · skip
              refine r_aload_n (pc := 155) C 0 dX3_copyFrom_155 rfl rfl ?_
              refine r_getR (pc := 156) (x := a + 5) C f_X3_60 ((Dk_0 hda)) rfl rfl dX3_copyFrom_156 ?_
              refine r_iload_n (pc := 159) C 2 dX3_copyFrom_159 rfl rfl ?_
              refine r_lald (pc := 160) (x := q) (p := pa q) C ((Dk_5 hda)) rfl (by omega) (hJ.p (by omega)) (hJ.l (by omega)) dX3_copyFrom_160 ?_
              refine r_aload_n (pc := 161) C 1 dX3_copyFrom_161 rfl rfl ?_
              refine r_getR (pc := 162) (x := b + 5) C f_X3_60 ((Dk_0 hdb)) rfl rfl dX3_copyFrom_162 ?_
              refine r_iload_n (pc := 165) C 2 dX3_copyFrom_165 rfl rfl ?_
              refine r_lald (pc := 166) (x := q) (p := pb q) C ((Dk_5 hdb)) rfl (by omega) (hJ.src.p (by omega)) (hJ.src.l (by omega)) dX3_copyFrom_166 ?_
              refine r_cVv (pc := 167) C hfl k_X3_83 (c_X7_copyFrom (Dk_l hda (hJ.l (by omega))) (Dk_l hdb (hJ.src.l (by omega))) (Dk_p hda (hJ.l (by omega))) (Dk_p hdb (hJ.src.l (by omega)))) ((Dk_l hda (hJ.l (by omega)))) ca_X7 rfl rfl (Nat.le_of_ble_eq_true rfl) (by decide) (by decide) dX3_copyFrom_167 ?_
              refine r_cp (hJ.loan (by omega)) (fun I13 hC13 => ?_)
              refine r_iincN (pc := 170) (m := 1) (lo' := [(2, _), (0, _), (1, _)]) C 2 dX3_copyFrom_170 rfl rfl (by decide) rfl ?_
              refine r_goto (pc := 173) (tgt := 147) C dX3_copyFrom_173 rfl ?_
              refine r_ls [1, 2, 0] rfl ?_
              exact ih_147 (q + 1) _ (by omega) (by omega) (hC13.le (fun j hj => by omega))
        refine r_ls [1, 2, 0] rfl ?_
        exact loop_147 (N + 1) 0 _ (by omega) (by omega) (hJ.le (fun j hj => by omega))
      · skip
        refine r_aload_n (pc := 124) C 0 dX3_copyFrom_124 rfl rfl ?_
        refine r_getR (pc := 125) (x := a + 4) C f_X3_54 ((Dk_0 hda)) rfl rfl dX3_copyFrom_125 ?_
        refine r_iload_n (pc := 128) C 2 dX3_copyFrom_128 rfl rfl ?_
        refine r_aald (pc := 129) (x := q) (y := a + 10 + 2 * q) C ((Dk_4 hda)) (Or.inl rfl) rfl (by omega) (by decide) rfl dX3_copyFrom_129 ?_
        refine r_aload_n (pc := 130) C 1 dX3_copyFrom_130 rfl rfl ?_
        refine r_getR (pc := 131) (x := b + 4) C f_X3_54 ((Dk_0 hdb)) rfl rfl dX3_copyFrom_131 ?_
        refine r_iload_n (pc := 134) C 2 dX3_copyFrom_134 rfl rfl ?_
        refine r_aald (pc := 135) (x := q) (y := b + 10 + 2 * q) C ((Dk_4 hdb)) (Or.inl rfl) rfl (by omega) (by decide) rfl dX3_copyFrom_135 ?_
        refine r_cVv (pc := 136) C hfl k_X3_79 (c_X1_copyFrom (Dk_b hda (by omega)) (Dk_b hdb (by omega)) (Dk_g hda (by omega)) (Dk_g hdb (by omega))) ((Dk_b hda (by omega))) ca_X1 rfl rfl (Nat.le_of_ble_eq_true rfl) (by decide) (by decide) dX3_copyFrom_136 ?_
        refine r_cp (hJ.bor (by omega)) (fun I13 hC13 => ?_)
        refine r_iincN (pc := 139) (m := 1) (lo' := [(2, _), (0, _), (1, _)]) C 2 dX3_copyFrom_139 rfl rfl (by decide) rfl ?_
        refine r_goto (pc := 142) (tgt := 116) C dX3_copyFrom_142 rfl ?_
        refine r_ls [1, 2, 0] rfl ?_
        exact ih_116 (q + 1) _ (by omega) (by omega) (hC13.le (fun j hj => by omega))
  refine r_ls [1, 2, 0] rfl ?_
  exact loop_116 (B + 1) 0 _ (by omega) (by omega) (hC12.le (fun j hj => by omega))
