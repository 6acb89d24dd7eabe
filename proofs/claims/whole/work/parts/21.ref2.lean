set_option maxHeartbeats 1000000 in
theorem c_notBorrower {g : GG} {X : va_W} {T : TT} {I : II} {M : Nat} {w : Nat → Int32} (hm : isMd T M) {c : Int32} {B : Nat} (hB : w 1 = nI B) (hB6 : B ≤ 6) : Mc g yX10_notBorrower cX10_notBorrower 2 (some .int) 3 0 0 [.ref M, .int c] X T (sr I (M + 1) w) (Ex (some (.int (nI (fBorrower B c)))) X T (sr I (M + 1) w)) := by
  refine Mc.of (by decide) (Nat.le_of_ble_eq_true rfl) (fun k hfl C => ?_)
  refine r_lo (lo' := [(0, _), (1, _)]) rfl ?_
  refine r_iload_n (pc := 0) C 1 dX10_notBorrower_0 rfl rfl ?_
  refine r_iconst (pc := 1) (v := 0) C dX10_notBorrower_1 rfl ?_
  refine r_sipush (pc := 2) (v := 500) C dX10_notBorrower_2 rfl ?_
  refine r_cSi (pc := 5) C hfl k_X10_54 (c_isBetween _ _ _) rfl rfl (Nat.le_of_ble_eq_true rfl) (by decide) (by decide) dX10_notBorrower_5 ?_
  refine r_ifneB (pc := 8) (tgt := 13) C dX10_notBorrower_8 rfl (fun c_8 => ?_) (fun c_8 => ?_)
  · skip
    refine r_aload_n (pc := 13) C 0 dX10_notBorrower_13 rfl rfl ?_
    refine r_getR (pc := 14) (x := M + 1) C f_X10_13 hm.1 rfl rfl dX10_notBorrower_14 ?_
    refine r_iconst (pc := 17) (v := 1) C dX10_notBorrower_17 rfl ?_
    refine r_wld (pc := 18) (x := 1) C hm.2.1 rfl (by omega) (by decide) dX10_notBorrower_18 ?_
    refine r_t (y := nI B) hB ?_
    refine r_bipush (pc := 19) (v := 6) C dX10_notBorrower_19 rfl ?_
    refine r_cneN (pc := 21) (tgt := 28) C dX10_notBorrower_21 rfl (by omega) (by omega) (fun c_21 => ?_) (fun c_21 => ?_)
    · skip
      refine r_iconst (pc := 28) (v := 0) C dX10_notBorrower_28 rfl ?_
      exact r_iret (pc := 29) C dX10_notBorrower_29 ⟨by (try simp only [Nat.add_zero] at *); simp [fBorrower, c_8, c_21, okR, okK, okB], rfl, rfl, rfl⟩ (by decide)
    · skip
      refine r_iconst (pc := 24) (v := 2) C dX10_notBorrower_24 rfl ?_
      refine r_goto (pc := 25) (tgt := 29) C dX10_notBorrower_25 rfl ?_
      exact r_iret (pc := 29) C dX10_notBorrower_29 ⟨by (try simp only [Nat.add_zero] at *); simp [fBorrower, c_8, c_21, okR, okK, okB], rfl, rfl, rfl⟩ (by decide)
  · skip
    refine r_iconst (pc := 11) (v := 1) C dX10_notBorrower_11 rfl ?_
    exact r_iret (pc := 12) C dX10_notBorrower_12 ⟨by (try simp only [Nat.add_zero] at *); simp [fBorrower, c_8, okR, okK, okB], rfl, rfl, rfl⟩ (by decide)

set_option maxHeartbeats 1000000 in
theorem c_notBring {g : GG} {X : va_W} {T : TT} {I : II} {M : Nat} {w : Nat → Int32} (hm : isMd T M) {b k_ u : Int32} {B : Nat} (hB : w 1 = nI B) (hB6 : B ≤ 6) : Mc g yX10_notBring cX10_notBring 4 (some .int) 3 0 0 [.ref M, .int b, .int k_, .int u] X T (sr I (M + 1) w) (Ex (some (.int (nI (fBring w B b k_ u)))) X T (sr I (M + 1) w)) := by
  refine Mc.of (by decide) (Nat.le_of_ble_eq_true rfl) (fun k hfl C => ?_)
  refine r_lo (lo' := [(0, _), (1, _), (2, _), (3, _)]) rfl ?_
  refine r_aload_n (pc := 0) C 0 dX10_notBring_0 rfl rfl ?_
  refine r_iload_n (pc := 1) C 1 dX10_notBring_1 rfl rfl ?_
  refine r_cVi (pc := 2) C hfl k_X10_88 (c_isBorrower hm hB hB6) hm.1 ca_X10 rfl rfl (Nat.le_of_ble_eq_true rfl) (by decide) (by decide) dX10_notBring_2 ?_
  refine r_ifeqB (pc := 5) (tgt := 15) C dX10_notBring_5 rfl (fun c_5 => ?_) (fun c_5 => ?_)
  · skip
    refine r_iconst (pc := 15) (v := 1) C dX10_notBring_15 rfl ?_
    exact r_iret (pc := 16) C dX10_notBring_16 ⟨by (try simp only [Nat.add_zero] at *); simp [fBring, c_5, okR, okK, okB, *], rfl, rfl, rfl⟩ (by decide)
  · skip
    obtain ⟨n, h_n, rfl⟩ := okB_of hB6 c_5
    have e_n : (nI n).toNatClampNeg = n := nI_clamp (by omega)
    refine r_iload_n (pc := 8) C 2 dX10_notBring_8 rfl rfl ?_
    refine r_cSi (pc := 9) C hfl k_X10_92 (c_isKind _) rfl rfl (Nat.le_of_ble_eq_true rfl) (by decide) (by decide) dX10_notBring_9 ?_
    refine r_ifneB (pc := 12) (tgt := 17) C dX10_notBring_12 rfl (fun c_12 => ?_) (fun c_12 => ?_)
    · skip
      obtain ⟨m, h_m, rfl⟩ := okK_of c_12
      have e_m : (nI m).toNatClampNeg = m := nI_clamp (by omega)
      refine r_iload_n (pc := 17) C 3 dX10_notBring_17 rfl rfl ?_
      refine r_iconst (pc := 18) (v := 1) C dX10_notBring_18 rfl ?_
      refine r_bipush (pc := 19) (v := 99) C dX10_notBring_19 rfl ?_
      refine r_cSi (pc := 21) C hfl k_X10_54 (c_isBetween _ _ _) rfl rfl (Nat.le_of_ble_eq_true rfl) (by decide) (by decide) dX10_notBring_21 ?_
      refine r_ifneB (pc := 24) (tgt := 29) C dX10_notBring_24 rfl (fun c_24 => ?_) (fun c_24 => ?_)
      · skip
        refine r_aload_n (pc := 29) C 0 dX10_notBring_29 rfl rfl ?_
        refine r_iload_n (pc := 30) C 1 dX10_notBring_30 rfl rfl ?_
        refine r_iconst (pc := 31) (v := 2) C dX10_notBring_31 rfl ?_
        refine r_iload_n (pc := 32) C 2 dX10_notBring_32 rfl rfl ?_
        refine r_iaddN (pc := 33) C dX10_notBring_33 ?_
        refine r_cVi (pc := 34) C hfl k_X10_95 (c_of hm (by omega) (by omega)) hm.1 ca_X10 rfl rfl (Nat.le_of_ble_eq_true rfl) (by decide) (by decide) dX10_notBring_34 ?_
        refine r_iload_n (pc := 37) C 3 dX10_notBring_37 rfl rfl ?_
        refine r_iadd (pc := 38) C dX10_notBring_38 ?_
        refine r_sipush (pc := 39) (v := 999) C dX10_notBring_39 rfl ?_
        refine r_cle (pc := 42) (tgt := 49) C dX10_notBring_42 rfl (fun c_42 => ?_) (fun c_42 => ?_)
        · skip
          replace c_42 := Int32.not_lt.mpr c_42
          refine r_iconst (pc := 49) (v := 0) C dX10_notBring_49 rfl ?_
          exact r_iret (pc := 50) C dX10_notBring_50 ⟨by (try simp only [Nat.add_zero] at *); simp [fBring, c_5, c_12, c_24, c_42, okR, okK, okB, *], rfl, rfl, rfl⟩ (by decide)
        · skip
          replace c_42 := Int32.not_le.mp c_42
          refine r_iconst (pc := 45) (v := 3) C dX10_notBring_45 rfl ?_
          refine r_goto (pc := 46) (tgt := 50) C dX10_notBring_46 rfl ?_
          exact r_iret (pc := 50) C dX10_notBring_50 ⟨by (try simp only [Nat.add_zero] at *); simp [fBring, c_5, c_12, c_24, c_42, okR, okK, okB, *], rfl, rfl, rfl⟩ (by decide)
      · skip
        refine r_iconst (pc := 27) (v := 2) C dX10_notBring_27 rfl ?_
        exact r_iret (pc := 28) C dX10_notBring_28 ⟨by (try simp only [Nat.add_zero] at *); simp [fBring, c_5, c_12, c_24, okR, okK, okB, *], rfl, rfl, rfl⟩ (by decide)
    · skip
      refine r_iconst (pc := 15) (v := 1) C dX10_notBring_15 rfl ?_
      exact r_iret (pc := 16) C dX10_notBring_16 ⟨by (try simp only [Nat.add_zero] at *); simp [fBring, c_5, c_12, okR, okK, okB, *], rfl, rfl, rfl⟩ (by decide)

set_option maxHeartbeats 1000000 in
theorem c_notPrice {g : GG} {X : va_W} {T : TT} {I : II} (k_ p : Int32) : Mc g yX10_notPrice cX10_notPrice 2 (some .int) 3 0 0 [.int k_, .int p] X T I (Ex (some (.int (nI (fPrice k_ p)))) X T I) := by
  refine Mc.of (by decide) (Nat.le_of_ble_eq_true rfl) (fun k hfl C => ?_)
  refine r_lo (lo' := [(0, _), (1, _)]) rfl ?_
  refine r_iload_n (pc := 0) C 0 dX10_notPrice_0 rfl rfl ?_
  refine r_cSi (pc := 1) C hfl k_X10_92 (c_isKind _) rfl rfl (Nat.le_of_ble_eq_true rfl) (by decide) (by decide) dX10_notPrice_1 ?_
  refine r_ifneB (pc := 4) (tgt := 9) C dX10_notPrice_4 rfl (fun c_4 => ?_) (fun c_4 => ?_)
  · skip
    refine r_iload_n (pc := 9) C 1 dX10_notPrice_9 rfl rfl ?_
    refine r_iconst (pc := 10) (v := 1) C dX10_notPrice_10 rfl ?_
    refine r_bipush (pc := 11) (v := 99) C dX10_notPrice_11 rfl ?_
    refine r_cSi (pc := 13) C hfl k_X10_54 (c_isBetween _ _ _) rfl rfl (Nat.le_of_ble_eq_true rfl) (by decide) (by decide) dX10_notPrice_13 ?_
    refine r_ifeqB (pc := 16) (tgt := 23) C dX10_notPrice_16 rfl (fun c_16 => ?_) (fun c_16 => ?_)
    · skip
      refine r_iconst (pc := 23) (v := 2) C dX10_notPrice_23 rfl ?_
      exact r_iret (pc := 24) C dX10_notPrice_24 ⟨by (try simp only [Nat.add_zero] at *); simp [fPrice, c_4, c_16, okR, okK, okB], rfl, rfl, rfl⟩ (by decide)
    · skip
      refine r_iconst (pc := 19) (v := 0) C dX10_notPrice_19 rfl ?_
      refine r_goto (pc := 20) (tgt := 24) C dX10_notPrice_20 rfl ?_
      exact r_iret (pc := 24) C dX10_notPrice_24 ⟨by (try simp only [Nat.add_zero] at *); simp [fPrice, c_4, c_16, okR, okK, okB], rfl, rfl, rfl⟩ (by decide)
  · skip
    refine r_iconst (pc := 7) (v := 1) C dX10_notPrice_7 rfl ?_
    exact r_iret (pc := 8) C dX10_notPrice_8 ⟨by (try simp only [Nat.add_zero] at *); simp [fPrice, c_4, okR, okK, okB], rfl, rfl, rfl⟩ (by decide)

set_option maxHeartbeats 1000000 in
theorem c_notPass {g : GG} {X : va_W} {T : TT} {I : II} (t : Int32) : Mc g yX10_notPass cX10_notPass 1 (some .int) 3 0 0 [.int t] X T I (Ex (some (.int (nI (fPass t)))) X T I) := by
  refine Mc.of (by decide) (Nat.le_of_ble_eq_true rfl) (fun k hfl C => ?_)
  refine r_lo (lo' := [(0, _)]) rfl ?_
  refine r_iload_n (pc := 0) C 0 dX10_notPass_0 rfl rfl ?_
  refine r_iconst (pc := 1) (v := 1) C dX10_notPass_1 rfl ?_
  refine r_bipush (pc := 2) (v := 60) C dX10_notPass_2 rfl ?_
  refine r_cSi (pc := 4) C hfl k_X10_54 (c_isBetween _ _ _) rfl rfl (Nat.le_of_ble_eq_true rfl) (by decide) (by decide) dX10_notPass_4 ?_
  refine r_ifeqB (pc := 7) (tgt := 14) C dX10_notPass_7 rfl (fun c_7 => ?_) (fun c_7 => ?_)
  · skip
    refine r_iconst (pc := 14) (v := 1) C dX10_notPass_14 rfl ?_
    exact r_iret (pc := 15) C dX10_notPass_15 ⟨by (try simp only [Nat.add_zero] at *); simp [fPass, c_7, okR, okK, okB], rfl, rfl, rfl⟩ (by decide)
  · skip
    refine r_iconst (pc := 10) (v := 0) C dX10_notPass_10 rfl ?_
    refine r_goto (pc := 11) (tgt := 15) C dX10_notPass_11 rfl ?_
    exact r_iret (pc := 15) C dX10_notPass_15 ⟨by (try simp only [Nat.add_zero] at *); simp [fPass, c_7, okR, okK, okB], rfl, rfl, rfl⟩ (by decide)

set_option maxHeartbeats 1000000 in
theorem c_notLend {g : GG} {X : va_W} {T : TT} {I : II} {M : Nat} {w : Nat → Int32} (hm : isMd T M) {b k_ u p t : Int32} {B : Nat} (hB : w 1 = nI B) (hB6 : B ≤ 6) {N : Nat} (hN : w 2 = nI N) (hN10 : N ≤ 10) : Mc g yX10_notLend cX10_notLend 6 (some .int) 3 0 0 [.ref M, .int b, .int k_, .int u, .int p, .int t] X T (sr I (M + 1) w) (Ex (some (.int (nI (fLend w B N b k_ u p t)))) X T (sr I (M + 1) w)) := by
  refine Mc.of (by decide) (Nat.le_of_ble_eq_true rfl) (fun k hfl C => ?_)
  refine r_lo (lo' := [(0, _), (1, _), (2, _), (3, _), (4, _), (5, _)]) rfl ?_
  refine r_aload_n (pc := 0) C 0 dX10_notLend_0 rfl rfl ?_
  refine r_iload_n (pc := 1) C 1 dX10_notLend_1 rfl rfl ?_
  refine r_cVi (pc := 2) C hfl k_X10_88 (c_isBorrower hm hB hB6) hm.1 ca_X10 rfl rfl (Nat.le_of_ble_eq_true rfl) (by decide) (by decide) dX10_notLend_2 ?_
  refine r_ifeqB (pc := 5) (tgt := 15) C dX10_notLend_5 rfl (fun c_5 => ?_) (fun c_5 => ?_)
  · skip
    refine r_iconst (pc := 15) (v := 1) C dX10_notLend_15 rfl ?_
    exact r_iret (pc := 16) C dX10_notLend_16 ⟨by (try simp only [Nat.add_zero] at *); simp [fLend, c_5, okR, okK, okB, *], rfl, rfl, rfl⟩ (by decide)
  · skip
    obtain ⟨n, h_n, rfl⟩ := okB_of hB6 c_5
    have e_n : (nI n).toNatClampNeg = n := nI_clamp (by omega)
    refine r_iload_n (pc := 8) C 2 dX10_notLend_8 rfl rfl ?_
    refine r_cSi (pc := 9) C hfl k_X10_92 (c_isKind _) rfl rfl (Nat.le_of_ble_eq_true rfl) (by decide) (by decide) dX10_notLend_9 ?_
    refine r_ifneB (pc := 12) (tgt := 17) C dX10_notLend_12 rfl (fun c_12 => ?_) (fun c_12 => ?_)
    · skip
      obtain ⟨m, h_m, rfl⟩ := okK_of c_12
      have e_m : (nI m).toNatClampNeg = m := nI_clamp (by omega)
      refine r_iload_n (pc := 17) C 3 dX10_notLend_17 rfl rfl ?_
      refine r_iconst (pc := 18) (v := 1) C dX10_notLend_18 rfl ?_
      refine r_bipush (pc := 19) (v := 99) C dX10_notLend_19 rfl ?_
      refine r_cSi (pc := 21) C hfl k_X10_54 (c_isBetween _ _ _) rfl rfl (Nat.le_of_ble_eq_true rfl) (by decide) (by decide) dX10_notLend_21 ?_
      refine r_ifeqB (pc := 24) (tgt := 50) C dX10_notLend_24 rfl (fun c_24 => ?_) (fun c_24 => ?_)
      · skip
        refine r_iconst (pc := 50) (v := 2) C dX10_notLend_50 rfl ?_
        exact r_iret (pc := 51) C dX10_notLend_51 ⟨by (try simp only [Nat.add_zero] at *); simp [fLend, c_5, c_12, c_24, okR, okK, okB, *], rfl, rfl, rfl⟩ (by decide)
      · skip
        refine r_iload (pc := 27) C 4 dX10_notLend_27 rfl ?_
        refine r_iconst (pc := 29) (v := 1) C dX10_notLend_29 rfl ?_
        refine r_sipush (pc := 30) (v := 500) C dX10_notLend_30 rfl ?_
        refine r_cSi (pc := 33) C hfl k_X10_54 (c_isBetween _ _ _) rfl rfl (Nat.le_of_ble_eq_true rfl) (by decide) (by decide) dX10_notLend_33 ?_
        refine r_ifeqB (pc := 36) (tgt := 50) C dX10_notLend_36 rfl (fun c_36 => ?_) (fun c_36 => ?_)
        · skip
          refine r_iconst (pc := 50) (v := 2) C dX10_notLend_50 rfl ?_
          exact r_iret (pc := 51) C dX10_notLend_51 ⟨by (try simp only [Nat.add_zero] at *); simp [fLend, c_5, c_12, c_24, c_36, okR, okK, okB, *], rfl, rfl, rfl⟩ (by decide)
        · skip
          refine r_iload (pc := 39) C 5 dX10_notLend_39 rfl ?_
          refine r_iconst (pc := 41) (v := 1) C dX10_notLend_41 rfl ?_
          refine r_bipush (pc := 42) (v := 60) C dX10_notLend_42 rfl ?_
          refine r_cSi (pc := 44) C hfl k_X10_54 (c_isBetween _ _ _) rfl rfl (Nat.le_of_ble_eq_true rfl) (by decide) (by decide) dX10_notLend_44 ?_
          refine r_ifneB (pc := 47) (tgt := 52) C dX10_notLend_47 rfl (fun c_47 => ?_) (fun c_47 => ?_)
          · skip
            refine r_aload_n (pc := 52) C 0 dX10_notLend_52 rfl rfl ?_
            refine r_getR (pc := 53) (x := M + 1) C f_X10_13 hm.1 rfl rfl dX10_notLend_53 ?_
            refine r_iconst (pc := 56) (v := 2) C dX10_notLend_56 rfl ?_
            refine r_wld (pc := 57) (x := 2) C hm.2.1 rfl (by omega) (by decide) dX10_notLend_57 ?_
            refine r_t (y := nI N) hN ?_
            refine r_bipush (pc := 58) (v := 10) C dX10_notLend_58 rfl ?_
            refine r_ceqN (pc := 60) (tgt := 85) C dX10_notLend_60 rfl (by omega) (by omega) (fun c_60 => ?_) (fun c_60 => ?_)
            · skip
              refine r_iconst (pc := 85) (v := 3) C dX10_notLend_85 rfl ?_
              exact r_iret (pc := 86) C dX10_notLend_86 ⟨by (try simp only [Nat.add_zero] at *); simp [fLend, c_5, c_12, c_24, c_36, c_47, c_60, okR, okK, okB, *], rfl, rfl, rfl⟩ (by decide)
            · skip
              refine r_aload_n (pc := 63) C 0 dX10_notLend_63 rfl rfl ?_
              refine r_iload_n (pc := 64) C 1 dX10_notLend_64 rfl rfl ?_
              refine r_iconst (pc := 65) (v := 1) C dX10_notLend_65 rfl ?_
              refine r_cVi (pc := 66) C hfl k_X10_95 (c_of hm (by omega) (by omega)) hm.1 ca_X10 rfl rfl (Nat.le_of_ble_eq_true rfl) (by decide) (by decide) dX10_notLend_66 ?_
              refine r_iconst (pc := 69) (v := 2) C dX10_notLend_69 rfl ?_
              refine r_cge (pc := 70) (tgt := 85) C dX10_notLend_70 rfl (fun c_70 => ?_) (fun c_70 => ?_)
              · skip
                replace c_70 := Int32.not_lt.mpr c_70
                refine r_iconst (pc := 85) (v := 3) C dX10_notLend_85 rfl ?_
                exact r_iret (pc := 86) C dX10_notLend_86 ⟨by (try simp only [Nat.add_zero] at *); simp [fLend, c_5, c_12, c_24, c_36, c_47, c_60, c_70, okR, okK, okB, *], rfl, rfl, rfl⟩ (by decide)
              · skip
                replace c_70 := Int32.not_le.mp c_70
                refine r_aload_n (pc := 73) C 0 dX10_notLend_73 rfl rfl ?_
                refine r_iload_n (pc := 74) C 1 dX10_notLend_74 rfl rfl ?_
                refine r_iconst (pc := 75) (v := 2) C dX10_notLend_75 rfl ?_
                refine r_iload_n (pc := 76) C 2 dX10_notLend_76 rfl rfl ?_
                refine r_iaddN (pc := 77) C dX10_notLend_77 ?_
                refine r_cVi (pc := 78) C hfl k_X10_95 (c_of hm (by omega) (by omega)) hm.1 ca_X10 rfl rfl (Nat.le_of_ble_eq_true rfl) (by decide) (by decide) dX10_notLend_78 ?_
                refine r_iload_n (pc := 81) C 3 dX10_notLend_81 rfl rfl ?_
                refine r_cge (pc := 82) (tgt := 87) C dX10_notLend_82 rfl (fun c_82 => ?_) (fun c_82 => ?_)
                · skip
                  replace c_82 := Int32.not_lt.mpr c_82
                  refine r_aload_n (pc := 87) C 0 dX10_notLend_87 rfl rfl ?_
                  refine r_getR (pc := 88) (x := M + 1) C f_X10_13 hm.1 rfl rfl dX10_notLend_88 ?_
                  refine r_iconst (pc := 91) (v := 4) C dX10_notLend_91 rfl ?_
                  refine r_wld (pc := 92) (x := 4) C hm.2.1 rfl (by omega) (by decide) dX10_notLend_92 ?_
                  refine r_iload (pc := 93) C 4 dX10_notLend_93 rfl ?_
                  refine r_clt (pc := 95) (tgt := 118) C dX10_notLend_95 rfl (fun c_95 => ?_) (fun c_95 => ?_)
                  · skip
                    refine r_iconst (pc := 118) (v := 3) C dX10_notLend_118 rfl ?_
                    refine r_goto (pc := 119) (tgt := 123) C dX10_notLend_119 rfl ?_
                    exact r_iret (pc := 123) C dX10_notLend_123 ⟨by (try simp only [Nat.add_zero] at *); simp [fLend, c_5, c_12, c_24, c_36, c_47, c_60, c_70, c_82, c_95, okR, okK, okB, *], rfl, rfl, rfl⟩ (by decide)
                  · skip
                    refine r_iconst (pc := 98) (v := 3) C dX10_notLend_98 rfl ?_
                    refine r_iload (pc := 99) C 4 dX10_notLend_99 rfl ?_
                    refine r_imul (pc := 101) C dX10_notLend_101 ?_
                    refine r_iconst (pc := 102) (v := 2) C dX10_notLend_102 rfl ?_
                    refine r_iload_n (pc := 103) C 3 dX10_notLend_103 rfl rfl ?_
                    refine r_imul (pc := 104) C dX10_notLend_104 ?_
                    refine r_aload_n (pc := 105) C 0 dX10_notLend_105 rfl rfl ?_
                    refine r_getR (pc := 106) (x := M + 1) C f_X10_13 hm.1 rfl rfl dX10_notLend_106 ?_
                    refine r_bipush (pc := 109) (v := 10) C dX10_notLend_109 rfl ?_
                    refine r_iload_n (pc := 111) C 2 dX10_notLend_111 rfl rfl ?_
                    refine r_iaddN (pc := 112) C dX10_notLend_112 ?_
                    refine r_wld (pc := 113) (x := 10 + m) C hm.2.1 rfl (by omega) (by decide) dX10_notLend_113 ?_
                    refine r_imul (pc := 114) C dX10_notLend_114 ?_
                    refine r_cle (pc := 115) (tgt := 122) C dX10_notLend_115 rfl (fun c_115 => ?_) (fun c_115 => ?_)
                    · skip
                      replace c_115 := Int32.not_lt.mpr c_115
                      refine r_iconst (pc := 122) (v := 0) C dX10_notLend_122 rfl ?_
                      exact r_iret (pc := 123) C dX10_notLend_123 ⟨by (try simp only [Nat.add_zero] at *); simp [fLend, c_5, c_12, c_24, c_36, c_47, c_60, c_70, c_82, c_95, c_115, okR, okK, okB, *], rfl, rfl, rfl⟩ (by decide)
                    · skip
                      replace c_115 := Int32.not_le.mp c_115
                      refine r_iconst (pc := 118) (v := 3) C dX10_notLend_118 rfl ?_
                      refine r_goto (pc := 119) (tgt := 123) C dX10_notLend_119 rfl ?_
                      exact r_iret (pc := 123) C dX10_notLend_123 ⟨by (try simp only [Nat.add_zero] at *); simp [fLend, c_5, c_12, c_24, c_36, c_47, c_60, c_70, c_82, c_95, c_115, okR, okK, okB, *], rfl, rfl, rfl⟩ (by decide)
                · skip
                  replace c_82 := Int32.not_le.mp c_82
                  refine r_iconst (pc := 85) (v := 3) C dX10_notLend_85 rfl ?_
                  exact r_iret (pc := 86) C dX10_notLend_86 ⟨by (try simp only [Nat.add_zero] at *); simp [fLend, c_5, c_12, c_24, c_36, c_47, c_60, c_70, c_82, okR, okK, okB, *], rfl, rfl, rfl⟩ (by decide)
          · skip
            refine r_iconst (pc := 50) (v := 2) C dX10_notLend_50 rfl ?_
            exact r_iret (pc := 51) C dX10_notLend_51 ⟨by (try simp only [Nat.add_zero] at *); simp [fLend, c_5, c_12, c_24, c_36, c_47, okR, okK, okB, *], rfl, rfl, rfl⟩ (by decide)
    · skip
      refine r_iconst (pc := 15) (v := 1) C dX10_notLend_15 rfl ?_
      exact r_iret (pc := 16) C dX10_notLend_16 ⟨by (try simp only [Nat.add_zero] at *); simp [fLend, c_5, c_12, okR, okK, okB, *], rfl, rfl, rfl⟩ (by decide)

set_option maxHeartbeats 1000000 in
theorem c_notPledge__s {g : GG} {X : va_W} {T : TT} {I : II} {M : Nat} {w : Nat → Int32} (hm : isMd T M) {id k_ u : Int32} {N : Nat} (hN : w 2 = nI N) (hN10 : N ≤ 10) {s : Nat} (hs : s < N) {b : Nat} (hb : b < 6) (hw : w (58 + 10 * s + 1) = nI b) (hr : atS w N id (nI s)) : Mc g yX10_notPledge cX10_notPledge 5 (some .int) 4 0 0 [.ref M, .int id, .int k_, .int u] X T (sr I (M + 1) w) (Ex (some (.int (nI (fPledge w (nI s) k_ u)))) X T (sr I (M + 1) w)) := by
  have e_s : (nI s).toNatClampNeg = s := nI_clamp (by omega)
  have n_s : ¬ nI s < 0 := nI_pos (by omega)
  have e_b : (nI b).toNatClampNeg = b := nI_clamp (by omega)
  refine Mc.of (by decide) (Nat.le_of_ble_eq_true rfl) (fun k hfl C => ?_)
  refine r_lo (lo' := [(0, _), (1, _), (2, _), (3, _)]) rfl ?_
  refine r_aload_n (pc := 0) C 0 dX10_notPledge_0 rfl rfl ?_
  refine r_iload_n (pc := 1) C 1 dX10_notPledge_1 rfl rfl ?_
  refine r_cVi (pc := 2) C hfl k_X10_121 (c_slotOf hm hN hN10 hr) hm.1 ca_X10 rfl rfl (Nat.le_of_ble_eq_true rfl) (by decide) (by decide) dX10_notPledge_2 ?_
  refine r_istore (pc := 5) (lo' := [(4, _), (0, _), (1, _), (2, _), (3, _)]) C dX10_notPledge_5 (by decide) rfl ?_
  refine r_iload (pc := 7) C 0 dX10_notPledge_7 rfl ?_
  refine r_ifgeN (pc := 9) (tgt := 14) C dX10_notPledge_9 rfl (by omega) ?_
  refine r_iload_n (pc := 14) C 3 dX10_notPledge_14 rfl rfl ?_
  refine r_cSi (pc := 15) C hfl k_X10_92 (c_isKind _) rfl rfl (Nat.le_of_ble_eq_true rfl) (by decide) (by decide) dX10_notPledge_15 ?_
  refine r_ifneB (pc := 18) (tgt := 23) C dX10_notPledge_18 rfl (fun c_18 => ?_) (fun c_18 => ?_)
  · skip
    obtain ⟨m, h_m, rfl⟩ := okK_of c_18
    have e_m : (nI m).toNatClampNeg = m := nI_clamp (by omega)
    refine r_iload_n (pc := 23) C 4 dX10_notPledge_23 rfl rfl ?_
    refine r_iconst (pc := 24) (v := 1) C dX10_notPledge_24 rfl ?_
    refine r_bipush (pc := 25) (v := 99) C dX10_notPledge_25 rfl ?_
    refine r_cSi (pc := 27) C hfl k_X10_54 (c_isBetween _ _ _) rfl rfl (Nat.le_of_ble_eq_true rfl) (by decide) (by decide) dX10_notPledge_27 ?_
    refine r_ifneB (pc := 30) (tgt := 35) C dX10_notPledge_30 rfl (fun c_30 => ?_) (fun c_30 => ?_)
    · skip
      refine r_aload_n (pc := 35) C 1 dX10_notPledge_35 rfl rfl ?_
      refine r_aload_n (pc := 36) C 1 dX10_notPledge_36 rfl rfl ?_
      refine r_iload (pc := 37) C 0 dX10_notPledge_37 rfl ?_
      refine r_iconst (pc := 39) (v := 1) C dX10_notPledge_39 rfl ?_
      refine r_cVi (pc := 40) C hfl k_X10_58 (c_is hm (by omega) (by omega)) hm.1 ca_X10 rfl rfl (Nat.le_of_ble_eq_true rfl) (by decide) (by decide) dX10_notPledge_40 ?_
      refine r_t (y := nI b) hw ?_
      refine r_iconst (pc := 43) (v := 2) C dX10_notPledge_43 rfl ?_
      refine r_iload_n (pc := 44) C 3 dX10_notPledge_44 rfl rfl ?_
      refine r_iaddN (pc := 45) C dX10_notPledge_45 ?_
      refine r_cVi (pc := 46) C hfl k_X10_95 (c_of hm (by omega) (by omega)) hm.1 ca_X10 rfl rfl (Nat.le_of_ble_eq_true rfl) (by decide) (by decide) dX10_notPledge_46 ?_
      refine r_iload_n (pc := 49) C 4 dX10_notPledge_49 rfl rfl ?_
      refine r_cge (pc := 50) (tgt := 57) C dX10_notPledge_50 rfl (fun c_50 => ?_) (fun c_50 => ?_)
      · skip
        replace c_50 := Int32.not_lt.mpr c_50
        refine r_iconst (pc := 57) (v := 0) C dX10_notPledge_57 rfl ?_
        exact r_iret (pc := 58) C dX10_notPledge_58 ⟨by (try simp only [Nat.add_zero] at *); simp [fPledge, c_18, c_30, c_50, okR, okK, okB, *], rfl, rfl, rfl⟩ (by decide)
      · skip
        replace c_50 := Int32.not_le.mp c_50
        refine r_iconst (pc := 53) (v := 4) C dX10_notPledge_53 rfl ?_
        refine r_goto (pc := 54) (tgt := 58) C dX10_notPledge_54 rfl ?_
        exact r_iret (pc := 58) C dX10_notPledge_58 ⟨by (try simp only [Nat.add_zero] at *); simp [fPledge, c_18, c_30, c_50, okR, okK, okB, *], rfl, rfl, rfl⟩ (by decide)
    · skip
      refine r_iconst (pc := 33) (v := 3) C dX10_notPledge_33 rfl ?_
      exact r_iret (pc := 34) C dX10_notPledge_34 ⟨by (try simp only [Nat.add_zero] at *); simp [fPledge, c_18, c_30, okR, okK, okB, *], rfl, rfl, rfl⟩ (by decide)
  · skip
    refine r_iconst (pc := 21) (v := 2) C dX10_notPledge_21 rfl ?_
    exact r_iret (pc := 22) C dX10_notPledge_22 ⟨by (try simp only [Nat.add_zero] at *); simp [fPledge, c_18, okR, okK, okB, *], rfl, rfl, rfl⟩ (by decide)

set_option maxHeartbeats 1000000 in
theorem c_notPledge__n {g : GG} {X : va_W} {T : TT} {I : II} {M : Nat} {w : Nat → Int32} (hm : isMd T M) {id k_ u : Int32} {N : Nat} (hN : w 2 = nI N) (hN10 : N ≤ 10) (hr : atS w N id (-1)) : Mc g yX10_notPledge cX10_notPledge 5 (some .int) 4 0 0 [.ref M, .int id, .int k_, .int u] X T (sr I (M + 1) w) (Ex (some (.int (nI (fPledge w (-1) k_ u)))) X T (sr I (M + 1) w)) := by
  refine Mc.of (by decide) (Nat.le_of_ble_eq_true rfl) (fun k hfl C => ?_)
  refine r_lo (lo' := [(0, _), (1, _), (2, _), (3, _)]) rfl ?_
  refine r_aload_n (pc := 0) C 0 dX10_notPledge_0 rfl rfl ?_
  refine r_iload_n (pc := 1) C 1 dX10_notPledge_1 rfl rfl ?_
  refine r_cVi (pc := 2) C hfl k_X10_121 (c_slotOf hm hN hN10 hr) hm.1 ca_X10 rfl rfl (Nat.le_of_ble_eq_true rfl) (by decide) (by decide) dX10_notPledge_2 ?_
  refine r_istore (pc := 5) (lo' := [(4, _), (0, _), (1, _), (2, _), (3, _)]) C dX10_notPledge_5 (by decide) rfl ?_
  refine r_iload (pc := 7) C 0 dX10_notPledge_7 rfl ?_
  refine r_ifge (pc := 9) (tgt := 14) C dX10_notPledge_9 rfl (fun c => absurd c (by decide)) (fun _ => ?_)
  refine r_iconst (pc := 12) (v := 1) C dX10_notPledge_12 rfl ?_
  exact r_iret (pc := 13) C dX10_notPledge_13 ⟨by (try simp only [Nat.add_zero] at *); simp [fPledge, okR, okK, okB, *], rfl, rfl, rfl⟩ (by decide)

set_option maxHeartbeats 1000000 in
theorem c_notRelease__s {g : GG} {X : va_W} {T : TT} {I : II} {M : Nat} {w : Nat → Int32} (hm : isMd T M) {id k_ u : Int32} {N : Nat} (hN : w 2 = nI N) (hN10 : N ≤ 10) {s : Nat} (hs : s < N) (hr : atS w N id (nI s)) : Mc g yX10_notRelease cX10_notRelease 6 (some .int) 4 0 0 [.ref M, .int id, .int k_, .int u] X T (sr I (M + 1) w) (Ex (some (.int (nI (fRelease w (nI s) k_ u)))) X T (sr I (M + 1) w)) := by
  have e_s : (nI s).toNatClampNeg = s := nI_clamp (by omega)
  have n_s : ¬ nI s < 0 := nI_pos (by omega)
  refine Mc.of (by decide) (Nat.le_of_ble_eq_true rfl) (fun k hfl C => ?_)
  refine r_lo (lo' := [(0, _), (1, _), (2, _), (3, _)]) rfl ?_
  refine r_aload_n (pc := 0) C 0 dX10_notRelease_0 rfl rfl ?_
  refine r_iload_n (pc := 1) C 1 dX10_notRelease_1 rfl rfl ?_
  refine r_cVi (pc := 2) C hfl k_X10_121 (c_slotOf hm hN hN10 hr) hm.1 ca_X10 rfl rfl (Nat.le_of_ble_eq_true rfl) (by decide) (by decide) dX10_notRelease_2 ?_
  refine r_istore (pc := 5) (lo' := [(4, _), (0, _), (1, _), (2, _), (3, _)]) C dX10_notRelease_5 (by decide) rfl ?_
  refine r_iload (pc := 7) C 0 dX10_notRelease_7 rfl ?_
  refine r_ifgeN (pc := 9) (tgt := 14) C dX10_notRelease_9 rfl (by omega) ?_
  refine r_iload_n (pc := 14) C 3 dX10_notRelease_14 rfl rfl ?_
  refine r_cSi (pc := 15) C hfl k_X10_92 (c_isKind _) rfl rfl (Nat.le_of_ble_eq_true rfl) (by decide) (by decide) dX10_notRelease_15 ?_
  refine r_ifneB (pc := 18) (tgt := 23) C dX10_notRelease_18 rfl (fun c_18 => ?_) (fun c_18 => ?_)
  · skip
    obtain ⟨m, h_m, rfl⟩ := okK_of c_18
    have e_m : (nI m).toNatClampNeg = m := nI_clamp (by omega)
    refine r_iload_n (pc := 23) C 4 dX10_notRelease_23 rfl rfl ?_
    refine r_iconst (pc := 24) (v := 1) C dX10_notRelease_24 rfl ?_
    refine r_bipush (pc := 25) (v := 99) C dX10_notRelease_25 rfl ?_
    refine r_cSi (pc := 27) C hfl k_X10_54 (c_isBetween _ _ _) rfl rfl (Nat.le_of_ble_eq_true rfl) (by decide) (by decide) dX10_notRelease_27 ?_
    refine r_ifneB (pc := 30) (tgt := 35) C dX10_notRelease_30 rfl (fun c_30 => ?_) (fun c_30 => ?_)
    · skip
      refine r_aload_n (pc := 35) C 1 dX10_notRelease_35 rfl rfl ?_
      refine r_iload (pc := 36) C 0 dX10_notRelease_36 rfl ?_
      refine r_cVi (pc := 38) C hfl k_X10_66 (c_valueAt hm (by omega)) hm.1 ca_X10 rfl rfl (Nat.le_of_ble_eq_true rfl) (by decide) (by decide) dX10_notRelease_38 ?_
      refine r_iload_n (pc := 41) C 4 dX10_notRelease_41 rfl rfl ?_
      refine r_aload_n (pc := 42) C 1 dX10_notRelease_42 rfl rfl ?_
      refine r_getR (pc := 43) (x := M + 1) C f_X10_13 hm.1 rfl rfl dX10_notRelease_43 ?_
      refine r_bipush (pc := 46) (v := 10) C dX10_notRelease_46 rfl ?_
      refine r_iload_n (pc := 48) C 3 dX10_notRelease_48 rfl rfl ?_
      refine r_iaddN (pc := 49) C dX10_notRelease_49 ?_
      refine r_wld (pc := 50) (x := 10 + m) C hm.2.1 rfl (by omega) (by decide) dX10_notRelease_50 ?_
      refine r_imul (pc := 51) C dX10_notRelease_51 ?_
      refine r_isub (pc := 52) C dX10_notRelease_52 ?_
      refine r_istore (pc := 53) (lo' := [(5, _), (4, _), (0, _), (1, _), (2, _), (3, _)]) C dX10_notRelease_53 (by decide) rfl ?_
      refine r_aload_n (pc := 55) C 2 dX10_notRelease_55 rfl rfl ?_
      refine r_iload (pc := 56) C 1 dX10_notRelease_56 rfl ?_
      refine r_bipush (pc := 58) (v := 6) C dX10_notRelease_58 rfl ?_
      refine r_iload_n (pc := 60) C 4 dX10_notRelease_60 rfl rfl ?_
      refine r_iaddN (pc := 61) C dX10_notRelease_61 ?_
      refine r_cVi (pc := 62) C hfl k_X10_58 (c_is hm (by omega) (by omega)) hm.1 ca_X10 rfl rfl (Nat.le_of_ble_eq_true rfl) (by decide) (by decide) dX10_notRelease_62 ?_
      refine r_iload_n (pc := 65) C 5 dX10_notRelease_65 rfl rfl ?_
      refine r_clt (pc := 66) (tgt := 84) C dX10_notRelease_66 rfl (fun c_66 => ?_) (fun c_66 => ?_)
      · skip
        refine r_iconst (pc := 84) (v := 4) C dX10_notRelease_84 rfl ?_
        refine r_goto (pc := 85) (tgt := 89) C dX10_notRelease_85 rfl ?_
        exact r_iret (pc := 89) C dX10_notRelease_89 ⟨by (try simp only [Nat.add_zero] at *); simp [fRelease, c_18, c_30, c_66, okR, okK, okB, *], rfl, rfl, rfl⟩ (by decide)
      · skip
        refine r_iconst (pc := 69) (v := 3) C dX10_notRelease_69 rfl ?_
        refine r_aload_n (pc := 70) C 2 dX10_notRelease_70 rfl rfl ?_
        refine r_iload (pc := 71) C 1 dX10_notRelease_71 rfl ?_
        refine r_cVi (pc := 73) C hfl k_X10_62 (c_debtAt hm (by omega)) hm.1 ca_X10 rfl rfl (Nat.le_of_ble_eq_true rfl) (by decide) (by decide) dX10_notRelease_73 ?_
        refine r_imul (pc := 76) C dX10_notRelease_76 ?_
        refine r_iconst (pc := 77) (v := 2) C dX10_notRelease_77 rfl ?_
        refine r_iload (pc := 78) C 0 dX10_notRelease_78 rfl ?_
        refine r_imul (pc := 80) C dX10_notRelease_80 ?_
        refine r_cle (pc := 81) (tgt := 88) C dX10_notRelease_81 rfl (fun c_81 => ?_) (fun c_81 => ?_)
        · skip
          replace c_81 := Int32.not_lt.mpr c_81
          refine r_iconst (pc := 88) (v := 0) C dX10_notRelease_88 rfl ?_
          exact r_iret (pc := 89) C dX10_notRelease_89 ⟨by (try simp only [Nat.add_zero] at *); simp [fRelease, c_18, c_30, c_66, c_81, okR, okK, okB, *], rfl, rfl, rfl⟩ (by decide)
        · skip
          replace c_81 := Int32.not_le.mp c_81
          refine r_iconst (pc := 84) (v := 4) C dX10_notRelease_84 rfl ?_
          refine r_goto (pc := 85) (tgt := 89) C dX10_notRelease_85 rfl ?_
          exact r_iret (pc := 89) C dX10_notRelease_89 ⟨by (try simp only [Nat.add_zero] at *); simp [fRelease, c_18, c_30, c_66, c_81, okR, okK, okB, *], rfl, rfl, rfl⟩ (by decide)
    · skip
      refine r_iconst (pc := 33) (v := 3) C dX10_notRelease_33 rfl ?_
      exact r_iret (pc := 34) C dX10_notRelease_34 ⟨by (try simp only [Nat.add_zero] at *); simp [fRelease, c_18, c_30, okR, okK, okB, *], rfl, rfl, rfl⟩ (by decide)
  · skip
    refine r_iconst (pc := 21) (v := 2) C dX10_notRelease_21 rfl ?_
    exact r_iret (pc := 22) C dX10_notRelease_22 ⟨by (try simp only [Nat.add_zero] at *); simp [fRelease, c_18, okR, okK, okB, *], rfl, rfl, rfl⟩ (by decide)

set_option maxHeartbeats 1000000 in
theorem c_notRelease__n {g : GG} {X : va_W} {T : TT} {I : II} {M : Nat} {w : Nat → Int32} (hm : isMd T M) {id k_ u : Int32} {N : Nat} (hN : w 2 = nI N) (hN10 : N ≤ 10) (hr : atS w N id (-1)) : Mc g yX10_notRelease cX10_notRelease 6 (some .int) 4 0 0 [.ref M, .int id, .int k_, .int u] X T (sr I (M + 1) w) (Ex (some (.int (nI (fRelease w (-1) k_ u)))) X T (sr I (M + 1) w)) := by
  refine Mc.of (by decide) (Nat.le_of_ble_eq_true rfl) (fun k hfl C => ?_)
  refine r_lo (lo' := [(0, _), (1, _), (2, _), (3, _)]) rfl ?_
  refine r_aload_n (pc := 0) C 0 dX10_notRelease_0 rfl rfl ?_
  refine r_iload_n (pc := 1) C 1 dX10_notRelease_1 rfl rfl ?_
  refine r_cVi (pc := 2) C hfl k_X10_121 (c_slotOf hm hN hN10 hr) hm.1 ca_X10 rfl rfl (Nat.le_of_ble_eq_true rfl) (by decide) (by decide) dX10_notRelease_2 ?_
  refine r_istore (pc := 5) (lo' := [(4, _), (0, _), (1, _), (2, _), (3, _)]) C dX10_notRelease_5 (by decide) rfl ?_
  refine r_iload (pc := 7) C 0 dX10_notRelease_7 rfl ?_
  refine r_ifge (pc := 9) (tgt := 14) C dX10_notRelease_9 rfl (fun c => absurd c (by decide)) (fun _ => ?_)
  refine r_iconst (pc := 12) (v := 1) C dX10_notRelease_12 rfl ?_
  exact r_iret (pc := 13) C dX10_notRelease_13 ⟨by (try simp only [Nat.add_zero] at *); simp [fRelease, okR, okK, okB, *], rfl, rfl, rfl⟩ (by decide)

set_option maxHeartbeats 1000000 in
theorem c_notRepay__s {g : GG} {X : va_W} {T : TT} {I : II} {M : Nat} {w : Nat → Int32} (hm : isMd T M) {id c : Int32} {N : Nat} (hN : w 2 = nI N) (hN10 : N ≤ 10) {s : Nat} (hs : s < N) {b : Nat} (hb : b < 6) (hw : w (58 + 10 * s + 1) = nI b) (hr : atS w N id (nI s)) : Mc g yX10_notRepay cX10_notRepay 4 (some .int) 4 0 0 [.ref M, .int id, .int c] X T (sr I (M + 1) w) (Ex (some (.int (nI (fRepay w (nI s) c)))) X T (sr I (M + 1) w)) := by
  have e_s : (nI s).toNatClampNeg = s := nI_clamp (by omega)
  have n_s : ¬ nI s < 0 := nI_pos (by omega)
  have e_b : (nI b).toNatClampNeg = b := nI_clamp (by omega)
  refine Mc.of (by decide) (Nat.le_of_ble_eq_true rfl) (fun k hfl C => ?_)
  refine r_lo (lo' := [(0, _), (1, _), (2, _)]) rfl ?_
  refine r_aload_n (pc := 0) C 0 dX10_notRepay_0 rfl rfl ?_
  refine r_iload_n (pc := 1) C 1 dX10_notRepay_1 rfl rfl ?_
  refine r_cVi (pc := 2) C hfl k_X10_121 (c_slotOf hm hN hN10 hr) hm.1 ca_X10 rfl rfl (Nat.le_of_ble_eq_true rfl) (by decide) (by decide) dX10_notRepay_2 ?_
  refine r_istore_n (pc := 5) (lo' := [(3, _), (0, _), (1, _), (2, _)]) C dX10_notRepay_5 rfl (by decide) rfl ?_
  refine r_iload_n (pc := 6) C 0 dX10_notRepay_6 rfl rfl ?_
  refine r_ifgeN (pc := 7) (tgt := 12) C dX10_notRepay_7 rfl (by omega) ?_
  refine r_iload_n (pc := 12) C 3 dX10_notRepay_12 rfl rfl ?_
  refine r_iconst (pc := 13) (v := 1) C dX10_notRepay_13 rfl ?_
  refine r_sipush (pc := 14) (v := 999) C dX10_notRepay_14 rfl ?_
  refine r_cSi (pc := 17) C hfl k_X10_54 (c_isBetween _ _ _) rfl rfl (Nat.le_of_ble_eq_true rfl) (by decide) (by decide) dX10_notRepay_17 ?_
  refine r_ifneB (pc := 20) (tgt := 25) C dX10_notRepay_20 rfl (fun c_20 => ?_) (fun c_20 => ?_)
  · skip
    refine r_iload_n (pc := 25) C 3 dX10_notRepay_25 rfl rfl ?_
    refine r_aload_n (pc := 26) C 1 dX10_notRepay_26 rfl rfl ?_
    refine r_iload_n (pc := 27) C 0 dX10_notRepay_27 rfl rfl ?_
    refine r_cVi (pc := 28) C hfl k_X10_62 (c_debtAt hm (by omega)) hm.1 ca_X10 rfl rfl (Nat.le_of_ble_eq_true rfl) (by decide) (by decide) dX10_notRepay_28 ?_
    refine r_cgt (pc := 31) (tgt := 49) C dX10_notRepay_31 rfl (fun c_31 => ?_) (fun c_31 => ?_)
    · skip
      refine r_iconst (pc := 49) (v := 3) C dX10_notRepay_49 rfl ?_
      refine r_goto (pc := 50) (tgt := 54) C dX10_notRepay_50 rfl ?_
      exact r_iret (pc := 54) C dX10_notRepay_54 ⟨by (try simp only [Nat.add_zero] at *); simp [fRepay, c_20, c_31, okR, okK, okB, *], rfl, rfl, rfl⟩ (by decide)
    · skip
      refine r_iload_n (pc := 34) C 3 dX10_notRepay_34 rfl rfl ?_
      refine r_aload_n (pc := 35) C 1 dX10_notRepay_35 rfl rfl ?_
      refine r_aload_n (pc := 36) C 1 dX10_notRepay_36 rfl rfl ?_
      refine r_iload_n (pc := 37) C 0 dX10_notRepay_37 rfl rfl ?_
      refine r_iconst (pc := 38) (v := 1) C dX10_notRepay_38 rfl ?_
      refine r_cVi (pc := 39) C hfl k_X10_58 (c_is hm (by omega) (by omega)) hm.1 ca_X10 rfl rfl (Nat.le_of_ble_eq_true rfl) (by decide) (by decide) dX10_notRepay_39 ?_
      refine r_t (y := nI b) hw ?_
      refine r_iconst (pc := 42) (v := 0) C dX10_notRepay_42 rfl ?_
      refine r_cVi (pc := 43) C hfl k_X10_95 (c_of hm (by omega) (by omega)) hm.1 ca_X10 rfl rfl (Nat.le_of_ble_eq_true rfl) (by decide) (by decide) dX10_notRepay_43 ?_
      refine r_cle (pc := 46) (tgt := 53) C dX10_notRepay_46 rfl (fun c_46 => ?_) (fun c_46 => ?_)
      · skip
        replace c_46 := Int32.not_lt.mpr c_46
        refine r_iconst (pc := 53) (v := 0) C dX10_notRepay_53 rfl ?_
        exact r_iret (pc := 54) C dX10_notRepay_54 ⟨by (try simp only [Nat.add_zero] at *); simp [fRepay, c_20, c_31, c_46, okR, okK, okB, *], rfl, rfl, rfl⟩ (by decide)
      · skip
        replace c_46 := Int32.not_le.mp c_46
        refine r_iconst (pc := 49) (v := 3) C dX10_notRepay_49 rfl ?_
        refine r_goto (pc := 50) (tgt := 54) C dX10_notRepay_50 rfl ?_
        exact r_iret (pc := 54) C dX10_notRepay_54 ⟨by (try simp only [Nat.add_zero] at *); simp [fRepay, c_20, c_31, c_46, okR, okK, okB, *], rfl, rfl, rfl⟩ (by decide)
  · skip
    refine r_iconst (pc := 23) (v := 2) C dX10_notRepay_23 rfl ?_
    exact r_iret (pc := 24) C dX10_notRepay_24 ⟨by (try simp only [Nat.add_zero] at *); simp [fRepay, c_20, okR, okK, okB, *], rfl, rfl, rfl⟩ (by decide)

set_option maxHeartbeats 1000000 in
theorem c_notRepay__n {g : GG} {X : va_W} {T : TT} {I : II} {M : Nat} {w : Nat → Int32} (hm : isMd T M) {id c : Int32} {N : Nat} (hN : w 2 = nI N) (hN10 : N ≤ 10) (hr : atS w N id (-1)) : Mc g yX10_notRepay cX10_notRepay 4 (some .int) 4 0 0 [.ref M, .int id, .int c] X T (sr I (M + 1) w) (Ex (some (.int (nI (fRepay w (-1) c)))) X T (sr I (M + 1) w)) := by
  refine Mc.of (by decide) (Nat.le_of_ble_eq_true rfl) (fun k hfl C => ?_)
  refine r_lo (lo' := [(0, _), (1, _), (2, _)]) rfl ?_
  refine r_aload_n (pc := 0) C 0 dX10_notRepay_0 rfl rfl ?_
  refine r_iload_n (pc := 1) C 1 dX10_notRepay_1 rfl rfl ?_
  refine r_cVi (pc := 2) C hfl k_X10_121 (c_slotOf hm hN hN10 hr) hm.1 ca_X10 rfl rfl (Nat.le_of_ble_eq_true rfl) (by decide) (by decide) dX10_notRepay_2 ?_
  refine r_istore_n (pc := 5) (lo' := [(3, _), (0, _), (1, _), (2, _)]) C dX10_notRepay_5 rfl (by decide) rfl ?_
  refine r_iload_n (pc := 6) C 0 dX10_notRepay_6 rfl rfl ?_
  refine r_ifge (pc := 7) (tgt := 12) C dX10_notRepay_7 rfl (fun c => absurd c (by decide)) (fun _ => ?_)
  refine r_iconst (pc := 10) (v := 1) C dX10_notRepay_10 rfl ?_
  exact r_iret (pc := 11) C dX10_notRepay_11 ⟨by (try simp only [Nat.add_zero] at *); simp [fRepay, okR, okK, okB, *], rfl, rfl, rfl⟩ (by decide)

set_option maxHeartbeats 1000000 in
theorem c_notBuy {g : GG} {X : va_W} {T : TT} {I : II} {M : Nat} {w : Nat → Int32} (hm : isMd T M) {b k_ u : Int32} {B : Nat} (hB : w 1 = nI B) (hB6 : B ≤ 6) : Mc g yX10_notBuy cX10_notBuy 4 (some .int) 3 0 0 [.ref M, .int b, .int k_, .int u] X T (sr I (M + 1) w) (Ex (some (.int (nI (fBuy w B b k_ u)))) X T (sr I (M + 1) w)) := by
  refine Mc.of (by decide) (Nat.le_of_ble_eq_true rfl) (fun k hfl C => ?_)
  refine r_lo (lo' := [(0, _), (1, _), (2, _), (3, _)]) rfl ?_
  refine r_aload_n (pc := 0) C 0 dX10_notBuy_0 rfl rfl ?_
  refine r_iload_n (pc := 1) C 1 dX10_notBuy_1 rfl rfl ?_
  refine r_cVi (pc := 2) C hfl k_X10_88 (c_isBorrower hm hB hB6) hm.1 ca_X10 rfl rfl (Nat.le_of_ble_eq_true rfl) (by decide) (by decide) dX10_notBuy_2 ?_
  refine r_ifeqB (pc := 5) (tgt := 15) C dX10_notBuy_5 rfl (fun c_5 => ?_) (fun c_5 => ?_)
  · skip
    refine r_iconst (pc := 15) (v := 1) C dX10_notBuy_15 rfl ?_
    exact r_iret (pc := 16) C dX10_notBuy_16 ⟨by (try simp only [Nat.add_zero] at *); simp [fBuy, c_5, okR, okK, okB, *], rfl, rfl, rfl⟩ (by decide)
  · skip
    obtain ⟨n, h_n, rfl⟩ := okB_of hB6 c_5
    have e_n : (nI n).toNatClampNeg = n := nI_clamp (by omega)
    refine r_iload_n (pc := 8) C 2 dX10_notBuy_8 rfl rfl ?_
    refine r_cSi (pc := 9) C hfl k_X10_92 (c_isKind _) rfl rfl (Nat.le_of_ble_eq_true rfl) (by decide) (by decide) dX10_notBuy_9 ?_
    refine r_ifneB (pc := 12) (tgt := 17) C dX10_notBuy_12 rfl (fun c_12 => ?_) (fun c_12 => ?_)
    · skip
      obtain ⟨m, h_m, rfl⟩ := okK_of c_12
      have e_m : (nI m).toNatClampNeg = m := nI_clamp (by omega)
      refine r_iload_n (pc := 17) C 3 dX10_notBuy_17 rfl rfl ?_
      refine r_iconst (pc := 18) (v := 1) C dX10_notBuy_18 rfl ?_
      refine r_bipush (pc := 19) (v := 99) C dX10_notBuy_19 rfl ?_
      refine r_cSi (pc := 21) C hfl k_X10_54 (c_isBetween _ _ _) rfl rfl (Nat.le_of_ble_eq_true rfl) (by decide) (by decide) dX10_notBuy_21 ?_
      refine r_ifneB (pc := 24) (tgt := 29) C dX10_notBuy_24 rfl (fun c_24 => ?_) (fun c_24 => ?_)
      · skip
        refine r_aload_n (pc := 29) C 0 dX10_notBuy_29 rfl rfl ?_
        refine r_getR (pc := 30) (x := M + 1) C f_X10_13 hm.1 rfl rfl dX10_notBuy_30 ?_
        refine r_bipush (pc := 33) (v := 14) C dX10_notBuy_33 rfl ?_
        refine r_iload_n (pc := 35) C 2 dX10_notBuy_35 rfl rfl ?_
        refine r_iaddN (pc := 36) C dX10_notBuy_36 ?_
        refine r_wld (pc := 37) (x := 14 + m) C hm.2.1 rfl (by omega) (by decide) dX10_notBuy_37 ?_
        refine r_iload_n (pc := 38) C 3 dX10_notBuy_38 rfl rfl ?_
        refine r_clt (pc := 39) (tgt := 62) C dX10_notBuy_39 rfl (fun c_39 => ?_) (fun c_39 => ?_)
        · skip
          refine r_iconst (pc := 62) (v := 3) C dX10_notBuy_62 rfl ?_
          exact r_iret (pc := 63) C dX10_notBuy_63 ⟨by (try simp only [Nat.add_zero] at *); simp [fBuy, c_5, c_12, c_24, c_39, okR, okK, okB, *], rfl, rfl, rfl⟩ (by decide)
        · skip
          refine r_aload_n (pc := 42) C 0 dX10_notBuy_42 rfl rfl ?_
          refine r_iload_n (pc := 43) C 1 dX10_notBuy_43 rfl rfl ?_
          refine r_iconst (pc := 44) (v := 0) C dX10_notBuy_44 rfl ?_
          refine r_cVi (pc := 45) C hfl k_X10_95 (c_of hm (by omega) (by omega)) hm.1 ca_X10 rfl rfl (Nat.le_of_ble_eq_true rfl) (by decide) (by decide) dX10_notBuy_45 ?_
          refine r_iload_n (pc := 48) C 3 dX10_notBuy_48 rfl rfl ?_
          refine r_aload_n (pc := 49) C 0 dX10_notBuy_49 rfl rfl ?_
          refine r_getR (pc := 50) (x := M + 1) C f_X10_13 hm.1 rfl rfl dX10_notBuy_50 ?_
          refine r_bipush (pc := 53) (v := 10) C dX10_notBuy_53 rfl ?_
          refine r_iload_n (pc := 55) C 2 dX10_notBuy_55 rfl rfl ?_
          refine r_iaddN (pc := 56) C dX10_notBuy_56 ?_
          refine r_wld (pc := 57) (x := 10 + m) C hm.2.1 rfl (by omega) (by decide) dX10_notBuy_57 ?_
          refine r_imul (pc := 58) C dX10_notBuy_58 ?_
          refine r_cge (pc := 59) (tgt := 64) C dX10_notBuy_59 rfl (fun c_59 => ?_) (fun c_59 => ?_)
          · skip
            replace c_59 := Int32.not_lt.mpr c_59
            refine r_aload_n (pc := 64) C 0 dX10_notBuy_64 rfl rfl ?_
            refine r_iload_n (pc := 65) C 1 dX10_notBuy_65 rfl rfl ?_
            refine r_iconst (pc := 66) (v := 2) C dX10_notBuy_66 rfl ?_
            refine r_iload_n (pc := 67) C 2 dX10_notBuy_67 rfl rfl ?_
            refine r_iaddN (pc := 68) C dX10_notBuy_68 ?_
            refine r_cVi (pc := 69) C hfl k_X10_95 (c_of hm (by omega) (by omega)) hm.1 ca_X10 rfl rfl (Nat.le_of_ble_eq_true rfl) (by decide) (by decide) dX10_notBuy_69 ?_
            refine r_iload_n (pc := 72) C 3 dX10_notBuy_72 rfl rfl ?_
            refine r_iadd (pc := 73) C dX10_notBuy_73 ?_
            refine r_sipush (pc := 74) (v := 999) C dX10_notBuy_74 rfl ?_
            refine r_cle (pc := 77) (tgt := 84) C dX10_notBuy_77 rfl (fun c_77 => ?_) (fun c_77 => ?_)
            · skip
              replace c_77 := Int32.not_lt.mpr c_77
              refine r_iconst (pc := 84) (v := 0) C dX10_notBuy_84 rfl ?_
              exact r_iret (pc := 85) C dX10_notBuy_85 ⟨by (try simp only [Nat.add_zero] at *); simp [fBuy, c_5, c_12, c_24, c_39, c_59, c_77, okR, okK, okB, *], rfl, rfl, rfl⟩ (by decide)
            · skip
              replace c_77 := Int32.not_le.mp c_77
              refine r_iconst (pc := 80) (v := 3) C dX10_notBuy_80 rfl ?_
              refine r_goto (pc := 81) (tgt := 85) C dX10_notBuy_81 rfl ?_
              exact r_iret (pc := 85) C dX10_notBuy_85 ⟨by (try simp only [Nat.add_zero] at *); simp [fBuy, c_5, c_12, c_24, c_39, c_59, c_77, okR, okK, okB, *], rfl, rfl, rfl⟩ (by decide)
          · skip
            replace c_59 := Int32.not_le.mp c_59
            refine r_iconst (pc := 62) (v := 3) C dX10_notBuy_62 rfl ?_
            exact r_iret (pc := 63) C dX10_notBuy_63 ⟨by (try simp only [Nat.add_zero] at *); simp [fBuy, c_5, c_12, c_24, c_39, c_59, okR, okK, okB, *], rfl, rfl, rfl⟩ (by decide)
      · skip
        refine r_iconst (pc := 27) (v := 2) C dX10_notBuy_27 rfl ?_
        exact r_iret (pc := 28) C dX10_notBuy_28 ⟨by (try simp only [Nat.add_zero] at *); simp [fBuy, c_5, c_12, c_24, okR, okK, okB, *], rfl, rfl, rfl⟩ (by decide)
    · skip
      refine r_iconst (pc := 15) (v := 1) C dX10_notBuy_15 rfl ?_
      exact r_iret (pc := 16) C dX10_notBuy_16 ⟨by (try simp only [Nat.add_zero] at *); simp [fBuy, c_5, c_12, okR, okK, okB, *], rfl, rfl, rfl⟩ (by decide)
