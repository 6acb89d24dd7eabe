set_option maxHeartbeats 1000000 in
theorem c_X9_isKind {g : GG} {X : va_W} {T : TT} {I : II} {v : Int32} : Mc g yX9_isKind cX9_isKind 1 (some .boolean) 1 0 0 [.int v] X T I (Ex (some (.int (bI (okK v)))) X T I) := by
  refine Mc.of (by decide) (Nat.le_of_ble_eq_true rfl) (fun k hfl C => ?_)
  refine r_lo (lo' := [(0, _)]) rfl ?_
  refine r_iload_n (pc := 0) C 0 dX9_isKind_0 rfl rfl ?_
  refine r_iflt (pc := 1) (tgt := 13) C dX9_isKind_1 rfl (fun c_1 => ?_) (fun c_1 => ?_)
  · skip
    refine r_iconst (pc := 13) (v := 0) C dX9_isKind_13 rfl ?_
    exact r_zret (pc := 14) C rfl dX9_isKind_14 ⟨congrArg (fun z => some (Value.int z)) (bI_f (fun z => absurd c_1 (okK_lt.mpr z).1)).symm, rfl, rfl, rfl⟩ (by decide)
  · skip
    refine r_iload_n (pc := 4) C 0 dX9_isKind_4 rfl rfl ?_
    refine r_iconst (pc := 5) (v := 4) C dX9_isKind_5 rfl ?_
    refine r_cge (pc := 6) (tgt := 13) C dX9_isKind_6 rfl (fun c_6 => ?_) (fun c_6 => ?_)
    · skip
      refine r_iconst (pc := 13) (v := 0) C dX9_isKind_13 rfl ?_
      exact r_zret (pc := 14) C rfl dX9_isKind_14 ⟨congrArg (fun z => some (Value.int z)) (bI_f (fun z => absurd (okK_lt.mpr z).2 (Int32.not_lt.mpr c_6))).symm, rfl, rfl, rfl⟩ (by decide)
    · skip
      refine r_iconst (pc := 9) (v := 1) C dX9_isKind_9 rfl ?_
      refine r_goto (pc := 10) (tgt := 14) C dX9_isKind_10 rfl ?_
      exact r_zret (pc := 14) C rfl dX9_isKind_14 ⟨congrArg (fun z => some (Value.int z)) (bI_t (okK_lt.mp ⟨c_1, Int32.not_le.mp c_6⟩)).symm, rfl, rfl, rfl⟩ (by decide)

set_option maxHeartbeats 1000000 in
theorem c_X9_isWithin {g : GG} {X : va_W} {T : TT} {I : II} {v lo hi : Int32} : Mc g yX9_isWithin cX9_isWithin 3 (some .boolean) 1 0 0 [.int v, .int lo, .int hi] X T I (Ex (some (.int (bI (lo ≤ v ∧ v ≤ hi)))) X T I) := by
  refine Mc.of (by decide) (Nat.le_of_ble_eq_true rfl) (fun k hfl C => ?_)
  refine r_lo (lo' := [(0, _), (1, _), (2, _)]) rfl ?_
  refine r_iload_n (pc := 0) C 0 dX9_isWithin_0 rfl rfl ?_
  refine r_iload_n (pc := 1) C 1 dX9_isWithin_1 rfl rfl ?_
  refine r_clt (pc := 2) (tgt := 14) C dX9_isWithin_2 rfl (fun c_2 => ?_) (fun c_2 => ?_)
  · skip
    refine r_iconst (pc := 14) (v := 0) C dX9_isWithin_14 rfl ?_
    exact r_zret (pc := 15) C rfl dX9_isWithin_15 ⟨congrArg (fun z => some (Value.int z)) (bI_f (fun z => absurd z.1 (Int32.not_le.mpr c_2))).symm, rfl, rfl, rfl⟩ (by decide)
  · skip
    refine r_iload_n (pc := 5) C 0 dX9_isWithin_5 rfl rfl ?_
    refine r_iload_n (pc := 6) C 2 dX9_isWithin_6 rfl rfl ?_
    refine r_cgt (pc := 7) (tgt := 14) C dX9_isWithin_7 rfl (fun c_7 => ?_) (fun c_7 => ?_)
    · skip
      refine r_iconst (pc := 14) (v := 0) C dX9_isWithin_14 rfl ?_
      exact r_zret (pc := 15) C rfl dX9_isWithin_15 ⟨congrArg (fun z => some (Value.int z)) (bI_f (fun z => absurd z.2 (Int32.not_le.mpr c_7))).symm, rfl, rfl, rfl⟩ (by decide)
    · skip
      refine r_iconst (pc := 10) (v := 1) C dX9_isWithin_10 rfl ?_
      refine r_goto (pc := 11) (tgt := 15) C dX9_isWithin_11 rfl ?_
      exact r_zret (pc := 15) C rfl dX9_isWithin_15 ⟨congrArg (fun z => some (Value.int z)) (bI_t ⟨Int32.not_lt.mp c_2, Int32.not_lt.mp c_7⟩).symm, rfl, rfl, rfl⟩ (by decide)

set_option maxHeartbeats 1000000 in
theorem c_X9_covers {g : GG} {X : va_W} {T : TT} {I : II} {o v : Int32} : Mc g yX9_covers cX9_covers 2 (some .boolean) 1 0 0 [.int o, .int v] X T I (Ex (some (.int (bI (nI 3 * o ≤ nI 2 * v)))) X T I) := by
  refine Mc.of (by decide) (Nat.le_of_ble_eq_true rfl) (fun k hfl C => ?_)
  refine r_lo (lo' := [(0, _), (1, _)]) rfl ?_
  refine r_iconst (pc := 0) (v := 3) C dX9_covers_0 rfl ?_
  refine r_iload_n (pc := 1) C 0 dX9_covers_1 rfl rfl ?_
  refine r_imul (pc := 2) C dX9_covers_2 ?_
  refine r_iconst (pc := 3) (v := 2) C dX9_covers_3 rfl ?_
  refine r_iload_n (pc := 4) C 1 dX9_covers_4 rfl rfl ?_
  refine r_imul (pc := 5) C dX9_covers_5 ?_
  refine r_cgt (pc := 6) (tgt := 13) C dX9_covers_6 rfl (fun c_6 => ?_) (fun c_6 => ?_)
  · skip
    refine r_iconst (pc := 13) (v := 0) C dX9_covers_13 rfl ?_
    exact r_zret (pc := 14) C rfl dX9_covers_14 ⟨congrArg (fun z => some (Value.int z)) (bI_f (Int32.not_le.mpr c_6)).symm, rfl, rfl, rfl⟩ (by decide)
  · skip
    refine r_iconst (pc := 9) (v := 1) C dX9_covers_9 rfl ?_
    refine r_goto (pc := 10) (tgt := 14) C dX9_covers_10 rfl ?_
    exact r_zret (pc := 14) C rfl dX9_covers_14 ⟨congrArg (fun z => some (Value.int z)) (bI_t (Int32.not_lt.mp c_6)).symm, rfl, rfl, rfl⟩ (by decide)

set_option maxHeartbeats 1000000 in
theorem c_X9_quotientUp {g : GG} {X : va_W} {T : TT} {I : II} {a d : Int32} : Mc g yX9_quotientUp cX9_quotientUp 2 (some .int) 1 0 0 [.int a, .int d] X T I (Ex (some (.int (qupV a d))) X T I) := by
  refine Mc.of (by decide) (Nat.le_of_ble_eq_true rfl) (fun k hfl C => ?_)
  refine r_lo (lo' := [(0, _), (1, _)]) rfl ?_
  refine r_iload_n (pc := 0) C 1 dX9_quotientUp_0 rfl rfl ?_
  refine r_ifgt (pc := 1) (tgt := 8) C dX9_quotientUp_1 rfl (fun c_1 => ?_) (fun c_1 => ?_)
  · skip
    refine r_iload_n (pc := 8) C 0 dX9_quotientUp_8 rfl rfl ?_
    refine r_iload_n (pc := 9) C 1 dX9_quotientUp_9 rfl rfl ?_
    refine r_iadd (pc := 10) C dX9_quotientUp_10 ?_
    refine r_iconst (pc := 11) (v := 1) C dX9_quotientUp_11 rfl ?_
    refine r_isub (pc := 12) C dX9_quotientUp_12 ?_
    refine r_iload_n (pc := 13) C 1 dX9_quotientUp_13 rfl rfl ?_
    refine r_idiv (pc := 14) C dX9_quotientUp_14 (fun z => by rw [z] at c_1; exact absurd c_1 (by decide)) ?_
    exact r_iret (pc := 15) C dX9_quotientUp_15 ⟨congrArg (fun z => some (Value.int z)) (by rw [qupV, if_pos c_1]), rfl, rfl, rfl⟩ (by decide)
  · skip
    refine r_iconst (pc := 4) (v := 0) C dX9_quotientUp_4 rfl ?_
    refine r_goto (pc := 5) (tgt := 15) C dX9_quotientUp_5 rfl ?_
    exact r_iret (pc := 15) C dX9_quotientUp_15 ⟨congrArg (fun z => some (Value.int z)) (by rw [qupV, if_neg c_1]), rfl, rfl, rfl⟩ (by decide)

set_option maxHeartbeats 1000000 in
theorem c_X7_owed {g : GG} {X : va_W} {T : TT} {I : II} {b : Nat} (hd : isDk T b) {w : Nat → Int32} {B N E : Nat} {pm : Nat → Nat} (hV : DV I b w B N E pm) {s : Nat} (hs : s < N) : Mc g yX7_owed cX7_owed 1 (some .int) 1 0 0 [.ref (b + 5 + 17 + 2 * pm s)] X T I (Ex (some (.int (debtV w s))) X T I) := by
  have hB6 := hV.hB
  have hN10 := hV.hN
  have hE20 := hV.hE
  refine Mc.of (by decide) (Nat.le_of_ble_eq_true rfl) (fun k hfl C => ?_)
  refine r_lo (lo' := [(0, _)]) rfl ?_
  refine r_aload_n (pc := 0) C 0 dX7_owed_0 rfl rfl ?_
  refine r_getI (pc := 1) C f_X7_18 ((Dk_l hd (hV.l (by omega)))) rfl dX7_owed_1 ?_
  refine r_t (hV.get (at_loan (i := 2) hs (by decide))) ?_
  refine r_aload_n (pc := 4) C 0 dX7_owed_4 rfl rfl ?_
  refine r_getI (pc := 5) C f_X7_21 ((Dk_l hd (hV.l (by omega)))) rfl dX7_owed_5 ?_
  refine r_t (hV.get (at_loan (i := 3) hs (by decide))) ?_
  refine r_iadd (pc := 8) C dX7_owed_8 ?_
  exact r_iret (pc := 9) C dX7_owed_9 ⟨rfl, rfl, rfl, rfl⟩ (by decide)

set_option maxHeartbeats 1000000 in
theorem c_X7_dailyInterest {g : GG} {X : va_W} {T : TT} {I : II} {b : Nat} (hd : isDk T b) {w : Nat → Int32} {B N E : Nat} {pm : Nat → Nat} (hV : DV I b w B N E pm) {s : Nat} (hs : s < N) : Mc g yX7_dailyInterest cX7_dailyInterest 1 (some .int) 2 0 0 [.ref (b + 5 + 17 + 2 * pm s)] X T I (Ex (some (.int (dayV w s))) X T I) := by
  have hB6 := hV.hB
  have hN10 := hV.hN
  have hE20 := hV.hE
  refine Mc.of (by decide) (Nat.le_of_ble_eq_true rfl) (fun k hfl C => ?_)
  refine r_lo (lo' := [(0, _)]) rfl ?_
  refine r_aload_n (pc := 0) C 0 dX7_dailyInterest_0 rfl rfl ?_
  refine r_getI (pc := 1) C f_X7_18 ((Dk_l hd (hV.l (by omega)))) rfl dX7_dailyInterest_1 ?_
  refine r_t (hV.get (at_loan (i := 2) hs (by decide))) ?_
  refine r_aload_n (pc := 4) C 0 dX7_dailyInterest_4 rfl rfl ?_
  refine r_getI (pc := 5) C f_X7_24 ((Dk_l hd (hV.l (by omega)))) rfl dX7_dailyInterest_5 ?_
  refine r_t (hV.get (at_loan (i := 4) hs (by decide))) ?_
  refine r_imul (pc := 8) C dX7_dailyInterest_8 ?_
  refine r_sipush (pc := 9) (v := 1000) C dX7_dailyInterest_9 rfl ?_
  refine r_callSN (pc := 12) C hfl kn_X7_34 c_X9_quotientUp rfl rfl (Nat.le_of_ble_eq_true rfl) (by decide) (by decide) dX7_dailyInterest_12 ?_
  exact r_iret (pc := 15) C dX7_dailyInterest_15 ⟨congrArg (fun z => some (Value.int z)) qup_day, rfl, rfl, rfl⟩ (by decide)

set_option maxHeartbeats 1000000 in
theorem c_X7_comesBefore {g : GG} {X : va_W} {T : TT} {I : II} {b : Nat} (hd : isDk T b) {w : Nat → Int32} {B N E : Nat} {pm : Nat → Nat} (hV : DV I b w B N E pm) {s r : Nat} (hs : s < N) (hr : r < N) : Mc g yX7_comesBefore cX7_comesBefore 2 (some .boolean) 2 0 0 [.ref (b + 5 + 17 + 2 * pm s), .ref (b + 5 + 17 + 2 * pm r)] X T I (Ex (some (.int (bI (cbB w s r = true)))) X T I) := by
  have hB6 := hV.hB
  have hN10 := hV.hN
  have hE20 := hV.hE
  refine Mc.of (by decide) (Nat.le_of_ble_eq_true rfl) (fun k hfl C => ?_)
  refine r_lo (lo' := [(0, _), (1, _)]) rfl ?_
  refine r_aload_n (pc := 0) C 0 dX7_comesBefore_0 rfl rfl ?_
  refine r_cVi (pc := 1) C hfl k_X7_43 (c_X7_owed hd hV hs ) ((Dk_l hd (hV.l (by omega)))) ca_X7 rfl rfl (Nat.le_of_ble_eq_true rfl) (by decide) (by decide) dX7_comesBefore_1 ?_
  refine r_aload_n (pc := 4) C 1 dX7_comesBefore_4 rfl rfl ?_
  refine r_cVi (pc := 5) C hfl k_X7_43 (c_X7_owed hd hV hr ) ((Dk_l hd (hV.l (by omega)))) ca_X7 rfl rfl (Nat.le_of_ble_eq_true rfl) (by decide) (by decide) dX7_comesBefore_5 ?_
  refine r_ceq (pc := 8) (tgt := 28) C dX7_comesBefore_8 rfl (fun c_8 => ?_) (fun c_8 => ?_)
  · skip
    refine r_aload_n (pc := 28) C 0 dX7_comesBefore_28 rfl rfl ?_
    refine r_getI (pc := 29) C f_X7_27 ((Dk_l hd (hV.l (by omega)))) rfl dX7_comesBefore_29 ?_
    refine r_t (hV.get (at_loan (i := 5) hs (by decide))) ?_
    refine r_aload_n (pc := 32) C 1 dX7_comesBefore_32 rfl rfl ?_
    refine r_getI (pc := 33) C f_X7_27 ((Dk_l hd (hV.l (by omega)))) rfl dX7_comesBefore_33 ?_
    refine r_t (hV.get (at_loan (i := 5) hr (by decide))) ?_
    refine r_ceq (pc := 36) (tgt := 56) C dX7_comesBefore_36 rfl (fun c_36 => ?_) (fun c_36 => ?_)
    · skip
      refine r_aload_n (pc := 56) C 0 dX7_comesBefore_56 rfl rfl ?_
      refine r_getI (pc := 57) C f_X7_9 ((Dk_l hd (hV.l (by omega)))) rfl dX7_comesBefore_57 ?_
      refine r_t (hV.get (at_loan (i := 0) hs (by decide))) ?_
      refine r_aload_n (pc := 60) C 1 dX7_comesBefore_60 rfl rfl ?_
      refine r_getI (pc := 61) C f_X7_9 ((Dk_l hd (hV.l (by omega)))) rfl dX7_comesBefore_61 ?_
      refine r_t (hV.get (at_loan (i := 0) hr (by decide))) ?_
      refine r_cge (pc := 64) (tgt := 71) C dX7_comesBefore_64 rfl (fun c_64 => ?_) (fun c_64 => ?_)
      · skip
        refine r_iconst (pc := 71) (v := 0) C dX7_comesBefore_71 rfl ?_
        exact r_zret (pc := 72) C rfl dX7_comesBefore_72 ⟨congrArg (fun z => some (Value.int z)) (bI_f (by rw [cbB, if_pos c_8, if_pos c_36]; exact ne_true_of_eq_false (decide_eq_false (Int32.not_lt.mpr c_64)))).symm, rfl, rfl, rfl⟩ (by decide)
      · skip
        refine r_iconst (pc := 67) (v := 1) C dX7_comesBefore_67 rfl ?_
        refine r_goto (pc := 68) (tgt := 72) C dX7_comesBefore_68 rfl ?_
        exact r_zret (pc := 72) C rfl dX7_comesBefore_72 ⟨congrArg (fun z => some (Value.int z)) (bI_t (by rw [cbB, if_pos c_8, if_pos c_36]; exact decide_eq_true (Int32.not_le.mp c_64))).symm, rfl, rfl, rfl⟩ (by decide)
    · skip
      refine r_aload_n (pc := 39) C 0 dX7_comesBefore_39 rfl rfl ?_
      refine r_getI (pc := 40) C f_X7_27 ((Dk_l hd (hV.l (by omega)))) rfl dX7_comesBefore_40 ?_
      refine r_t (hV.get (at_loan (i := 5) hs (by decide))) ?_
      refine r_aload_n (pc := 43) C 1 dX7_comesBefore_43 rfl rfl ?_
      refine r_getI (pc := 44) C f_X7_27 ((Dk_l hd (hV.l (by omega)))) rfl dX7_comesBefore_44 ?_
      refine r_t (hV.get (at_loan (i := 5) hr (by decide))) ?_
      refine r_cge (pc := 47) (tgt := 54) C dX7_comesBefore_47 rfl (fun c_47 => ?_) (fun c_47 => ?_)
      · skip
        refine r_iconst (pc := 54) (v := 0) C dX7_comesBefore_54 rfl ?_
        exact r_zret (pc := 55) C rfl dX7_comesBefore_55 ⟨congrArg (fun z => some (Value.int z)) (bI_f (by rw [cbB, if_pos c_8, if_neg c_36]; exact ne_true_of_eq_false (decide_eq_false (Int32.not_lt.mpr c_47)))).symm, rfl, rfl, rfl⟩ (by decide)
      · skip
        refine r_iconst (pc := 50) (v := 1) C dX7_comesBefore_50 rfl ?_
        refine r_goto (pc := 51) (tgt := 55) C dX7_comesBefore_51 rfl ?_
        exact r_zret (pc := 55) C rfl dX7_comesBefore_55 ⟨congrArg (fun z => some (Value.int z)) (bI_t (by rw [cbB, if_pos c_8, if_neg c_36]; exact decide_eq_true (Int32.not_le.mp c_47))).symm, rfl, rfl, rfl⟩ (by decide)
  · skip
    refine r_aload_n (pc := 11) C 0 dX7_comesBefore_11 rfl rfl ?_
    refine r_cVi (pc := 12) C hfl k_X7_43 (c_X7_owed hd hV hs ) ((Dk_l hd (hV.l (by omega)))) ca_X7 rfl rfl (Nat.le_of_ble_eq_true rfl) (by decide) (by decide) dX7_comesBefore_12 ?_
    refine r_aload_n (pc := 15) C 1 dX7_comesBefore_15 rfl rfl ?_
    refine r_cVi (pc := 16) C hfl k_X7_43 (c_X7_owed hd hV hr ) ((Dk_l hd (hV.l (by omega)))) ca_X7 rfl rfl (Nat.le_of_ble_eq_true rfl) (by decide) (by decide) dX7_comesBefore_16 ?_
    refine r_cle (pc := 19) (tgt := 26) C dX7_comesBefore_19 rfl (fun c_19 => ?_) (fun c_19 => ?_)
    · skip
      refine r_iconst (pc := 26) (v := 0) C dX7_comesBefore_26 rfl ?_
      exact r_zret (pc := 27) C rfl dX7_comesBefore_27 ⟨congrArg (fun z => some (Value.int z)) (bI_f (by rw [cbB, if_neg c_8]; exact ne_true_of_eq_false (decide_eq_false (Int32.not_lt.mpr c_19)))).symm, rfl, rfl, rfl⟩ (by decide)
    · skip
      refine r_iconst (pc := 22) (v := 1) C dX7_comesBefore_22 rfl ?_
      refine r_goto (pc := 23) (tgt := 27) C dX7_comesBefore_23 rfl ?_
      exact r_zret (pc := 27) C rfl dX7_comesBefore_27 ⟨congrArg (fun z => some (Value.int z)) (bI_t (by rw [cbB, if_neg c_8]; exact decide_eq_true (Int32.not_le.mp c_19))).symm, rfl, rfl, rfl⟩ (by decide)

set_option maxHeartbeats 1000000 in
theorem c_X1_mayBorrow {g : GG} {X : va_W} {T : TT} {I : II} {b : Nat} (hd : isDk T b) {w : Nat → Int32} {B N E : Nat} {pm : Nat → Nat} (hV : DV I b w B N E pm) {n : Nat} (hn : n < B) : Mc g yX1_mayBorrow cX1_mayBorrow 1 (some .boolean) 1 0 0 [.ref (b + 10 + 2 * n)] X T I (Ex (some (.int (bI (w (22 + 6 * n + 1) < nI 2)))) X T I) := by
  have hB6 := hV.hB
  have hN10 := hV.hN
  have hE20 := hV.hE
  refine Mc.of (by decide) (Nat.le_of_ble_eq_true rfl) (fun k hfl C => ?_)
  refine r_lo (lo' := [(0, _)]) rfl ?_
  refine r_aload_n (pc := 0) C 0 dX1_mayBorrow_0 rfl rfl ?_
  refine r_getI (pc := 1) C f_X1_15 ((Dk_b hd (by omega))) rfl dX1_mayBorrow_1 ?_
  refine r_t (hV.get (at_defaultTotal hn)) ?_
  refine r_iconst (pc := 4) (v := 2) C dX1_mayBorrow_4 rfl ?_
  refine r_cge (pc := 5) (tgt := 12) C dX1_mayBorrow_5 rfl (fun c_5 => ?_) (fun c_5 => ?_)
  · skip
    refine r_iconst (pc := 12) (v := 0) C dX1_mayBorrow_12 rfl ?_
    exact r_zret (pc := 13) C rfl dX1_mayBorrow_13 ⟨congrArg (fun z => some (Value.int z)) (bI_f (Int32.not_lt.mpr c_5)).symm, rfl, rfl, rfl⟩ (by decide)
  · skip
    refine r_iconst (pc := 8) (v := 1) C dX1_mayBorrow_8 rfl ?_
    refine r_goto (pc := 9) (tgt := 13) C dX1_mayBorrow_9 rfl ?_
    exact r_zret (pc := 13) C rfl dX1_mayBorrow_13 ⟨congrArg (fun z => some (Value.int z)) (bI_t (Int32.not_le.mp c_5)).symm, rfl, rfl, rfl⟩ (by decide)

set_option maxHeartbeats 1000000 in
theorem c_X3_borrowerAt__v {g : GG} {X : va_W} {T : TT} {I : II} {b : Nat} (hd : isDk T b) {w : Nat → Int32} {B N E : Nat} {pm : Nat → Nat} (hV : DV I b w B N E pm) {n : Nat} (hB : w 1 = nI B) (hn : n < B) : Mc g yX3_borrowerAt cX3_borrowerAt 2 (some (.object "LendingDesk$Borrower")) 1 0 0 [.ref b, .int (nI n)] X T I (Ex (some (.ref (b + 10 + 2 * n))) X T I) := by
  have hB6 := hV.hB
  have hN10 := hV.hN
  have hE20 := hV.hE
  refine Mc.of (by decide) (Nat.le_of_ble_eq_true rfl) (fun k hfl C => ?_)
  refine r_lo (lo' := [(0, _), (1, _)]) rfl ?_
  refine r_iload_n (pc := 0) C 1 dX3_borrowerAt_0 rfl rfl ?_
  refine r_ifltN (pc := 1) C dX3_borrowerAt_1 (by omega) ?_
  refine r_iload_n (pc := 4) C 1 dX3_borrowerAt_4 rfl rfl ?_
  refine r_aload_n (pc := 5) C 0 dX3_borrowerAt_5 rfl rfl ?_
  refine r_getI (pc := 6) C f_X3_18 ((Dk_0 hd)) rfl dX3_borrowerAt_6 ?_
  refine r_t (hV.get at_borrowerTotal) ?_
  refine r_t (y := nI B) hB ?_
  refine r_cltN (pc := 9) (tgt := 16) C dX3_borrowerAt_9 rfl (by omega) (by omega) (fun c_9 => ?_) (fun c_9 => False.elim (by omega))
  refine r_aload_n (pc := 16) C 0 dX3_borrowerAt_16 rfl rfl ?_
  refine r_getR (pc := 17) (x := b + 4) C f_X3_54 ((Dk_0 hd)) rfl rfl dX3_borrowerAt_17 ?_
  refine r_iload_n (pc := 20) C 1 dX3_borrowerAt_20 rfl rfl ?_
  refine r_aald (pc := 21) (x := n) (y := b + 10 + 2 * n) C ((Dk_4 hd)) (Or.inl rfl) rfl (by omega) (by decide) rfl dX3_borrowerAt_21 ?_
  exact r_aret (pc := 22) C (Or.inl ⟨_, rfl⟩) (Or.inr ⟨_, rfl⟩) dX3_borrowerAt_22 ⟨rfl, rfl, rfl, rfl⟩ (by decide)

set_option maxHeartbeats 1000000 in
theorem c_X3_borrowerAt__x {g : GG} {X : va_W} {T : TT} {I : II} {b : Nat} (hd : isDk T b) {w : Nat → Int32} {B N E : Nat} {pm : Nat → Nat} (hV : DV I b w B N E pm) {x : Int32} (hB : w 1 = nI B) (hx : ¬ okB B x) : Mc g yX3_borrowerAt cX3_borrowerAt 2 (some (.object "LendingDesk$Borrower")) 1 0 0 [.ref b, .int x] X T I (Ex (some .null) X T I) := by
  have hB6 := hV.hB
  have hN10 := hV.hN
  have hE20 := hV.hE
  refine Mc.of (by decide) (Nat.le_of_ble_eq_true rfl) (fun k hfl C => ?_)
  refine r_lo (lo' := [(0, _), (1, _)]) rfl ?_
  refine r_iload_n (pc := 0) C 1 dX3_borrowerAt_0 rfl rfl ?_
  refine r_iflt (pc := 1) (tgt := 12) C dX3_borrowerAt_1 rfl (fun c_1 => ?_) (fun c_1 => ?_)
  · skip
    refine r_null (pc := 12) C dX3_borrowerAt_12 ?_
    refine r_goto (pc := 13) (tgt := 22) C dX3_borrowerAt_13 rfl ?_
    exact r_aret (pc := 22) C (Or.inl ⟨_, rfl⟩) (Or.inl rfl) dX3_borrowerAt_22 ⟨rfl, rfl, rfl, rfl⟩ (by decide)
  · skip
    refine r_iload_n (pc := 4) C 1 dX3_borrowerAt_4 rfl rfl ?_
    refine r_aload_n (pc := 5) C 0 dX3_borrowerAt_5 rfl rfl ?_
    refine r_getI (pc := 6) C f_X3_18 ((Dk_0 hd)) rfl dX3_borrowerAt_6 ?_
    refine r_t (hV.get at_borrowerTotal) ?_
    refine r_t (y := nI B) hB ?_
    refine r_clt (pc := 9) (tgt := 16) C dX3_borrowerAt_9 rfl (fun c_9 => False.elim (by exact hx ((okB_lt (by omega)).mp ⟨c_1, c_9⟩))) (fun c_9 => ?_)
    refine r_null (pc := 12) C dX3_borrowerAt_12 ?_
    refine r_goto (pc := 13) (tgt := 22) C dX3_borrowerAt_13 rfl ?_
    exact r_aret (pc := 22) C (Or.inl ⟨_, rfl⟩) (Or.inl rfl) dX3_borrowerAt_22 ⟨rfl, rfl, rfl, rfl⟩ (by decide)

set_option maxHeartbeats 1000000 in
theorem c_X3_positionOf {g : GG} {X : va_W} {T : TT} {I : II} {b : Nat} (hd : isDk T b) {w : Nat → Int32} {B N E : Nat} {pm : Nat → Nat} (hV : DV I b w B N E pm) {id r : Int32} (hN : w 2 = nI N) (hr : atS w N id r) : Mc g yX3_positionOf cX3_positionOf 3 (some .int) 1 0 0 [.ref b, .int id] X T I (Ex (some (.int r)) X T I) := by
  have hB6 := hV.hB
  have hN10 := hV.hN
  have hE20 := hV.hE
  refine Mc.of (by decide) (Nat.le_of_ble_eq_true rfl) (fun k hfl C => ?_)
  refine r_lo (lo' := [(0, _), (1, _)]) rfl ?_
  refine r_iconst (pc := 0) (v := 0) C dX3_positionOf_0 rfl ?_
  refine r_istore_n (pc := 1) (lo' := [(2, _), (0, _), (1, _)]) C dX3_positionOf_1 rfl (by decide) rfl ?_
  have loop_2 : ∀ (n_2 : Nat) (q : Nat), N - q < n_2 → (q ≤ N) → (∀ i, i < q → w (58 + 10 * i + 0) ≠ id) → Go g k 3 (Qm g k (Ex (some (.int r)) X T I) 0 0) 0 0 2 [(0, .ref b), (1, .int id), (2, .int (nI q))] [] X T I := by
    intro n_2
    induction n_2 with
    | zero => intro _ h_; exact absurd h_ (Nat.not_lt_zero _)
    | succ n_2 ih_2 =>
      intro q hq hqN hinv
      refine r_iload_n (pc := 2) C 2 dX3_positionOf_2 rfl rfl ?_
      refine r_aload_n (pc := 3) C 0 dX3_positionOf_3 rfl rfl ?_
      refine r_getI (pc := 4) C f_X3_21 ((Dk_0 hd)) rfl dX3_positionOf_4 ?_
      refine r_t (hV.get at_loanTotal) ?_
      refine r_t (y := nI N) hN ?_
      refine r_cgeN (pc := 7) (tgt := 31) C dX3_positionOf_7 rfl (by omega) (by omega) (fun c_7 => ?_) (fun c_7 => ?_)
      · skip
        refine r_iconstm (pc := 31) C dX3_positionOf_31 rfl ?_
        exact r_iret (pc := 32) C dX3_positionOf_32 ⟨congrArg (fun z => some (Value.int z)) (atS_none hr (fun i hi => hinv i (by omega))), rfl, rfl, rfl⟩ (by decide)
      · skip
        refine r_aload_n (pc := 10) C 0 dX3_positionOf_10 rfl rfl ?_
        refine r_getR (pc := 11) (x := b + 5) C f_X3_60 ((Dk_0 hd)) rfl rfl dX3_positionOf_11 ?_
        refine r_iload_n (pc := 14) C 2 dX3_positionOf_14 rfl rfl ?_
        refine r_lald (pc := 15) (x := q) (p := pm q) C ((Dk_5 hd)) rfl (by omega) (hV.p (by omega)) (hV.l (by omega)) dX3_positionOf_15 ?_
        refine r_getI (pc := 16) C f_X3_89 ((Dk_l hd (hV.l (by omega)))) rfl dX3_positionOf_16 ?_
        refine r_t (hV.get (at_loan (i := 0) (by omega) (by decide))) ?_
        refine r_iload_n (pc := 19) C 1 dX3_positionOf_19 rfl rfl ?_
        refine r_cne (pc := 20) (tgt := 25) C dX3_positionOf_20 rfl (fun c_20 => ?_) (fun c_20 => ?_)
        · skip
          refine r_iincN (pc := 25) (m := 1) (lo' := [(2, _), (0, _), (1, _)]) C 2 dX3_positionOf_25 rfl rfl (by decide) rfl ?_
          refine r_goto (pc := 28) (tgt := 2) C dX3_positionOf_28 rfl ?_
          refine r_ls [1, 2, 0] rfl ?_
          exact ih_2 (q + 1) (by omega) (by omega) (lt_s hinv c_20)
        · skip
          refine r_iload_n (pc := 23) C 2 dX3_positionOf_23 rfl rfl ?_
          exact r_iret (pc := 24) C dX3_positionOf_24 ⟨congrArg (fun z => some (Value.int z)) (atS_found hr c_7 c_20 hinv), rfl, rfl, rfl⟩ (by decide)
  refine r_ls [1, 2, 0] rfl ?_
  exact loop_2 (N + 1) 0 (by omega) (by omega) (fun i h => absurd h (by omega))

set_option maxHeartbeats 1000000 in
theorem c_X3_loanWithId__s {g : GG} {X : va_W} {T : TT} {I : II} {b : Nat} (hd : isDk T b) {w : Nat → Int32} {B N E : Nat} {pm : Nat → Nat} (hV : DV I b w B N E pm) {id : Int32} {s : Nat} (hN : w 2 = nI N) (hs : s < N) (hr : atS w N id (nI s)) : Mc g yX3_loanWithId cX3_loanWithId 3 (some (.object "LendingDesk$Loan")) 2 0 0 [.ref b, .int id] X T I (Ex (some (.ref (b + 5 + 17 + 2 * pm s))) X T I) := by
  have hB6 := hV.hB
  have hN10 := hV.hN
  have hE20 := hV.hE
  refine Mc.of (by decide) (Nat.le_of_ble_eq_true rfl) (fun k hfl C => ?_)
  refine r_lo (lo' := [(0, _), (1, _)]) rfl ?_
  refine r_aload_n (pc := 0) C 0 dX3_loanWithId_0 rfl rfl ?_
  refine r_iload_n (pc := 1) C 1 dX3_loanWithId_1 rfl rfl ?_
  refine r_cVi (pc := 2) C hfl k_X3_92 (c_X3_positionOf hd hV hN hr) ((Dk_0 hd)) ca_X3 rfl rfl (Nat.le_of_ble_eq_true rfl) (by decide) (by decide) dX3_loanWithId_2 ?_
  refine r_istore_n (pc := 5) (lo' := [(2, _), (0, _), (1, _)]) C dX3_loanWithId_5 rfl (by decide) rfl ?_
  refine r_iload_n (pc := 6) C 0 dX3_loanWithId_6 rfl rfl ?_
  refine r_ifgeN (pc := 7) (tgt := 14) C dX3_loanWithId_7 rfl (by omega) ?_
  refine r_aload_n (pc := 14) C 1 dX3_loanWithId_14 rfl rfl ?_
  refine r_getR (pc := 15) (x := b + 5) C f_X3_60 ((Dk_0 hd)) rfl rfl dX3_loanWithId_15 ?_
  refine r_iload_n (pc := 18) C 0 dX3_loanWithId_18 rfl rfl ?_
  refine r_lald (pc := 19) (x := s) (p := pm s) C ((Dk_5 hd)) rfl (by omega) (hV.p (by omega)) (hV.l (by omega)) dX3_loanWithId_19 ?_
  exact r_aret (pc := 20) C (Or.inl ⟨_, rfl⟩) (Or.inr ⟨_, rfl⟩) dX3_loanWithId_20 ⟨rfl, rfl, rfl, rfl⟩ (by decide)

set_option maxHeartbeats 1000000 in
theorem c_X3_loanWithId__n {g : GG} {X : va_W} {T : TT} {I : II} {b : Nat} (hd : isDk T b) {w : Nat → Int32} {B N E : Nat} {pm : Nat → Nat} (hV : DV I b w B N E pm) {id : Int32} (hN : w 2 = nI N) (hr : atS w N id (-1)) : Mc g yX3_loanWithId cX3_loanWithId 3 (some (.object "LendingDesk$Loan")) 2 0 0 [.ref b, .int id] X T I (Ex (some .null) X T I) := by
  have hB6 := hV.hB
  have hN10 := hV.hN
  have hE20 := hV.hE
  refine Mc.of (by decide) (Nat.le_of_ble_eq_true rfl) (fun k hfl C => ?_)
  refine r_lo (lo' := [(0, _), (1, _)]) rfl ?_
  refine r_aload_n (pc := 0) C 0 dX3_loanWithId_0 rfl rfl ?_
  refine r_iload_n (pc := 1) C 1 dX3_loanWithId_1 rfl rfl ?_
  refine r_cVi (pc := 2) C hfl k_X3_92 (c_X3_positionOf hd hV hN hr) ((Dk_0 hd)) ca_X3 rfl rfl (Nat.le_of_ble_eq_true rfl) (by decide) (by decide) dX3_loanWithId_2 ?_
  refine r_istore_n (pc := 5) (lo' := [(2, _), (0, _), (1, _)]) C dX3_loanWithId_5 rfl (by decide) rfl ?_
  refine r_iload_n (pc := 6) C 0 dX3_loanWithId_6 rfl rfl ?_
  refine r_ifge (pc := 7) (tgt := 14) C dX3_loanWithId_7 rfl (fun c => absurd c (by decide)) (fun _ => ?_)
  refine r_null (pc := 10) C dX3_loanWithId_10 ?_
  refine r_goto (pc := 11) (tgt := 20) C dX3_loanWithId_11 rfl ?_
  exact r_aret (pc := 20) C (Or.inl ⟨_, rfl⟩) (Or.inl rfl) dX3_loanWithId_20 ⟨rfl, rfl, rfl, rfl⟩ (by decide)

set_option maxHeartbeats 1000000 in
theorem c_X3_valueOf {g : GG} {X : va_W} {T : TT} {I : II} {b : Nat} (hd : isDk T b) {w : Nat → Int32} {B N E : Nat} {pm : Nat → Nat} (hV : DV I b w B N E pm) {a : Nat} (ha : T a = (2, 4, nr)) : Mc g yX3_valueOf cX3_valueOf 4 (some .int) 1 0 0 [.ref b, .ref a] X T I (Ex (some (.int (val4 (I a) (fun k => w (10 + k))))) X T I) := by
  have hB6 := hV.hB
  have hN10 := hV.hN
  have hE20 := hV.hE
  refine Mc.of (by decide) (Nat.le_of_ble_eq_true rfl) (fun k hfl C => ?_)
  refine r_lo (lo' := [(0, _), (1, _)]) rfl ?_
  refine r_iconst (pc := 0) (v := 0) C dX3_valueOf_0 rfl ?_
  refine r_istore_n (pc := 1) (lo' := [(2, _), (0, _), (1, _)]) C dX3_valueOf_1 rfl (by decide) rfl ?_
  refine r_iconst (pc := 2) (v := 0) C dX3_valueOf_2 rfl ?_
  refine r_istore_n (pc := 3) (lo' := [(3, _), (2, _), (0, _), (1, _)]) C dX3_valueOf_3 rfl (by decide) rfl ?_
  have loop_4 : ∀ (n_4 : Nat) (q : Nat) (z : Int32), 4 - q < n_4 → (q ≤ 4) → (sm (fun k => I a k * w (10 + k)) (4 - q) q z = val4 (I a) (fun k => w (10 + k))) → Go g k 4 (Qm g k (Ex (some (.int (val4 (I a) (fun k => w (10 + k))))) X T I) 0 0) 0 0 4 [(0, .ref b), (1, .ref a), (2, .int z), (3, .int (nI q))] [] X T I := by
    intro n_4
    induction n_4 with
    | zero => intro _ _ h_; exact absurd h_ (Nat.not_lt_zero _)
    | succ n_4 ih_4 =>
      intro q z hq hqN hinv
      refine r_iload_n (pc := 4) C 3 dX3_valueOf_4 rfl rfl ?_
      refine r_iconst (pc := 5) (v := 4) C dX3_valueOf_5 rfl ?_
      refine r_cgeN (pc := 6) (tgt := 34) C dX3_valueOf_6 rfl (by omega) (by omega) (fun c_6 => ?_) (fun c_6 => ?_)
      · skip
        refine r_iload_n (pc := 34) C 2 dX3_valueOf_34 rfl rfl ?_
        exact r_iret (pc := 35) C dX3_valueOf_35 ⟨congrArg (fun z => some (Value.int z)) (by rw [← hinv, show 4 - q = 0 by omega]; rfl), rfl, rfl, rfl⟩ (by decide)
      · skip
        refine r_iload_n (pc := 9) C 3 dX3_valueOf_9 rfl rfl ?_
        refine r_aload_n (pc := 10) C 1 dX3_valueOf_10 rfl rfl ?_
        refine r_alen (pc := 11) C ha (by decide) dX3_valueOf_11 ?_
        refine r_cgeN (pc := 12) (tgt := 34) C dX3_valueOf_12 rfl (by omega) (by omega) (fun c_12 => False.elim (by omega)) (fun c_12 => ?_)
        refine r_iload_n (pc := 15) C 2 dX3_valueOf_15 rfl rfl ?_
        refine r_aload_n (pc := 16) C 1 dX3_valueOf_16 rfl rfl ?_
        refine r_iload_n (pc := 17) C 3 dX3_valueOf_17 rfl rfl ?_
        refine r_iald (pc := 18) (x := q) C ha rfl (by omega) (by decide) dX3_valueOf_18 ?_
        refine r_aload_n (pc := 19) C 0 dX3_valueOf_19 rfl rfl ?_
        refine r_getR (pc := 20) (x := b + 1) C f_X3_42 ((Dk_0 hd)) rfl rfl dX3_valueOf_20 ?_
        refine r_iload_n (pc := 23) C 3 dX3_valueOf_23 rfl rfl ?_
        refine r_iald (pc := 24) (x := q) C ((Dk_1 hd)) rfl (by omega) (by decide) dX3_valueOf_24 ?_
        refine r_t (hV.get (at_pr (by omega))) ?_
        refine r_imul (pc := 25) C dX3_valueOf_25 ?_
        refine r_iadd (pc := 26) C dX3_valueOf_26 ?_
        refine r_istore_n (pc := 27) (lo' := [(2, _), (0, _), (1, _), (3, _)]) C dX3_valueOf_27 rfl (by decide) rfl ?_
        refine r_iincN (pc := 28) (m := 1) (lo' := [(3, _), (2, _), (0, _), (1, _)]) C 3 dX3_valueOf_28 rfl rfl (by decide) rfl ?_
        refine r_goto (pc := 31) (tgt := 4) C dX3_valueOf_31 rfl ?_
        refine r_ls [2, 3, 1, 0] rfl ?_
        exact ih_4 (q + 1) _ (by omega) (by omega) (sm_go c_6 hinv rfl)
  refine r_ls [2, 3, 1, 0] rfl ?_
  exact loop_4 5 0 (nI 0) (by omega) (by omega) rfl

set_option maxHeartbeats 1000000 in
theorem c_X3_loansHeldBy {g : GG} {X : va_W} {T : TT} {I : II} {b : Nat} (hd : isDk T b) {w : Nat → Int32} {B N E : Nat} {pm : Nat → Nat} (hV : DV I b w B N E pm) {x : Int32} (hN : w 2 = nI N) : Mc g yX3_loansHeldBy cX3_loansHeldBy 4 (some .int) 1 0 0 [.ref b, .int x] X T I (Ex (some (.int (withV w N x))) X T I) := by
  have hB6 := hV.hB
  have hN10 := hV.hN
  have hE20 := hV.hE
  refine Mc.of (by decide) (Nat.le_of_ble_eq_true rfl) (fun k hfl C => ?_)
  refine r_lo (lo' := [(0, _), (1, _)]) rfl ?_
  refine r_iconst (pc := 0) (v := 0) C dX3_loansHeldBy_0 rfl ?_
  refine r_istore_n (pc := 1) (lo' := [(2, _), (0, _), (1, _)]) C dX3_loansHeldBy_1 rfl (by decide) rfl ?_
  refine r_iconst (pc := 2) (v := 0) C dX3_loansHeldBy_2 rfl ?_
  refine r_istore_n (pc := 3) (lo' := [(3, _), (2, _), (0, _), (1, _)]) C dX3_loansHeldBy_3 rfl (by decide) rfl ?_
  have loop_4 : ∀ (n_4 : Nat) (q : Nat) (a : Int32), N - q < n_4 → (q ≤ N) → (sm (fWith w x) (N - q) q a = withV w N x) → Go g k 4 (Qm g k (Ex (some (.int (withV w N x))) X T I) 0 0) 0 0 4 [(0, .ref b), (1, .int x), (2, .int a), (3, .int (nI q))] [] X T I := by
    intro n_4
    induction n_4 with
    | zero => intro _ _ h_; exact absurd h_ (Nat.not_lt_zero _)
    | succ n_4 ih_4 =>
      intro q a hq hqN hinv
      refine r_iload_n (pc := 4) C 3 dX3_loansHeldBy_4 rfl rfl ?_
      refine r_aload_n (pc := 5) C 0 dX3_loansHeldBy_5 rfl rfl ?_
      refine r_getI (pc := 6) C f_X3_21 ((Dk_0 hd)) rfl dX3_loansHeldBy_6 ?_
      refine r_t (hV.get at_loanTotal) ?_
      refine r_t (y := nI N) hN ?_
      refine r_cgeN (pc := 9) (tgt := 34) C dX3_loansHeldBy_9 rfl (by omega) (by omega) (fun c_9 => ?_) (fun c_9 => ?_)
      · skip
        refine r_iload_n (pc := 34) C 2 dX3_loansHeldBy_34 rfl rfl ?_
        exact r_iret (pc := 35) C dX3_loansHeldBy_35 ⟨congrArg (fun z => some (Value.int z)) (sm_end c_9 hinv), rfl, rfl, rfl⟩ (by decide)
      · skip
        refine r_aload_n (pc := 12) C 0 dX3_loansHeldBy_12 rfl rfl ?_
        refine r_getR (pc := 13) (x := b + 5) C f_X3_60 ((Dk_0 hd)) rfl rfl dX3_loansHeldBy_13 ?_
        refine r_iload_n (pc := 16) C 3 dX3_loansHeldBy_16 rfl rfl ?_
        refine r_lald (pc := 17) (x := q) (p := pm q) C ((Dk_5 hd)) rfl (by omega) (hV.p (by omega)) (hV.l (by omega)) dX3_loansHeldBy_17 ?_
        refine r_getI (pc := 18) C f_X3_203 ((Dk_l hd (hV.l (by omega)))) rfl dX3_loansHeldBy_18 ?_
        refine r_t (hV.get (at_loan (i := 1) (by omega) (by decide))) ?_
        refine r_iload_n (pc := 21) C 1 dX3_loansHeldBy_21 rfl rfl ?_
        refine r_cne (pc := 22) (tgt := 28) C dX3_loansHeldBy_22 rfl (fun c_22 => ?_) (fun c_22 => ?_)
        · skip
          refine r_iincN (pc := 28) (m := 1) (lo' := [(3, _), (0, _), (1, _), (2, _)]) C 3 dX3_loansHeldBy_28 rfl rfl (by decide) rfl ?_
          refine r_goto (pc := 31) (tgt := 4) C dX3_loansHeldBy_31 rfl ?_
          refine r_ls [1, 2, 3, 0] rfl ?_
          exact ih_4 (q + 1) _ (by omega) (by omega) (sm_go0 c_9 hinv (if_neg c_22))
        · skip
          refine r_iinc (pc := 25) (lo' := [(2, _), (0, _), (1, _), (3, _)]) C 2 dX3_loansHeldBy_25 rfl rfl (by decide) rfl ?_
          refine r_iincN (pc := 28) (m := 1) (lo' := [(3, _), (2, _), (0, _), (1, _)]) C 3 dX3_loansHeldBy_28 rfl rfl (by decide) rfl ?_
          refine r_goto (pc := 31) (tgt := 4) C dX3_loansHeldBy_31 rfl ?_
          refine r_ls [2, 3, 1, 0] rfl ?_
          exact ih_4 (q + 1) _ (by omega) (by omega) (sm_go1 c_9 hinv (if_pos c_22))
  refine r_ls [2, 3, 1, 0] rfl ?_
  exact loop_4 (N + 1) 0 (nI 0) (by omega) (by omega) rfl

set_option maxHeartbeats 1000000 in
theorem c_X3_owedBy {g : GG} {X : va_W} {T : TT} {I : II} {b : Nat} (hd : isDk T b) {w : Nat → Int32} {B N E : Nat} {pm : Nat → Nat} (hV : DV I b w B N E pm) {x : Int32} (hN : w 2 = nI N) : Mc g yX3_owedBy cX3_owedBy 4 (some .int) 2 0 0 [.ref b, .int x] X T I (Ex (some (.int (debtsV w N x))) X T I) := by
  have hB6 := hV.hB
  have hN10 := hV.hN
  have hE20 := hV.hE
  refine Mc.of (by decide) (Nat.le_of_ble_eq_true rfl) (fun k hfl C => ?_)
  refine r_lo (lo' := [(0, _), (1, _)]) rfl ?_
  refine r_iconst (pc := 0) (v := 0) C dX3_owedBy_0 rfl ?_
  refine r_istore_n (pc := 1) (lo' := [(2, _), (0, _), (1, _)]) C dX3_owedBy_1 rfl (by decide) rfl ?_
  refine r_iconst (pc := 2) (v := 0) C dX3_owedBy_2 rfl ?_
  refine r_istore_n (pc := 3) (lo' := [(3, _), (2, _), (0, _), (1, _)]) C dX3_owedBy_3 rfl (by decide) rfl ?_
  have loop_4 : ∀ (n_4 : Nat) (q : Nat) (a : Int32), N - q < n_4 → (q ≤ N) → (sm (fDebt w x) (N - q) q a = debtsV w N x) → Go g k 4 (Qm g k (Ex (some (.int (debtsV w N x))) X T I) 0 0) 0 0 4 [(0, .ref b), (1, .int x), (2, .int a), (3, .int (nI q))] [] X T I := by
    intro n_4
    induction n_4 with
    | zero => intro _ _ h_; exact absurd h_ (Nat.not_lt_zero _)
    | succ n_4 ih_4 =>
      intro q a hq hqN hinv
      refine r_iload_n (pc := 4) C 3 dX3_owedBy_4 rfl rfl ?_
      refine r_aload_n (pc := 5) C 0 dX3_owedBy_5 rfl rfl ?_
      refine r_getI (pc := 6) C f_X3_21 ((Dk_0 hd)) rfl dX3_owedBy_6 ?_
      refine r_t (hV.get at_loanTotal) ?_
      refine r_t (y := nI N) hN ?_
      refine r_cgeN (pc := 9) (tgt := 43) C dX3_owedBy_9 rfl (by omega) (by omega) (fun c_9 => ?_) (fun c_9 => ?_)
      · skip
        refine r_iload_n (pc := 43) C 2 dX3_owedBy_43 rfl rfl ?_
        exact r_iret (pc := 44) C dX3_owedBy_44 ⟨congrArg (fun z => some (Value.int z)) (sm_end c_9 hinv), rfl, rfl, rfl⟩ (by decide)
      · skip
        refine r_aload_n (pc := 12) C 0 dX3_owedBy_12 rfl rfl ?_
        refine r_getR (pc := 13) (x := b + 5) C f_X3_60 ((Dk_0 hd)) rfl rfl dX3_owedBy_13 ?_
        refine r_iload_n (pc := 16) C 3 dX3_owedBy_16 rfl rfl ?_
        refine r_lald (pc := 17) (x := q) (p := pm q) C ((Dk_5 hd)) rfl (by omega) (hV.p (by omega)) (hV.l (by omega)) dX3_owedBy_17 ?_
        refine r_getI (pc := 18) C f_X3_203 ((Dk_l hd (hV.l (by omega)))) rfl dX3_owedBy_18 ?_
        refine r_t (hV.get (at_loan (i := 1) (by omega) (by decide))) ?_
        refine r_iload_n (pc := 21) C 1 dX3_owedBy_21 rfl rfl ?_
        refine r_cne (pc := 22) (tgt := 37) C dX3_owedBy_22 rfl (fun c_22 => ?_) (fun c_22 => ?_)
        · skip
          refine r_iincN (pc := 37) (m := 1) (lo' := [(3, _), (0, _), (1, _), (2, _)]) C 3 dX3_owedBy_37 rfl rfl (by decide) rfl ?_
          refine r_goto (pc := 40) (tgt := 4) C dX3_owedBy_40 rfl ?_
          refine r_ls [1, 2, 3, 0] rfl ?_
          exact ih_4 (q + 1) _ (by omega) (by omega) (sm_go0 c_9 hinv (if_neg c_22))
        · skip
          refine r_iload_n (pc := 25) C 2 dX3_owedBy_25 rfl rfl ?_
          refine r_aload_n (pc := 26) C 0 dX3_owedBy_26 rfl rfl ?_
          refine r_getR (pc := 27) (x := b + 5) C f_X3_60 ((Dk_0 hd)) rfl rfl dX3_owedBy_27 ?_
          refine r_iload_n (pc := 30) C 3 dX3_owedBy_30 rfl rfl ?_
          refine r_lald (pc := 31) (x := q) (p := pm q) C ((Dk_5 hd)) rfl (by omega) (hV.p (by omega)) (hV.l (by omega)) dX3_owedBy_31 ?_
          refine r_cVi (pc := 32) C hfl k_X3_210 (c_X7_owed hd hV (by omega) ) ((Dk_l hd (hV.l (by omega)))) ca_X7 rfl rfl (Nat.le_of_ble_eq_true rfl) (by decide) (by decide) dX3_owedBy_32 ?_
          refine r_iadd (pc := 35) C dX3_owedBy_35 ?_
          refine r_istore_n (pc := 36) (lo' := [(2, _), (0, _), (1, _), (3, _)]) C dX3_owedBy_36 rfl (by decide) rfl ?_
          refine r_iincN (pc := 37) (m := 1) (lo' := [(3, _), (2, _), (0, _), (1, _)]) C 3 dX3_owedBy_37 rfl rfl (by decide) rfl ?_
          refine r_goto (pc := 40) (tgt := 4) C dX3_owedBy_40 rfl ?_
          refine r_ls [2, 3, 1, 0] rfl ?_
          exact ih_4 (q + 1) _ (by omega) (by omega) (sm_go c_9 hinv (if_pos c_22))
  refine r_ls [2, 3, 1, 0] rfl ?_
  exact loop_4 (N + 1) 0 (nI 0) (by omega) (by omega) rfl

set_option maxHeartbeats 1000000 in
theorem c_X3_pledgedBy {g : GG} {X : va_W} {T : TT} {I : II} {b : Nat} (hd : isDk T b) {w : Nat → Int32} {B N E : Nat} {pm : Nat → Nat} (hV : DV I b w B N E pm) {x : Int32} {m : Nat} (hm4 : m < 4) (hN : w 2 = nI N) : Mc g yX3_pledgedBy cX3_pledgedBy 5 (some .int) 1 0 0 [.ref b, .int x, .int (nI m)] X T I (Ex (some (.int (pledV w N x m))) X T I) := by
  have hB6 := hV.hB
  have hN10 := hV.hN
  have hE20 := hV.hE
  refine Mc.of (by decide) (Nat.le_of_ble_eq_true rfl) (fun k hfl C => ?_)
  refine r_lo (lo' := [(0, _), (1, _), (2, _)]) rfl ?_
  refine r_iconst (pc := 0) (v := 0) C dX3_pledgedBy_0 rfl ?_
  refine r_istore_n (pc := 1) (lo' := [(3, _), (0, _), (1, _), (2, _)]) C dX3_pledgedBy_1 rfl (by decide) rfl ?_
  refine r_iconst (pc := 2) (v := 0) C dX3_pledgedBy_2 rfl ?_
  refine r_istore (pc := 3) (lo' := [(4, _), (3, _), (0, _), (1, _), (2, _)]) C dX3_pledgedBy_3 (by decide) rfl ?_
  have loop_5 : ∀ (n_5 : Nat) (q : Nat) (a : Int32), N - q < n_5 → (q ≤ N) → (sm (fPled w x m) (N - q) q a = pledV w N x m) → Go g k 5 (Qm g k (Ex (some (.int (pledV w N x m))) X T I) 0 0) 0 0 5 [(0, .ref b), (1, .int x), (2, .int (nI m)), (3, .int a), (4, .int (nI q))] [] X T I := by
    intro n_5
    induction n_5 with
    | zero => intro _ _ h_; exact absurd h_ (Nat.not_lt_zero _)
    | succ n_5 ih_5 =>
      intro q a hq hqN hinv
      refine r_iload (pc := 5) C 4 dX3_pledgedBy_5 rfl ?_
      refine r_aload_n (pc := 7) C 0 dX3_pledgedBy_7 rfl rfl ?_
      refine r_getI (pc := 8) C f_X3_21 ((Dk_0 hd)) rfl dX3_pledgedBy_8 ?_
      refine r_t (hV.get at_loanTotal) ?_
      refine r_t (y := nI N) hN ?_
      refine r_cgeN (pc := 11) (tgt := 49) C dX3_pledgedBy_11 rfl (by omega) (by omega) (fun c_11 => ?_) (fun c_11 => ?_)
      · skip
        refine r_iload_n (pc := 49) C 3 dX3_pledgedBy_49 rfl rfl ?_
        exact r_iret (pc := 50) C dX3_pledgedBy_50 ⟨congrArg (fun z => some (Value.int z)) (sm_end c_11 hinv), rfl, rfl, rfl⟩ (by decide)
      · skip
        refine r_aload_n (pc := 14) C 0 dX3_pledgedBy_14 rfl rfl ?_
        refine r_getR (pc := 15) (x := b + 5) C f_X3_60 ((Dk_0 hd)) rfl rfl dX3_pledgedBy_15 ?_
        refine r_iload (pc := 18) C 4 dX3_pledgedBy_18 rfl ?_
        refine r_lald (pc := 20) (x := q) (p := pm q) C ((Dk_5 hd)) rfl (by omega) (hV.p (by omega)) (hV.l (by omega)) dX3_pledgedBy_20 ?_
        refine r_getI (pc := 21) C f_X3_203 ((Dk_l hd (hV.l (by omega)))) rfl dX3_pledgedBy_21 ?_
        refine r_t (hV.get (at_loan (i := 1) (by omega) (by decide))) ?_
        refine r_iload_n (pc := 24) C 1 dX3_pledgedBy_24 rfl rfl ?_
        refine r_cne (pc := 25) (tgt := 43) C dX3_pledgedBy_25 rfl (fun c_25 => ?_) (fun c_25 => ?_)
        · skip
          refine r_iincN (pc := 43) (m := 1) (lo' := [(4, _), (0, _), (1, _), (2, _), (3, _)]) C 4 dX3_pledgedBy_43 rfl rfl (by decide) rfl ?_
          refine r_goto (pc := 46) (tgt := 5) C dX3_pledgedBy_46 rfl ?_
          refine r_ls [1, 2, 3, 4, 0] rfl ?_
          exact ih_5 (q + 1) _ (by omega) (by omega) (sm_go0 c_11 hinv (if_neg c_25))
        · skip
          refine r_iload_n (pc := 28) C 3 dX3_pledgedBy_28 rfl rfl ?_
          refine r_aload_n (pc := 29) C 0 dX3_pledgedBy_29 rfl rfl ?_
          refine r_getR (pc := 30) (x := b + 5) C f_X3_60 ((Dk_0 hd)) rfl rfl dX3_pledgedBy_30 ?_
          refine r_iload (pc := 33) C 4 dX3_pledgedBy_33 rfl ?_
          refine r_lald (pc := 35) (x := q) (p := pm q) C ((Dk_5 hd)) rfl (by omega) (hV.p (by omega)) (hV.l (by omega)) dX3_pledgedBy_35 ?_
          refine r_getR (pc := 36) (x := b + 5 + 17 + 2 * pm q + 1) C f_X3_186 ((Dk_l hd (hV.l (by omega)))) rfl rfl dX3_pledgedBy_36 ?_
          refine r_iload_n (pc := 39) C 2 dX3_pledgedBy_39 rfl rfl ?_
          refine r_iald (pc := 40) (x := m) C ((Dk_p hd (hV.l (by omega)))) rfl (by omega) (by decide) dX3_pledgedBy_40 ?_
          refine r_t (hV.get (at_pledged (by omega) (by omega))) ?_
          refine r_iadd (pc := 41) C dX3_pledgedBy_41 ?_
          refine r_istore_n (pc := 42) (lo' := [(3, _), (0, _), (1, _), (2, _), (4, _)]) C dX3_pledgedBy_42 rfl (by decide) rfl ?_
          refine r_iincN (pc := 43) (m := 1) (lo' := [(4, _), (3, _), (0, _), (1, _), (2, _)]) C 4 dX3_pledgedBy_43 rfl rfl (by decide) rfl ?_
          refine r_goto (pc := 46) (tgt := 5) C dX3_pledgedBy_46 rfl ?_
          refine r_ls [2, 3, 4, 1, 0] rfl ?_
          exact ih_5 (q + 1) _ (by omega) (by omega) (sm_go c_11 hinv (if_pos c_25))
  refine r_ls [2, 3, 4, 1, 0] rfl ?_
  exact loop_5 (N + 1) 0 (nI 0) (by omega) (by omega) rfl

set_option maxHeartbeats 1000000 in
theorem c_X3_allDebts {g : GG} {X : va_W} {T : TT} {I : II} {b : Nat} (hd : isDk T b) {w : Nat → Int32} {B N E : Nat} {pm : Nat → Nat} (hV : DV I b w B N E pm) (hN : w 2 = nI N) : Mc g yX3_allDebts cX3_allDebts 3 (some .int) 2 0 0 [.ref b] X T I (Ex (some (.int (debtsAllV w N))) X T I) := by
  have hB6 := hV.hB
  have hN10 := hV.hN
  have hE20 := hV.hE
  refine Mc.of (by decide) (Nat.le_of_ble_eq_true rfl) (fun k hfl C => ?_)
  refine r_lo (lo' := [(0, _)]) rfl ?_
  refine r_iconst (pc := 0) (v := 0) C dX3_allDebts_0 rfl ?_
  refine r_istore_n (pc := 1) (lo' := [(1, _), (0, _)]) C dX3_allDebts_1 rfl (by decide) rfl ?_
  refine r_iconst (pc := 2) (v := 0) C dX3_allDebts_2 rfl ?_
  refine r_istore_n (pc := 3) (lo' := [(2, _), (1, _), (0, _)]) C dX3_allDebts_3 rfl (by decide) rfl ?_
  have loop_4 : ∀ (n_4 : Nat) (q : Nat) (a : Int32), N - q < n_4 → (q ≤ N) → (sm (fun s => debtV w s) (N - q) q a = debtsAllV w N) → Go g k 3 (Qm g k (Ex (some (.int (debtsAllV w N))) X T I) 0 0) 0 0 4 [(0, .ref b), (1, .int a), (2, .int (nI q))] [] X T I := by
    intro n_4
    induction n_4 with
    | zero => intro _ _ h_; exact absurd h_ (Nat.not_lt_zero _)
    | succ n_4 ih_4 =>
      intro q a hq hqN hinv
      refine r_iload_n (pc := 4) C 2 dX3_allDebts_4 rfl rfl ?_
      refine r_aload_n (pc := 5) C 0 dX3_allDebts_5 rfl rfl ?_
      refine r_getI (pc := 6) C f_X3_21 ((Dk_0 hd)) rfl dX3_allDebts_6 ?_
      refine r_t (hV.get at_loanTotal) ?_
      refine r_t (y := nI N) hN ?_
      refine r_cgeN (pc := 9) (tgt := 30) C dX3_allDebts_9 rfl (by omega) (by omega) (fun c_9 => ?_) (fun c_9 => ?_)
      · skip
        refine r_iload_n (pc := 30) C 1 dX3_allDebts_30 rfl rfl ?_
        exact r_iret (pc := 31) C dX3_allDebts_31 ⟨congrArg (fun z => some (Value.int z)) (sm_end c_9 hinv), rfl, rfl, rfl⟩ (by decide)
      · skip
        refine r_iload_n (pc := 12) C 1 dX3_allDebts_12 rfl rfl ?_
        refine r_aload_n (pc := 13) C 0 dX3_allDebts_13 rfl rfl ?_
        refine r_getR (pc := 14) (x := b + 5) C f_X3_60 ((Dk_0 hd)) rfl rfl dX3_allDebts_14 ?_
        refine r_iload_n (pc := 17) C 2 dX3_allDebts_17 rfl rfl ?_
        refine r_lald (pc := 18) (x := q) (p := pm q) C ((Dk_5 hd)) rfl (by omega) (hV.p (by omega)) (hV.l (by omega)) dX3_allDebts_18 ?_
        refine r_cVi (pc := 19) C hfl k_X3_210 (c_X7_owed hd hV (by omega) ) ((Dk_l hd (hV.l (by omega)))) ca_X7 rfl rfl (Nat.le_of_ble_eq_true rfl) (by decide) (by decide) dX3_allDebts_19 ?_
        refine r_iadd (pc := 22) C dX3_allDebts_22 ?_
        refine r_istore_n (pc := 23) (lo' := [(1, _), (0, _), (2, _)]) C dX3_allDebts_23 rfl (by decide) rfl ?_
        refine r_iincN (pc := 24) (m := 1) (lo' := [(2, _), (1, _), (0, _)]) C 2 dX3_allDebts_24 rfl rfl (by decide) rfl ?_
        refine r_goto (pc := 27) (tgt := 4) C dX3_allDebts_27 rfl ?_
        refine r_ls [2, 1, 0] rfl ?_
        exact ih_4 (q + 1) _ (by omega) (by omega) (sm_go c_9 hinv rfl)
  refine r_ls [2, 1, 0] rfl ?_
  exact loop_4 (N + 1) 0 (nI 0) (by omega) (by omega) rfl

set_option maxHeartbeats 1000000 in
theorem c_X3_allCoins {g : GG} {X : va_W} {T : TT} {I : II} {b : Nat} (hd : isDk T b) {w : Nat → Int32} {B N E : Nat} {pm : Nat → Nat} (hV : DV I b w B N E pm) (hB : w 1 = nI B) : Mc g yX3_allCoins cX3_allCoins 3 (some .int) 1 0 0 [.ref b] X T I (Ex (some (.int (coinsV w B))) X T I) := by
  have hB6 := hV.hB
  have hN10 := hV.hN
  have hE20 := hV.hE
  refine Mc.of (by decide) (Nat.le_of_ble_eq_true rfl) (fun k hfl C => ?_)
  refine r_lo (lo' := [(0, _)]) rfl ?_
  refine r_aload_n (pc := 0) C 0 dX3_allCoins_0 rfl rfl ?_
  refine r_getI (pc := 1) C f_X3_15 ((Dk_0 hd)) rfl dX3_allCoins_1 ?_
  refine r_t (hV.get at_funds) ?_
  refine r_istore_n (pc := 4) (lo' := [(1, _), (0, _)]) C dX3_allCoins_4 rfl (by decide) rfl ?_
  refine r_iconst (pc := 5) (v := 0) C dX3_allCoins_5 rfl ?_
  refine r_istore_n (pc := 6) (lo' := [(2, _), (1, _), (0, _)]) C dX3_allCoins_6 rfl (by decide) rfl ?_
  have loop_7 : ∀ (n_7 : Nat) (q : Nat) (a : Int32), B - q < n_7 → (q ≤ B) → (sm (fun b => w (22 + 6 * b + 0)) (B - q) q a = coinsV w B) → Go g k 3 (Qm g k (Ex (some (.int (coinsV w B))) X T I) 0 0) 0 0 7 [(0, .ref b), (1, .int a), (2, .int (nI q))] [] X T I := by
    intro n_7
    induction n_7 with
    | zero => intro _ _ h_; exact absurd h_ (Nat.not_lt_zero _)
    | succ n_7 ih_7 =>
      intro q a hq hqN hinv
      refine r_iload_n (pc := 7) C 2 dX3_allCoins_7 rfl rfl ?_
      refine r_aload_n (pc := 8) C 0 dX3_allCoins_8 rfl rfl ?_
      refine r_getI (pc := 9) C f_X3_18 ((Dk_0 hd)) rfl dX3_allCoins_9 ?_
      refine r_t (hV.get at_borrowerTotal) ?_
      refine r_t (y := nI B) hB ?_
      refine r_cgeN (pc := 12) (tgt := 33) C dX3_allCoins_12 rfl (by omega) (by omega) (fun c_12 => ?_) (fun c_12 => ?_)
      · skip
        refine r_iload_n (pc := 33) C 1 dX3_allCoins_33 rfl rfl ?_
        exact r_iret (pc := 34) C dX3_allCoins_34 ⟨congrArg (fun z => some (Value.int z)) (sm_end c_12 hinv), rfl, rfl, rfl⟩ (by decide)
      · skip
        refine r_iload_n (pc := 15) C 1 dX3_allCoins_15 rfl rfl ?_
        refine r_aload_n (pc := 16) C 0 dX3_allCoins_16 rfl rfl ?_
        refine r_getR (pc := 17) (x := b + 4) C f_X3_54 ((Dk_0 hd)) rfl rfl dX3_allCoins_17 ?_
        refine r_iload_n (pc := 20) C 2 dX3_allCoins_20 rfl rfl ?_
        refine r_aald (pc := 21) (x := q) (y := b + 10 + 2 * q) C ((Dk_4 hd)) (Or.inl rfl) rfl (by omega) (by decide) rfl dX3_allCoins_21 ?_
        refine r_getI (pc := 22) C f_X3_189 ((Dk_b hd (by omega))) rfl dX3_allCoins_22 ?_
        refine r_t (hV.get (at_purse (by omega))) ?_
        refine r_iadd (pc := 25) C dX3_allCoins_25 ?_
        refine r_istore_n (pc := 26) (lo' := [(1, _), (0, _), (2, _)]) C dX3_allCoins_26 rfl (by decide) rfl ?_
        refine r_iincN (pc := 27) (m := 1) (lo' := [(2, _), (1, _), (0, _)]) C 2 dX3_allCoins_27 rfl rfl (by decide) rfl ?_
        refine r_goto (pc := 30) (tgt := 7) C dX3_allCoins_30 rfl ?_
        refine r_ls [2, 1, 0] rfl ?_
        exact ih_7 (q + 1) _ (by omega) (by omega) (sm_go c_12 hinv rfl)
  refine r_ls [2, 1, 0] rfl ?_
  exact loop_7 (B + 1) 0 _ (by omega) (by omega) rfl

set_option maxHeartbeats 1000000 in
theorem c_X3_allUnits {g : GG} {X : va_W} {T : TT} {I : II} {b : Nat} (hd : isDk T b) {w : Nat → Int32} {B N E : Nat} {pm : Nat → Nat} (hV : DV I b w B N E pm) {m : Nat} (hm4 : m < 4) (hB : w 1 = nI B) (hN : w 2 = nI N) : Mc g yX3_allUnits cX3_allUnits 4 (some .int) 1 0 0 [.ref b, .int (nI m)] X T I (Ex (some (.int (unitsC w B N m))) X T I) := by
  have hB6 := hV.hB
  have hN10 := hV.hN
  have hE20 := hV.hE
  refine Mc.of (by decide) (Nat.le_of_ble_eq_true rfl) (fun k hfl C => ?_)
  refine r_lo (lo' := [(0, _), (1, _)]) rfl ?_
  refine r_aload_n (pc := 0) C 0 dX3_allUnits_0 rfl rfl ?_
  refine r_getR (pc := 1) (x := b + 2) C f_X3_46 ((Dk_0 hd)) rfl rfl dX3_allUnits_1 ?_
  refine r_iload_n (pc := 4) C 1 dX3_allUnits_4 rfl rfl ?_
  refine r_iald (pc := 5) (x := m) C ((Dk_2 hd)) rfl (by omega) (by decide) dX3_allUnits_5 ?_
  refine r_t (hV.get (at_st (by omega))) ?_
  refine r_istore_n (pc := 6) (lo' := [(2, _), (0, _), (1, _)]) C dX3_allUnits_6 rfl (by decide) rfl ?_
  refine r_iconst (pc := 7) (v := 0) C dX3_allUnits_7 rfl ?_
  refine r_istore_n (pc := 8) (lo' := [(3, _), (2, _), (0, _), (1, _)]) C dX3_allUnits_8 rfl (by decide) rfl ?_
  have loop_9 : ∀ (n_9 : Nat) (q : Nat) (a : Int32), B - q < n_9 → (q ≤ B) → (sm (fun n => w (22 + 6 * n + (2 + m))) (B - q) q a = sm (fun n => w (22 + 6 * n + (2 + m))) B 0 (w (14 + m))) → Go g k 4 (Qm g k (Ex (some (.int (unitsC w B N m))) X T I) 0 0) 0 0 9 [(0, .ref b), (1, .int (nI m)), (2, .int a), (3, .int (nI q))] [] X T I := by
    intro n_9
    induction n_9 with
    | zero => intro _ _ h_; exact absurd h_ (Nat.not_lt_zero _)
    | succ n_9 ih_9 =>
      intro q a hq hqN hinv
      refine r_iload_n (pc := 9) C 3 dX3_allUnits_9 rfl rfl ?_
      refine r_aload_n (pc := 10) C 0 dX3_allUnits_10 rfl rfl ?_
      refine r_getI (pc := 11) C f_X3_18 ((Dk_0 hd)) rfl dX3_allUnits_11 ?_
      refine r_t (hV.get at_borrowerTotal) ?_
      refine r_t (y := nI B) hB ?_
      refine r_cgeN (pc := 14) (tgt := 37) C dX3_allUnits_14 rfl (by omega) (by omega) (fun c_14 => ?_) (fun c_14 => ?_)
      · skip
        rw [sm_end c_14 hinv]
        refine r_iconst (pc := 37) (v := 0) C dX3_allUnits_37 rfl ?_
        refine r_istore_n (pc := 38) (lo' := [(3, _), (0, _), (1, _), (2, _)]) C dX3_allUnits_38 rfl (by decide) rfl ?_
        have loop_39 : ∀ (n_39 : Nat) (z : Nat) (a : Int32), N - z < n_39 → (z ≤ N) → (sm (fun s => w (58 + 10 * s + (6 + m))) (N - z) z a = unitsC w B N m) → Go g k 4 (Qm g k (Ex (some (.int (unitsC w B N m))) X T I) 0 0) 0 0 39 [(0, .ref b), (1, .int (nI m)), (2, .int a), (3, .int (nI z))] [] X T I := by
          intro n_39
          induction n_39 with
          | zero => intro _ _ h_; exact absurd h_ (Nat.not_lt_zero _)
          | succ n_39 ih_39 =>
            intro z a hz hzN hin2
            refine r_iload_n (pc := 39) C 3 dX3_allUnits_39 rfl rfl ?_
            refine r_aload_n (pc := 40) C 0 dX3_allUnits_40 rfl rfl ?_
            refine r_getI (pc := 41) C f_X3_21 ((Dk_0 hd)) rfl dX3_allUnits_41 ?_
            refine r_t (hV.get at_loanTotal) ?_
            refine r_t (y := nI N) hN ?_
            refine r_cgeN (pc := 44) (tgt := 67) C dX3_allUnits_44 rfl (by omega) (by omega) (fun c_44 => ?_) (fun c_44 => ?_)
            · skip
              refine r_iload_n (pc := 67) C 2 dX3_allUnits_67 rfl rfl ?_
              exact r_iret (pc := 68) C dX3_allUnits_68 ⟨congrArg (fun z => some (Value.int z)) (sm_end c_44 hin2), rfl, rfl, rfl⟩ (by decide)
            · skip
              refine r_iload_n (pc := 47) C 2 dX3_allUnits_47 rfl rfl ?_
              refine r_aload_n (pc := 48) C 0 dX3_allUnits_48 rfl rfl ?_
              refine r_getR (pc := 49) (x := b + 5) C f_X3_60 ((Dk_0 hd)) rfl rfl dX3_allUnits_49 ?_
              refine r_iload_n (pc := 52) C 3 dX3_allUnits_52 rfl rfl ?_
              refine r_lald (pc := 53) (x := z) (p := pm z) C ((Dk_5 hd)) rfl (by omega) (hV.p (by omega)) (hV.l (by omega)) dX3_allUnits_53 ?_
              refine r_getR (pc := 54) (x := b + 5 + 17 + 2 * pm z + 1) C f_X3_186 ((Dk_l hd (hV.l (by omega)))) rfl rfl dX3_allUnits_54 ?_
              refine r_iload_n (pc := 57) C 1 dX3_allUnits_57 rfl rfl ?_
              refine r_iald (pc := 58) (x := m) C ((Dk_p hd (hV.l (by omega)))) rfl (by omega) (by decide) dX3_allUnits_58 ?_
              refine r_t (hV.get (at_pledged (by omega) (by omega))) ?_
              refine r_iadd (pc := 59) C dX3_allUnits_59 ?_
              refine r_istore_n (pc := 60) (lo' := [(2, _), (0, _), (1, _), (3, _)]) C dX3_allUnits_60 rfl (by decide) rfl ?_
              refine r_iincN (pc := 61) (m := 1) (lo' := [(3, _), (2, _), (0, _), (1, _)]) C 3 dX3_allUnits_61 rfl rfl (by decide) rfl ?_
              refine r_goto (pc := 64) (tgt := 39) C dX3_allUnits_64 rfl ?_
              refine r_ls [2, 3, 1, 0] rfl ?_
              exact ih_39 (z + 1) _ (by omega) (by omega) (sm_go c_44 hin2 rfl)
        refine r_ls [1, 2, 3, 0] rfl ?_
        exact loop_39 (N + 1) 0 _ (by omega) (by omega) rfl
      · skip
        refine r_iload_n (pc := 17) C 2 dX3_allUnits_17 rfl rfl ?_
        refine r_aload_n (pc := 18) C 0 dX3_allUnits_18 rfl rfl ?_
        refine r_getR (pc := 19) (x := b + 4) C f_X3_54 ((Dk_0 hd)) rfl rfl dX3_allUnits_19 ?_
        refine r_iload_n (pc := 22) C 3 dX3_allUnits_22 rfl rfl ?_
        refine r_aald (pc := 23) (x := q) (y := b + 10 + 2 * q) C ((Dk_4 hd)) (Or.inl rfl) rfl (by omega) (by decide) rfl dX3_allUnits_23 ?_
        refine r_getR (pc := 24) (x := b + 10 + 2 * q + 1) C f_X3_169 ((Dk_b hd (by omega))) rfl rfl dX3_allUnits_24 ?_
        refine r_iload_n (pc := 27) C 1 dX3_allUnits_27 rfl rfl ?_
        refine r_iald (pc := 28) (x := m) C ((Dk_g hd (by omega))) rfl (by omega) (by decide) dX3_allUnits_28 ?_
        refine r_t (hV.get (at_goods (by omega) (by omega))) ?_
        refine r_iadd (pc := 29) C dX3_allUnits_29 ?_
        refine r_istore_n (pc := 30) (lo' := [(2, _), (0, _), (1, _), (3, _)]) C dX3_allUnits_30 rfl (by decide) rfl ?_
        refine r_iincN (pc := 31) (m := 1) (lo' := [(3, _), (2, _), (0, _), (1, _)]) C 3 dX3_allUnits_31 rfl rfl (by decide) rfl ?_
        refine r_goto (pc := 34) (tgt := 9) C dX3_allUnits_34 rfl ?_
        refine r_ls [2, 3, 1, 0] rfl ?_
        exact ih_9 (q + 1) _ (by omega) (by omega) (sm_go c_14 hinv rfl)
  refine r_ls [2, 3, 1, 0] rfl ?_
  exact loop_9 (B + 1) 0 _ (by omega) (by omega) rfl

set_option maxHeartbeats 1000000 in
theorem c_X3_isInDefault {g : GG} {X : va_W} {T : TT} {I : II} {b : Nat} (hd : isDk T b) {w : Nat → Int32} {B N E : Nat} {pm : Nat → Nat} (hV : DV I b w B N E pm) {s : Nat} (hs : s < N) : Mc g yX3_isInDefault cX3_isInDefault 2 (some .boolean) 2 0 0 [.ref b, .ref (b + 5 + 17 + 2 * pm s)] X T I (Ex (some (.int (bI (failV w s)))) X T I) := by
  have hB6 := hV.hB
  have hN10 := hV.hN
  have hE20 := hV.hE
  refine Mc.of (by decide) (Nat.le_of_ble_eq_true rfl) (fun k hfl C => ?_)
  refine r_lo (lo' := [(0, _), (1, _)]) rfl ?_
  refine r_aload_n (pc := 0) C 0 dX3_isInDefault_0 rfl rfl ?_
  refine r_getI (pc := 1) C f_X3_9 ((Dk_0 hd)) rfl dX3_isInDefault_1 ?_
  refine r_t (hV.get at_today) ?_
  refine r_aload_n (pc := 4) C 1 dX3_isInDefault_4 rfl rfl ?_
  refine r_getI (pc := 5) C f_X3_243 ((Dk_l hd (hV.l (by omega)))) rfl dX3_isInDefault_5 ?_
  refine r_t (hV.get (at_loan (i := 5) hs (by decide))) ?_
  refine r_cgt (pc := 8) (tgt := 26) C dX3_isInDefault_8 rfl (fun c_8 => ?_) (fun c_8 => ?_)
  · skip
    refine r_iconst (pc := 26) (v := 1) C dX3_isInDefault_26 rfl ?_
    refine r_goto (pc := 27) (tgt := 31) C dX3_isInDefault_27 rfl ?_
    exact r_zret (pc := 31) C rfl dX3_isInDefault_31 ⟨congrArg (fun z => some (Value.int z)) (bI_t (Or.inl c_8)).symm, rfl, rfl, rfl⟩ (by decide)
  · skip
    refine r_aload_n (pc := 11) C 1 dX3_isInDefault_11 rfl rfl ?_
    refine r_cVi (pc := 12) C hfl k_X3_210 (c_X7_owed hd hV hs ) ((Dk_l hd (hV.l (by omega)))) ca_X7 rfl rfl (Nat.le_of_ble_eq_true rfl) (by decide) (by decide) dX3_isInDefault_12 ?_
    refine r_aload_n (pc := 15) C 0 dX3_isInDefault_15 rfl rfl ?_
    refine r_aload_n (pc := 16) C 1 dX3_isInDefault_16 rfl rfl ?_
    refine r_getR (pc := 17) (x := b + 5 + 17 + 2 * pm s + 1) C f_X3_186 ((Dk_l hd (hV.l (by omega)))) rfl rfl dX3_isInDefault_17 ?_
    refine r_cVi (pc := 20) C hfl k_X3_206 (c_X3_valueOf hd hV ((Dk_p hd (hV.l (by omega))))) ((Dk_0 hd)) ca_X3 rfl rfl (Nat.le_of_ble_eq_true rfl) (by decide) (by decide) dX3_isInDefault_20 ?_
    refine r_t (hV.val hs) ?_
    refine r_cle (pc := 23) (tgt := 30) C dX3_isInDefault_23 rfl (fun c_23 => ?_) (fun c_23 => ?_)
    · skip
      refine r_iconst (pc := 30) (v := 0) C dX3_isInDefault_30 rfl ?_
      exact r_zret (pc := 31) C rfl dX3_isInDefault_31 ⟨congrArg (fun z => some (Value.int z)) (bI_f (fun z => z.elim c_8 (Int32.not_lt.mpr c_23))).symm, rfl, rfl, rfl⟩ (by decide)
    · skip
      refine r_iconst (pc := 26) (v := 1) C dX3_isInDefault_26 rfl ?_
      refine r_goto (pc := 27) (tgt := 31) C dX3_isInDefault_27 rfl ?_
      exact r_zret (pc := 31) C rfl dX3_isInDefault_31 ⟨congrArg (fun z => some (Value.int z)) (bI_t (Or.inr (Int32.not_le.mp c_23))).symm, rfl, rfl, rfl⟩ (by decide)

set_option maxHeartbeats 1000000 in
theorem c_X3_mayPledgeForLoan {g : GG} {X : va_W} {T : TT} {I : II} {b : Nat} (hd : isDk T b) {w : Nat → Int32} {B N E : Nat} {pm : Nat → Nat} (hV : DV I b w B N E pm) {n m : Nat} {u : Int32} (hN : w 2 = nI N) (hn : n < B) (hm4 : m < 4) : Mc g yX3_mayPledgeForLoan cX3_mayPledgeForLoan 4 (some .boolean) 2 0 0 [.ref b, .ref (b + 10 + 2 * n), .int (nI m), .int u] X T I (Ex (some (.int (bI (N < 10 ∧ w (22 + 6 * n + 1) < nI 2 ∧ ¬ w (22 + 6 * n + (2 + m)) < u)))) X T I) := by
  have hB6 := hV.hB
  have hN10 := hV.hN
  have hE20 := hV.hE
  refine Mc.of (by decide) (Nat.le_of_ble_eq_true rfl) (fun k hfl C => ?_)
  refine r_lo (lo' := [(0, _), (1, _), (2, _), (3, _)]) rfl ?_
  refine r_aload_n (pc := 0) C 0 dX3_mayPledgeForLoan_0 rfl rfl ?_
  refine r_getI (pc := 1) C f_X3_21 ((Dk_0 hd)) rfl dX3_mayPledgeForLoan_1 ?_
  refine r_t (hV.get at_loanTotal) ?_
  refine r_t (y := nI N) hN ?_
  refine r_bipush (pc := 4) (v := 10) C dX3_mayPledgeForLoan_4 rfl ?_
  refine r_cgeN (pc := 6) (tgt := 30) C dX3_mayPledgeForLoan_6 rfl (by omega) (by omega) (fun c_6 => ?_) (fun c_6 => ?_)
  · skip
    refine r_iconst (pc := 30) (v := 0) C dX3_mayPledgeForLoan_30 rfl ?_
    exact r_zret (pc := 31) C rfl dX3_mayPledgeForLoan_31 ⟨congrArg (fun z => some (Value.int z)) (bI_f (fun z => absurd z.1 (by omega))).symm, rfl, rfl, rfl⟩ (by decide)
  · skip
    refine r_aload_n (pc := 9) C 1 dX3_mayPledgeForLoan_9 rfl rfl ?_
    refine r_cVi (pc := 10) C hfl k_X3_192 (c_X1_mayBorrow hd hV hn ) ((Dk_b hd (by omega))) ca_X1 rfl rfl (Nat.le_of_ble_eq_true rfl) (by decide) (by decide) dX3_mayPledgeForLoan_10 ?_
    refine r_ifeqB (pc := 13) (tgt := 30) C dX3_mayPledgeForLoan_13 rfl (fun c_13 => ?_) (fun c_13 => ?_)
    · skip
      refine r_iconst (pc := 30) (v := 0) C dX3_mayPledgeForLoan_30 rfl ?_
      exact r_zret (pc := 31) C rfl dX3_mayPledgeForLoan_31 ⟨congrArg (fun z => some (Value.int z)) (bI_f (fun z => c_13 z.2.1)).symm, rfl, rfl, rfl⟩ (by decide)
    · skip
      refine r_aload_n (pc := 16) C 1 dX3_mayPledgeForLoan_16 rfl rfl ?_
      refine r_getR (pc := 17) (x := b + 10 + 2 * n + 1) C f_X3_169 ((Dk_b hd (by omega))) rfl rfl dX3_mayPledgeForLoan_17 ?_
      refine r_iload_n (pc := 20) C 2 dX3_mayPledgeForLoan_20 rfl rfl ?_
      refine r_iald (pc := 21) (x := m) C ((Dk_g hd (by omega))) rfl (by omega) (by decide) dX3_mayPledgeForLoan_21 ?_
      refine r_t (hV.get (at_goods hn (by omega))) ?_
      refine r_iload_n (pc := 22) C 3 dX3_mayPledgeForLoan_22 rfl rfl ?_
      refine r_clt (pc := 23) (tgt := 30) C dX3_mayPledgeForLoan_23 rfl (fun c_23 => ?_) (fun c_23 => ?_)
      · skip
        refine r_iconst (pc := 30) (v := 0) C dX3_mayPledgeForLoan_30 rfl ?_
        exact r_zret (pc := 31) C rfl dX3_mayPledgeForLoan_31 ⟨congrArg (fun z => some (Value.int z)) (bI_f (fun z => z.2.2 c_23)).symm, rfl, rfl, rfl⟩ (by decide)
      · skip
        refine r_iconst (pc := 26) (v := 1) C dX3_mayPledgeForLoan_26 rfl ?_
        refine r_goto (pc := 27) (tgt := 31) C dX3_mayPledgeForLoan_27 rfl ?_
        exact r_zret (pc := 31) C rfl dX3_mayPledgeForLoan_31 ⟨congrArg (fun z => some (Value.int z)) (bI_t ⟨by omega, c_13, c_23⟩).symm, rfl, rfl, rfl⟩ (by decide)

set_option maxHeartbeats 1000000 in
theorem c_X3_daysLeft {g : GG} {X : va_W} {T : TT} {I : II} {b : Nat} (hd : isDk T b) {w : Nat → Int32} {B N E : Nat} {pm : Nat → Nat} (hV : DV I b w B N E pm) {s : Nat} (hs : s < N) : Mc g yX3_daysLeft cX3_daysLeft 5 (some .int) 3 0 0 [.ref b, .ref (b + 5 + 17 + 2 * pm s)] X T I (Ex (some (.int (dlV w s))) X T I) := by
  have hB6 := hV.hB
  have hN10 := hV.hN
  have hE20 := hV.hE
  refine Mc.of (by decide) (Nat.le_of_ble_eq_true rfl) (fun k hfl C => ?_)
  refine r_lo (lo' := [(0, _), (1, _)]) rfl ?_
  refine r_aload_n (pc := 0) C 1 dX3_daysLeft_0 rfl rfl ?_
  refine r_getI (pc := 1) C f_X3_243 ((Dk_l hd (hV.l (by omega)))) rfl dX3_daysLeft_1 ?_
  refine r_t (hV.get (at_loan (i := 5) hs (by decide))) ?_
  refine r_aload_n (pc := 4) C 0 dX3_daysLeft_4 rfl rfl ?_
  refine r_getI (pc := 5) C f_X3_9 ((Dk_0 hd)) rfl dX3_daysLeft_5 ?_
  refine r_t (hV.get at_today) ?_
  refine r_isub (pc := 8) C dX3_daysLeft_8 ?_
  refine r_iconst (pc := 9) (v := 1) C dX3_daysLeft_9 rfl ?_
  refine r_iadd (pc := 10) C dX3_daysLeft_10 ?_
  refine r_istore_n (pc := 11) (lo' := [(2, _), (0, _), (1, _)]) C dX3_daysLeft_11 rfl (by decide) rfl ?_
  refine r_aload_n (pc := 12) C 1 dX3_daysLeft_12 rfl rfl ?_
  refine r_aload_n (pc := 13) C 2 dX3_daysLeft_13 rfl rfl ?_
  refine r_getR (pc := 14) (x := b + 5 + 17 + 2 * pm s + 1) C f_X3_186 ((Dk_l hd (hV.l (by omega)))) rfl rfl dX3_daysLeft_14 ?_
  refine r_cVi (pc := 17) C hfl k_X3_206 (c_X3_valueOf hd hV ((Dk_p hd (hV.l (by omega))))) ((Dk_0 hd)) ca_X3 rfl rfl (Nat.le_of_ble_eq_true rfl) (by decide) (by decide) dX3_daysLeft_17 ?_
  refine r_t (hV.val hs) ?_
  refine r_aload_n (pc := 20) C 2 dX3_daysLeft_20 rfl rfl ?_
  refine r_cVi (pc := 21) C hfl k_X3_210 (c_X7_owed hd hV hs ) ((Dk_l hd (hV.l (by omega)))) ca_X7 rfl rfl (Nat.le_of_ble_eq_true rfl) (by decide) (by decide) dX3_daysLeft_21 ?_
  refine r_isub (pc := 24) C dX3_daysLeft_24 ?_
  refine r_istore_n (pc := 25) (lo' := [(3, _), (2, _), (0, _), (1, _)]) C dX3_daysLeft_25 rfl (by decide) rfl ?_
  refine r_aload_n (pc := 26) C 3 dX3_daysLeft_26 rfl rfl ?_
  refine r_cVi (pc := 27) C hfl k_X3_233 (c_X7_dailyInterest hd hV hs ) ((Dk_l hd (hV.l (by omega)))) ca_X7 rfl rfl (Nat.le_of_ble_eq_true rfl) (by decide) (by decide) dX3_daysLeft_27 ?_
  refine r_istore (pc := 30) (lo' := [(4, _), (3, _), (2, _), (0, _), (1, _)]) C dX3_daysLeft_30 (by decide) rfl ?_
  refine r_iload_n (pc := 32) C 1 dX3_daysLeft_32 rfl rfl ?_
  refine r_ifge (pc := 33) (tgt := 38) C dX3_daysLeft_33 rfl (fun c_33 => ?_) (fun c_33 => ?_)
  · skip
    refine r_iload (pc := 38) C 0 dX3_daysLeft_38 rfl ?_
    refine r_ifgt (pc := 40) (tgt := 47) C dX3_daysLeft_40 rfl (fun c_40 => ?_) (fun c_40 => ?_)
    · skip
      refine r_iload_n (pc := 47) C 2 dX3_daysLeft_47 rfl rfl ?_
      refine r_iload_n (pc := 48) C 1 dX3_daysLeft_48 rfl rfl ?_
      refine r_iload (pc := 49) C 0 dX3_daysLeft_49 rfl ?_
      refine r_idiv (pc := 51) C dX3_daysLeft_51 (fun z => by rw [z] at c_40; exact absurd c_40 (by decide)) ?_
      refine r_iconst (pc := 52) (v := 1) C dX3_daysLeft_52 rfl ?_
      refine r_iadd (pc := 53) C dX3_daysLeft_53 ?_
      refine r_min (pc := 54) C k_X3_250 (by decide) (by decide) dX3_daysLeft_54 ?_
      exact r_iret (pc := 57) C dX3_daysLeft_57 ⟨congrArg (fun z => some (Value.int z)) (by rw [dlV, if_neg (Int32.not_lt.mpr c_33), if_pos c_40]), rfl, rfl, rfl⟩ (by decide)
    · skip
      refine r_iload_n (pc := 43) C 2 dX3_daysLeft_43 rfl rfl ?_
      refine r_goto (pc := 44) (tgt := 57) C dX3_daysLeft_44 rfl ?_
      exact r_iret (pc := 57) C dX3_daysLeft_57 ⟨congrArg (fun z => some (Value.int z)) (by rw [dlV, if_neg (Int32.not_lt.mpr c_33), if_neg c_40]), rfl, rfl, rfl⟩ (by decide)
  · skip
    refine r_iconst (pc := 36) (v := 1) C dX3_daysLeft_36 rfl ?_
    exact r_iret (pc := 37) C dX3_daysLeft_37 ⟨congrArg (fun z => some (Value.int z)) (by rw [dlV, if_pos (Int32.not_le.mp c_33)]), rfl, rfl, rfl⟩ (by decide)

set_option maxHeartbeats 1000000 in
theorem c_X3_firstToDefault__v {g : GG} {X : va_W} {T : TT} {I : II} {b : Nat} (hd : isDk T b) {w : Nat → Int32} {B N E : Nat} {pm : Nat → Nat} (hV : DV I b w B N E pm) (hN : w 2 = nI N) (h0 : 0 < N) : Mc g yX3_firstToDefault cX3_firstToDefault 3 (some (.object "LendingDesk$Loan")) 4 0 0 [.ref b] X T I (Ex (some (.ref (b + 5 + 17 + 2 * pm (bsI w (N - 1) 1 0)))) X T I) := by
  have hB6 := hV.hB
  have hN10 := hV.hN
  have hE20 := hV.hE
  refine Mc.of (by decide) (Nat.le_of_ble_eq_true rfl) (fun k hfl C => ?_)
  refine r_lo (lo' := [(0, _)]) rfl ?_
  refine r_null (pc := 0) C dX3_firstToDefault_0 ?_
  refine r_astore_nN (pc := 1) (lo' := [(1, _), (0, _)]) C dX3_firstToDefault_1 rfl (by decide) rfl ?_
  refine r_iconst (pc := 2) (v := 0) C dX3_firstToDefault_2 rfl ?_
  refine r_istore_n (pc := 3) (lo' := [(2, _), (1, _), (0, _)]) C dX3_firstToDefault_3 rfl (by decide) rfl ?_
  refine r_iload_n (pc := 4) C 0 dX3_firstToDefault_4 rfl rfl ?_
  refine r_aload_n (pc := 5) C 2 dX3_firstToDefault_5 rfl rfl ?_
  refine r_getI (pc := 6) C f_X3_21 ((Dk_0 hd)) rfl dX3_firstToDefault_6 ?_
  refine r_t (hV.get at_loanTotal) ?_
  refine r_t (y := nI N) hN ?_
  refine r_cgeN (pc := 9) (tgt := 47) C dX3_firstToDefault_9 rfl (by omega) (by omega) (fun c_9 => False.elim (by omega)) (fun c_9 => ?_)
  refine r_aload_nN (pc := 12) C 1 dX3_firstToDefault_12 rfl rfl ?_
  refine r_ifnullN (pc := 13) (tgt := 34) C dX3_firstToDefault_13 rfl ?_
  refine r_aload_n (pc := 34) C 2 dX3_firstToDefault_34 rfl rfl ?_
  refine r_getR (pc := 35) (x := b + 5) C f_X3_60 ((Dk_0 hd)) rfl rfl dX3_firstToDefault_35 ?_
  refine r_iload_n (pc := 38) C 0 dX3_firstToDefault_38 rfl rfl ?_
  refine r_lald (pc := 39) (x := 0) (p := pm 0) C ((Dk_5 hd)) rfl (by omega) (hV.p (by omega)) (hV.l (by omega)) dX3_firstToDefault_39 ?_
  refine r_astore_n (pc := 40) (lo' := [(1, _), (2, _), (0, _)]) C dX3_firstToDefault_40 rfl (by decide) rfl ?_
  refine r_iincN (pc := 41) (m := 1) (lo' := [(2, _), (1, _), (0, _)]) C 1 dX3_firstToDefault_41 rfl rfl (by decide) rfl ?_
  refine r_goto (pc := 44) (tgt := 4) C dX3_firstToDefault_44 rfl ?_
  have loop_4 : ∀ (n_4 : Nat) (q z : Nat), N - q < n_4 → (1 ≤ q) → (q ≤ N) → (z < N) → (bsI w (N - q) q z = bsI w (N - 1) 1 0) → Go g k 3 (Qm g k (Ex (some (.ref (b + 5 + 17 + 2 * pm (bsI w (N - 1) 1 0)))) X T I) 0 0) 0 0 4 [(0, .ref b), (1, .ref (b + 5 + 17 + 2 * pm z)), (2, .int (nI q))] [] X T I := by
    intro n_4
    induction n_4 with
    | zero => intro _ _ h_; exact absurd h_ (Nat.not_lt_zero _)
    | succ n_4 ih_4 =>
      intro q z hq h1q hqN hzN hinv
      refine r_iload_n (pc := 4) C 2 dX3_firstToDefault_4 rfl rfl ?_
      refine r_aload_n (pc := 5) C 0 dX3_firstToDefault_5 rfl rfl ?_
      refine r_getI (pc := 6) C f_X3_21 ((Dk_0 hd)) rfl dX3_firstToDefault_6 ?_
      refine r_t (hV.get at_loanTotal) ?_
      refine r_t (y := nI N) hN ?_
      refine r_cgeN (pc := 9) (tgt := 47) C dX3_firstToDefault_9 rfl (by omega) (by omega) (fun c_9 => ?_) (fun c_9 => ?_)
      · skip
        refine r_aload_n (pc := 47) C 1 dX3_firstToDefault_47 rfl rfl ?_
        exact r_aret (pc := 48) C (Or.inl ⟨_, rfl⟩) (Or.inr ⟨_, rfl⟩) dX3_firstToDefault_48 ⟨by rw [← hinv, bsI_end c_9], rfl, rfl, rfl⟩ (by decide)
      · skip
        refine r_aload_n (pc := 12) C 1 dX3_firstToDefault_12 rfl rfl ?_
        refine r_ifnullR (pc := 13) C dX3_firstToDefault_13 ?_
        refine r_aload_n (pc := 16) C 0 dX3_firstToDefault_16 rfl rfl ?_
        refine r_aload_n (pc := 17) C 0 dX3_firstToDefault_17 rfl rfl ?_
        refine r_getR (pc := 18) (x := b + 5) C f_X3_60 ((Dk_0 hd)) rfl rfl dX3_firstToDefault_18 ?_
        refine r_iload_n (pc := 21) C 2 dX3_firstToDefault_21 rfl rfl ?_
        refine r_lald (pc := 22) (x := q) (p := pm q) C ((Dk_5 hd)) rfl (by omega) (hV.p (by omega)) (hV.l (by omega)) dX3_firstToDefault_22 ?_
        refine r_cVi (pc := 23) C hfl k_X3_261 (c_X3_daysLeft hd hV (by omega)) ((Dk_0 hd)) ca_X3 rfl rfl (Nat.le_of_ble_eq_true rfl) (by decide) (by decide) dX3_firstToDefault_23 ?_
        refine r_aload_n (pc := 26) C 0 dX3_firstToDefault_26 rfl rfl ?_
        refine r_aload_n (pc := 27) C 1 dX3_firstToDefault_27 rfl rfl ?_
        refine r_cVi (pc := 28) C hfl k_X3_261 (c_X3_daysLeft hd hV hzN) ((Dk_0 hd)) ca_X3 rfl rfl (Nat.le_of_ble_eq_true rfl) (by decide) (by decide) dX3_firstToDefault_28 ?_
        refine r_cge (pc := 31) (tgt := 41) C dX3_firstToDefault_31 rfl (fun c_31 => ?_) (fun c_31 => ?_)
        · skip
          refine r_iincN (pc := 41) (m := 1) (lo' := [(2, _), (0, _), (1, _)]) C 2 dX3_firstToDefault_41 rfl rfl (by decide) rfl ?_
          refine r_goto (pc := 44) (tgt := 4) C dX3_firstToDefault_44 rfl ?_
          refine r_ls [1, 2, 0] rfl ?_
          exact ih_4 (q + 1) _ (by omega) (by omega) (by omega) (by omega) (by rw [← hinv]; exact (bsI_go c_9 (if_neg (Int32.not_lt.mpr c_31))).symm)
        · skip
          refine r_aload_n (pc := 34) C 0 dX3_firstToDefault_34 rfl rfl ?_
          refine r_getR (pc := 35) (x := b + 5) C f_X3_60 ((Dk_0 hd)) rfl rfl dX3_firstToDefault_35 ?_
          refine r_iload_n (pc := 38) C 2 dX3_firstToDefault_38 rfl rfl ?_
          refine r_lald (pc := 39) (x := q) (p := pm q) C ((Dk_5 hd)) rfl (by omega) (hV.p (by omega)) (hV.l (by omega)) dX3_firstToDefault_39 ?_
          refine r_astore_n (pc := 40) (lo' := [(1, _), (0, _), (2, _)]) C dX3_firstToDefault_40 rfl (by decide) rfl ?_
          refine r_iincN (pc := 41) (m := 1) (lo' := [(2, _), (1, _), (0, _)]) C 2 dX3_firstToDefault_41 rfl rfl (by decide) rfl ?_
          refine r_goto (pc := 44) (tgt := 4) C dX3_firstToDefault_44 rfl ?_
          refine r_ls [2, 1, 0] rfl ?_
          exact ih_4 (q + 1) _ (by omega) (by omega) (by omega) (by omega) (by rw [← hinv]; exact (bsI_go c_9 (if_pos (Int32.not_le.mp c_31))).symm)
  refine r_ls [2, 1, 0] rfl ?_
  exact loop_4 (N + 1) 1 0 (by omega) (by omega) (by omega) (by omega) rfl

set_option maxHeartbeats 1000000 in
theorem c_X3_firstToDefault__x {g : GG} {X : va_W} {T : TT} {I : II} {b : Nat} (hd : isDk T b) {w : Nat → Int32} {B N E : Nat} {pm : Nat → Nat} (hV : DV I b w B N E pm) (hN : w 2 = nI 0) : Mc g yX3_firstToDefault cX3_firstToDefault 3 (some (.object "LendingDesk$Loan")) 4 0 0 [.ref b] X T I (Ex (some .null) X T I) := by
  have hB6 := hV.hB
  have hN10 := hV.hN
  have hE20 := hV.hE
  refine Mc.of (by decide) (Nat.le_of_ble_eq_true rfl) (fun k hfl C => ?_)
  refine r_lo (lo' := [(0, _)]) rfl ?_
  refine r_null (pc := 0) C dX3_firstToDefault_0 ?_
  refine r_astore_nN (pc := 1) (lo' := [(1, _), (0, _)]) C dX3_firstToDefault_1 rfl (by decide) rfl ?_
  refine r_iconst (pc := 2) (v := 0) C dX3_firstToDefault_2 rfl ?_
  refine r_istore_n (pc := 3) (lo' := [(2, _), (1, _), (0, _)]) C dX3_firstToDefault_3 rfl (by decide) rfl ?_
  refine r_iload_n (pc := 4) C 0 dX3_firstToDefault_4 rfl rfl ?_
  refine r_aload_n (pc := 5) C 2 dX3_firstToDefault_5 rfl rfl ?_
  refine r_getI (pc := 6) C f_X3_21 ((Dk_0 hd)) rfl dX3_firstToDefault_6 ?_
  refine r_t (hV.get at_loanTotal) ?_
  refine r_t (y := nI 0) hN ?_
  refine r_cgeN (pc := 9) (tgt := 47) C dX3_firstToDefault_9 rfl (by omega) (by omega) (fun c_9 => ?_) (fun c_9 => False.elim (by omega))
  refine r_aload_nN (pc := 47) C 1 dX3_firstToDefault_47 rfl rfl ?_
  exact r_aret (pc := 48) C (Or.inl ⟨_, rfl⟩) (Or.inl rfl) dX3_firstToDefault_48 ⟨rfl, rfl, rfl, rfl⟩ (by decide)

set_option maxHeartbeats 1000000 in
theorem c_X3_loansBefore {g : GG} {X : va_W} {T : TT} {I : II} {b : Nat} (hd : isDk T b) {w : Nat → Int32} {B N E : Nat} {pm : Nat → Nat} (hV : DV I b w B N E pm) {s : Nat} (hN : w 2 = nI N) (hs : s < N) : Mc g yX3_loansBefore cX3_loansBefore 4 (some .int) 3 0 0 [.ref b, .ref (b + 5 + 17 + 2 * pm s)] X T I (Ex (some (.int (cbN w N s))) X T I) := by
  have hB6 := hV.hB
  have hN10 := hV.hN
  have hE20 := hV.hE
  refine Mc.of (by decide) (Nat.le_of_ble_eq_true rfl) (fun k hfl C => ?_)
  refine r_lo (lo' := [(0, _), (1, _)]) rfl ?_
  refine r_iconst (pc := 0) (v := 0) C dX3_loansBefore_0 rfl ?_
  refine r_istore_n (pc := 1) (lo' := [(2, _), (0, _), (1, _)]) C dX3_loansBefore_1 rfl (by decide) rfl ?_
  refine r_iconst (pc := 2) (v := 0) C dX3_loansBefore_2 rfl ?_
  refine r_istore_n (pc := 3) (lo' := [(3, _), (2, _), (0, _), (1, _)]) C dX3_loansBefore_3 rfl (by decide) rfl ?_
  have loop_4 : ∀ (n_4 : Nat) (q : Nat) (a : Int32), N - q < n_4 → (q ≤ N) → (sm (fun r => bI (cbB w r s = true)) (N - q) q a = cbN w N s) → Go g k 4 (Qm g k (Ex (some (.int (cbN w N s))) X T I) 0 0) 0 0 4 [(0, .ref b), (1, .ref (b + 5 + 17 + 2 * pm s)), (2, .int a), (3, .int (nI q))] [] X T I := by
    intro n_4
    induction n_4 with
    | zero => intro _ _ h_; exact absurd h_ (Nat.not_lt_zero _)
    | succ n_4 ih_4 =>
      intro q a hq hqN hinv
      refine r_iload_n (pc := 4) C 3 dX3_loansBefore_4 rfl rfl ?_
      refine r_aload_n (pc := 5) C 0 dX3_loansBefore_5 rfl rfl ?_
      refine r_getI (pc := 6) C f_X3_21 ((Dk_0 hd)) rfl dX3_loansBefore_6 ?_
      refine r_t (hV.get at_loanTotal) ?_
      refine r_t (y := nI N) hN ?_
      refine r_cgeN (pc := 9) (tgt := 34) C dX3_loansBefore_9 rfl (by omega) (by omega) (fun c_9 => ?_) (fun c_9 => ?_)
      · skip
        refine r_iload_n (pc := 34) C 2 dX3_loansBefore_34 rfl rfl ?_
        exact r_iret (pc := 35) C dX3_loansBefore_35 ⟨congrArg (fun z => some (Value.int z)) (sm_end c_9 hinv), rfl, rfl, rfl⟩ (by decide)
      · skip
        refine r_aload_n (pc := 12) C 0 dX3_loansBefore_12 rfl rfl ?_
        refine r_getR (pc := 13) (x := b + 5) C f_X3_60 ((Dk_0 hd)) rfl rfl dX3_loansBefore_13 ?_
        refine r_iload_n (pc := 16) C 3 dX3_loansBefore_16 rfl rfl ?_
        refine r_lald (pc := 17) (x := q) (p := pm q) C ((Dk_5 hd)) rfl (by omega) (hV.p (by omega)) (hV.l (by omega)) dX3_loansBefore_17 ?_
        refine r_aload_n (pc := 18) C 1 dX3_loansBefore_18 rfl rfl ?_
        refine r_cVi (pc := 19) C hfl k_X3_268 (c_X7_comesBefore hd hV (by omega) hs) ((Dk_l hd (hV.l (by omega)))) ca_X7 rfl rfl (Nat.le_of_ble_eq_true rfl) (by decide) (by decide) dX3_loansBefore_19 ?_
        refine r_ifeqB (pc := 22) (tgt := 28) C dX3_loansBefore_22 rfl (fun c_22 => ?_) (fun c_22 => ?_)
        · skip
          refine r_iincN (pc := 28) (m := 1) (lo' := [(3, _), (0, _), (1, _), (2, _)]) C 3 dX3_loansBefore_28 rfl rfl (by decide) rfl ?_
          refine r_goto (pc := 31) (tgt := 4) C dX3_loansBefore_31 rfl ?_
          refine r_ls [1, 2, 3, 0] rfl ?_
          exact ih_4 (q + 1) _ (by omega) (by omega) (sm_go0 c_9 hinv (bI_f c_22))
        · skip
          refine r_iinc (pc := 25) (lo' := [(2, _), (0, _), (1, _), (3, _)]) C 2 dX3_loansBefore_25 rfl rfl (by decide) rfl ?_
          refine r_iincN (pc := 28) (m := 1) (lo' := [(3, _), (2, _), (0, _), (1, _)]) C 3 dX3_loansBefore_28 rfl rfl (by decide) rfl ?_
          refine r_goto (pc := 31) (tgt := 4) C dX3_loansBefore_31 rfl ?_
          refine r_ls [2, 3, 1, 0] rfl ?_
          exact ih_4 (q + 1) _ (by omega) (by omega) (sm_go1 c_9 hinv (bI_t c_22))
  refine r_ls [2, 3, 1, 0] rfl ?_
  exact loop_4 (N + 1) 0 (nI 0) (by omega) (by omega) rfl

set_option maxHeartbeats 1000000 in
theorem c_X3_loanOfRank__v {g : GG} {X : va_W} {T : TT} {I : II} {b : Nat} (hd : isDk T b) {w : Nat → Int32} {B N E : Nat} {pm : Nat → Nat} (hV : DV I b w B N E pm) {x : Int32} {j : Nat} (hN : w 2 = nI N) (hj : j < N) (hx : cbN w N j = x) (hno : ∀ i, i < j → cbN w N i ≠ x) : Mc g yX3_loanOfRank cX3_loanOfRank 3 (some (.object "LendingDesk$Loan")) 4 0 0 [.ref b, .int x] X T I (Ex (some (.ref (b + 5 + 17 + 2 * pm j))) X T I) := by
  have hB6 := hV.hB
  have hN10 := hV.hN
  have hE20 := hV.hE
  refine Mc.of (by decide) (Nat.le_of_ble_eq_true rfl) (fun k hfl C => ?_)
  refine r_lo (lo' := [(0, _), (1, _)]) rfl ?_
  refine r_iconst (pc := 0) (v := 0) C dX3_loanOfRank_0 rfl ?_
  refine r_istore_n (pc := 1) (lo' := [(2, _), (0, _), (1, _)]) C dX3_loanOfRank_1 rfl (by decide) rfl ?_
  have loop_2 : ∀ (n_2 : Nat) (q : Nat), N - q < n_2 → (q ≤ N) → (∀ i, i < q → cbN w N i ≠ x) → Go g k 3 (Qm g k (Ex (some (.ref (b + 5 + 17 + 2 * pm j))) X T I) 0 0) 0 0 2 [(0, .ref b), (1, .int x), (2, .int (nI q))] [] X T I := by
    intro n_2
    induction n_2 with
    | zero => intro _ h_; exact absurd h_ (Nat.not_lt_zero _)
    | succ n_2 ih_2 =>
      intro q hq hqN hinv
      refine r_iload_n (pc := 2) C 2 dX3_loanOfRank_2 rfl rfl ?_
      refine r_aload_n (pc := 3) C 0 dX3_loanOfRank_3 rfl rfl ?_
      refine r_getI (pc := 4) C f_X3_21 ((Dk_0 hd)) rfl dX3_loanOfRank_4 ?_
      refine r_t (hV.get at_loanTotal) ?_
      refine r_t (y := nI N) hN ?_
      refine r_cgeN (pc := 7) (tgt := 37) C dX3_loanOfRank_7 rfl (by omega) (by omega) (fun c_7 => False.elim (by exact hinv j (by omega) hx)) (fun c_7 => ?_)
      refine r_aload_n (pc := 10) C 0 dX3_loanOfRank_10 rfl rfl ?_
      refine r_aload_n (pc := 11) C 0 dX3_loanOfRank_11 rfl rfl ?_
      refine r_getR (pc := 12) (x := b + 5) C f_X3_60 ((Dk_0 hd)) rfl rfl dX3_loanOfRank_12 ?_
      refine r_iload_n (pc := 15) C 2 dX3_loanOfRank_15 rfl rfl ?_
      refine r_lald (pc := 16) (x := q) (p := pm q) C ((Dk_5 hd)) rfl (by omega) (hV.p (by omega)) (hV.l (by omega)) dX3_loanOfRank_16 ?_
      refine r_cVi (pc := 17) C hfl k_X3_265 (c_X3_loansBefore hd hV hN c_7) ((Dk_0 hd)) ca_X3 rfl rfl (Nat.le_of_ble_eq_true rfl) (by decide) (by decide) dX3_loanOfRank_17 ?_
      refine r_iload_n (pc := 20) C 1 dX3_loanOfRank_20 rfl rfl ?_
      refine r_cne (pc := 21) (tgt := 31) C dX3_loanOfRank_21 rfl (fun c_21 => ?_) (fun c_21 => ?_)
      · skip
        refine r_iincN (pc := 31) (m := 1) (lo' := [(2, _), (0, _), (1, _)]) C 2 dX3_loanOfRank_31 rfl rfl (by decide) rfl ?_
        refine r_goto (pc := 34) (tgt := 2) C dX3_loanOfRank_34 rfl ?_
        refine r_ls [1, 2, 0] rfl ?_
        exact ih_2 (q + 1) (by omega) (by omega) (lt_s hinv c_21)
      · skip
        refine r_aload_n (pc := 24) C 0 dX3_loanOfRank_24 rfl rfl ?_
        refine r_getR (pc := 25) (x := b + 5) C f_X3_60 ((Dk_0 hd)) rfl rfl dX3_loanOfRank_25 ?_
        refine r_iload_n (pc := 28) C 2 dX3_loanOfRank_28 rfl rfl ?_
        refine r_lald (pc := 29) (x := q) (p := pm q) C ((Dk_5 hd)) rfl (by omega) (hV.p (by omega)) (hV.l (by omega)) dX3_loanOfRank_29 ?_
        exact r_aret (pc := 30) C (Or.inl ⟨_, rfl⟩) (Or.inr ⟨_, rfl⟩) dX3_loanOfRank_30 ⟨by rw [show q = j from (by rcases Nat.lt_trichotomy j q with h | h | h; exact absurd hx (hinv j h); exact h.symm; exact absurd c_21 (hno q h))], rfl, rfl, rfl⟩ (by decide)
  refine r_ls [1, 2, 0] rfl ?_
  exact loop_2 (N + 1) 0 (by omega) (by omega) (fun _ h => absurd h (by omega))

set_option maxHeartbeats 1000000 in
theorem c_X3_loanOfRank__x {g : GG} {X : va_W} {T : TT} {I : II} {b : Nat} (hd : isDk T b) {w : Nat → Int32} {B N E : Nat} {pm : Nat → Nat} (hV : DV I b w B N E pm) {x : Int32} (hN : w 2 = nI N) (hno : ∀ i, i < N → cbN w N i ≠ x) : Mc g yX3_loanOfRank cX3_loanOfRank 3 (some (.object "LendingDesk$Loan")) 4 0 0 [.ref b, .int x] X T I (Ex (some .null) X T I) := by
  have hB6 := hV.hB
  have hN10 := hV.hN
  have hE20 := hV.hE
  refine Mc.of (by decide) (Nat.le_of_ble_eq_true rfl) (fun k hfl C => ?_)
  refine r_lo (lo' := [(0, _), (1, _)]) rfl ?_
  refine r_iconst (pc := 0) (v := 0) C dX3_loanOfRank_0 rfl ?_
  refine r_istore_n (pc := 1) (lo' := [(2, _), (0, _), (1, _)]) C dX3_loanOfRank_1 rfl (by decide) rfl ?_
  have loop_2 : ∀ (n_2 : Nat) (q : Nat), N - q < n_2 → (q ≤ N) → (∀ i, i < q → cbN w N i ≠ x) → Go g k 3 (Qm g k (Ex (some .null) X T I) 0 0) 0 0 2 [(0, .ref b), (1, .int x), (2, .int (nI q))] [] X T I := by
    intro n_2
    induction n_2 with
    | zero => intro _ h_; exact absurd h_ (Nat.not_lt_zero _)
    | succ n_2 ih_2 =>
      intro q hq hqN hinv
      refine r_iload_n (pc := 2) C 2 dX3_loanOfRank_2 rfl rfl ?_
      refine r_aload_n (pc := 3) C 0 dX3_loanOfRank_3 rfl rfl ?_
      refine r_getI (pc := 4) C f_X3_21 ((Dk_0 hd)) rfl dX3_loanOfRank_4 ?_
      refine r_t (hV.get at_loanTotal) ?_
      refine r_t (y := nI N) hN ?_
      refine r_cgeN (pc := 7) (tgt := 37) C dX3_loanOfRank_7 rfl (by omega) (by omega) (fun c_7 => ?_) (fun c_7 => ?_)
      · skip
        refine r_null (pc := 37) C dX3_loanOfRank_37 ?_
        exact r_aret (pc := 38) C (Or.inl ⟨_, rfl⟩) (Or.inl rfl) dX3_loanOfRank_38 ⟨rfl, rfl, rfl, rfl⟩ (by decide)
      · skip
        refine r_aload_n (pc := 10) C 0 dX3_loanOfRank_10 rfl rfl ?_
        refine r_aload_n (pc := 11) C 0 dX3_loanOfRank_11 rfl rfl ?_
        refine r_getR (pc := 12) (x := b + 5) C f_X3_60 ((Dk_0 hd)) rfl rfl dX3_loanOfRank_12 ?_
        refine r_iload_n (pc := 15) C 2 dX3_loanOfRank_15 rfl rfl ?_
        refine r_lald (pc := 16) (x := q) (p := pm q) C ((Dk_5 hd)) rfl (by omega) (hV.p (by omega)) (hV.l (by omega)) dX3_loanOfRank_16 ?_
        refine r_cVi (pc := 17) C hfl k_X3_265 (c_X3_loansBefore hd hV hN c_7) ((Dk_0 hd)) ca_X3 rfl rfl (Nat.le_of_ble_eq_true rfl) (by decide) (by decide) dX3_loanOfRank_17 ?_
        refine r_iload_n (pc := 20) C 1 dX3_loanOfRank_20 rfl rfl ?_
        refine r_cne (pc := 21) (tgt := 31) C dX3_loanOfRank_21 rfl (fun c_21 => ?_) (fun c_21 => False.elim (by exact hno q (by omega) c_21))
        refine r_iincN (pc := 31) (m := 1) (lo' := [(2, _), (0, _), (1, _)]) C 2 dX3_loanOfRank_31 rfl rfl (by decide) rfl ?_
        refine r_goto (pc := 34) (tgt := 2) C dX3_loanOfRank_34 rfl ?_
        refine r_ls [1, 2, 0] rfl ?_
        exact ih_2 (q + 1) (by omega) (by omega) (lt_s hinv c_21)
  refine r_ls [1, 2, 0] rfl ?_
  exact loop_2 (N + 1) 0 (by omega) (by omega) (fun _ h => absurd h (by omega))

set_option maxHeartbeats 1000000 in
theorem c_X6_positionOf {g : GG} {X : va_W} {T : TT} {I : II} {b : Nat} (hd : isDk T b) {w : Nat → Int32} {B N E : Nat} {pm : Nat → Nat} (hV : DV I b w B N E pm) {dy id r : Int32} (hE : w 5 = nI E) (hr : atE w E dy id r) : Mc g yX6_positionOf cX6_positionOf 4 (some .int) 1 0 0 [.ref (b + 6), .int dy, .int id] X T I (Ex (some (.int r)) X T I) := by
  have hB6 := hV.hB
  have hN10 := hV.hN
  have hE20 := hV.hE
  refine Mc.of (by decide) (Nat.le_of_ble_eq_true rfl) (fun k hfl C => ?_)
  refine r_lo (lo' := [(0, _), (1, _), (2, _)]) rfl ?_
  refine r_iconst (pc := 0) (v := 0) C dX6_positionOf_0 rfl ?_
  refine r_istore_n (pc := 1) (lo' := [(3, _), (0, _), (1, _), (2, _)]) C dX6_positionOf_1 rfl (by decide) rfl ?_
  have loop_2 : ∀ (n_2 : Nat) (q : Nat), E - q < n_2 → (q ≤ E) → (∀ i, i < q → ¬ (w (158 + 3 * i + 0) = dy ∧ w (158 + 3 * i + 1) = id)) → Go g k 4 (Qm g k (Ex (some (.int r)) X T I) 0 0) 0 0 2 [(0, .ref (b + 6)), (1, .int dy), (2, .int id), (3, .int (nI q))] [] X T I := by
    intro n_2
    induction n_2 with
    | zero => intro _ h_; exact absurd h_ (Nat.not_lt_zero _)
    | succ n_2 ih_2 =>
      intro q hq hqN hinv
      refine r_iload_n (pc := 2) C 3 dX6_positionOf_2 rfl rfl ?_
      refine r_aload_n (pc := 3) C 0 dX6_positionOf_3 rfl rfl ?_
      refine r_getI (pc := 4) C f_X6_9 ((Dk_6 hd)) rfl dX6_positionOf_4 ?_
      refine r_t (hV.get at_size) ?_
      refine r_t (y := nI E) hE ?_
      refine r_cgeN (pc := 7) (tgt := 38) C dX6_positionOf_7 rfl (by omega) (by omega) (fun c_7 => ?_) (fun c_7 => ?_)
      · skip
        refine r_iconstm (pc := 38) C dX6_positionOf_38 rfl ?_
        exact r_iret (pc := 39) C dX6_positionOf_39 ⟨congrArg (fun z => some (Value.int z)) (atE_none hr (fun i hi => hinv i (by omega))), rfl, rfl, rfl⟩ (by decide)
      · skip
        refine r_aload_n (pc := 10) C 0 dX6_positionOf_10 rfl rfl ?_
        refine r_getR (pc := 11) (x := b + 6 + 1) C f_X6_15 ((Dk_6 hd)) rfl rfl dX6_positionOf_11 ?_
        refine r_iload_n (pc := 14) C 3 dX6_positionOf_14 rfl rfl ?_
        refine r_iald (pc := 15) (x := q) C ((Dk_7 hd)) rfl (by omega) (by decide) dX6_positionOf_15 ?_
        refine r_t (hV.get (at_ent0 (by omega))) ?_
        refine r_iload_n (pc := 16) C 1 dX6_positionOf_16 rfl rfl ?_
        refine r_cne (pc := 17) (tgt := 32) C dX6_positionOf_17 rfl (fun c_17 => ?_) (fun c_17 => ?_)
        · skip
          refine r_iincN (pc := 32) (m := 1) (lo' := [(3, _), (0, _), (1, _), (2, _)]) C 3 dX6_positionOf_32 rfl rfl (by decide) rfl ?_
          refine r_goto (pc := 35) (tgt := 2) C dX6_positionOf_35 rfl ?_
          refine r_ls [1, 2, 3, 0] rfl ?_
          exact ih_2 (q + 1) (by omega) (by omega) (lt_s hinv (fun z => c_17 z.1))
        · skip
          refine r_aload_n (pc := 20) C 0 dX6_positionOf_20 rfl rfl ?_
          refine r_getR (pc := 21) (x := b + 6 + 2) C f_X6_19 ((Dk_6 hd)) rfl rfl dX6_positionOf_21 ?_
          refine r_iload_n (pc := 24) C 3 dX6_positionOf_24 rfl rfl ?_
          refine r_iald (pc := 25) (x := q) C ((Dk_8 hd)) rfl (by omega) (by decide) dX6_positionOf_25 ?_
          refine r_t (hV.get (at_ent1 (by omega))) ?_
          refine r_iload_n (pc := 26) C 2 dX6_positionOf_26 rfl rfl ?_
          refine r_cne (pc := 27) (tgt := 32) C dX6_positionOf_27 rfl (fun c_27 => ?_) (fun c_27 => ?_)
          · skip
            refine r_iincN (pc := 32) (m := 1) (lo' := [(3, _), (0, _), (1, _), (2, _)]) C 3 dX6_positionOf_32 rfl rfl (by decide) rfl ?_
            refine r_goto (pc := 35) (tgt := 2) C dX6_positionOf_35 rfl ?_
            refine r_ls [1, 2, 3, 0] rfl ?_
            exact ih_2 (q + 1) (by omega) (by omega) (lt_s hinv (fun z => c_27 z.2))
          · skip
            refine r_iload_n (pc := 30) C 3 dX6_positionOf_30 rfl rfl ?_
            exact r_iret (pc := 31) C dX6_positionOf_31 ⟨congrArg (fun z => some (Value.int z)) (atE_found hr c_7 ⟨c_17, c_27⟩ hinv), rfl, rfl, rfl⟩ (by decide)
  refine r_ls [1, 2, 3, 0] rfl ?_
  exact loop_2 (E + 1) 0 (by omega) (by omega) (fun i h => absurd h (by omega))

set_option maxHeartbeats 1000000 in
theorem c_X6_sumFor {g : GG} {X : va_W} {T : TT} {I : II} {b : Nat} (hd : isDk T b) {w : Nat → Int32} {B N E : Nat} {pm : Nat → Nat} (hV : DV I b w B N E pm) {id : Int32} (hE : w 5 = nI E) : Mc g yX6_sumFor cX6_sumFor 4 (some .int) 1 0 0 [.ref (b + 6), .int id] X T I (Ex (some (.int (ledV w E id))) X T I) := by
  have hB6 := hV.hB
  have hN10 := hV.hN
  have hE20 := hV.hE
  refine Mc.of (by decide) (Nat.le_of_ble_eq_true rfl) (fun k hfl C => ?_)
  refine r_lo (lo' := [(0, _), (1, _)]) rfl ?_
  refine r_iconst (pc := 0) (v := 0) C dX6_sumFor_0 rfl ?_
  refine r_istore_n (pc := 1) (lo' := [(2, _), (0, _), (1, _)]) C dX6_sumFor_1 rfl (by decide) rfl ?_
  refine r_iconst (pc := 2) (v := 0) C dX6_sumFor_2 rfl ?_
  refine r_istore_n (pc := 3) (lo' := [(3, _), (2, _), (0, _), (1, _)]) C dX6_sumFor_3 rfl (by decide) rfl ?_
  have loop_4 : ∀ (n_4 : Nat) (q : Nat) (a : Int32), E - q < n_4 → (q ≤ E) → (sm (fLed w id) (E - q) q a = ledV w E id) → Go g k 4 (Qm g k (Ex (some (.int (ledV w E id))) X T I) 0 0) 0 0 4 [(0, .ref (b + 6)), (1, .int id), (2, .int a), (3, .int (nI q))] [] X T I := by
    intro n_4
    induction n_4 with
    | zero => intro _ _ h_; exact absurd h_ (Nat.not_lt_zero _)
    | succ n_4 ih_4 =>
      intro q a hq hqN hinv
      refine r_iload_n (pc := 4) C 3 dX6_sumFor_4 rfl rfl ?_
      refine r_aload_n (pc := 5) C 0 dX6_sumFor_5 rfl rfl ?_
      refine r_getI (pc := 6) C f_X6_9 ((Dk_6 hd)) rfl dX6_sumFor_6 ?_
      refine r_t (hV.get at_size) ?_
      refine r_t (y := nI E) hE ?_
      refine r_cgeN (pc := 9) (tgt := 37) C dX6_sumFor_9 rfl (by omega) (by omega) (fun c_9 => ?_) (fun c_9 => ?_)
      · skip
        refine r_iload_n (pc := 37) C 2 dX6_sumFor_37 rfl rfl ?_
        exact r_iret (pc := 38) C dX6_sumFor_38 ⟨congrArg (fun z => some (Value.int z)) (sm_end c_9 hinv), rfl, rfl, rfl⟩ (by decide)
      · skip
        refine r_aload_n (pc := 12) C 0 dX6_sumFor_12 rfl rfl ?_
        refine r_getR (pc := 13) (x := b + 6 + 2) C f_X6_19 ((Dk_6 hd)) rfl rfl dX6_sumFor_13 ?_
        refine r_iload_n (pc := 16) C 3 dX6_sumFor_16 rfl rfl ?_
        refine r_iald (pc := 17) (x := q) C ((Dk_8 hd)) rfl (by omega) (by decide) dX6_sumFor_17 ?_
        refine r_t (hV.get (at_ent1 (by omega))) ?_
        refine r_iload_n (pc := 18) C 1 dX6_sumFor_18 rfl rfl ?_
        refine r_cne (pc := 19) (tgt := 31) C dX6_sumFor_19 rfl (fun c_19 => ?_) (fun c_19 => ?_)
        · skip
          refine r_iincN (pc := 31) (m := 1) (lo' := [(3, _), (0, _), (1, _), (2, _)]) C 3 dX6_sumFor_31 rfl rfl (by decide) rfl ?_
          refine r_goto (pc := 34) (tgt := 4) C dX6_sumFor_34 rfl ?_
          refine r_ls [1, 2, 3, 0] rfl ?_
          exact ih_4 (q + 1) _ (by omega) (by omega) (sm_go0 c_9 hinv (if_neg c_19))
        · skip
          refine r_iload_n (pc := 22) C 2 dX6_sumFor_22 rfl rfl ?_
          refine r_aload_n (pc := 23) C 0 dX6_sumFor_23 rfl rfl ?_
          refine r_getR (pc := 24) (x := b + 6 + 3) C f_X6_22 ((Dk_6 hd)) rfl rfl dX6_sumFor_24 ?_
          refine r_iload_n (pc := 27) C 3 dX6_sumFor_27 rfl rfl ?_
          refine r_iald (pc := 28) (x := q) C ((Dk_9 hd)) rfl (by omega) (by decide) dX6_sumFor_28 ?_
          refine r_t (hV.get (at_ent2 (by omega))) ?_
          refine r_iadd (pc := 29) C dX6_sumFor_29 ?_
          refine r_istore_n (pc := 30) (lo' := [(2, _), (0, _), (1, _), (3, _)]) C dX6_sumFor_30 rfl (by decide) rfl ?_
          refine r_iincN (pc := 31) (m := 1) (lo' := [(3, _), (2, _), (0, _), (1, _)]) C 3 dX6_sumFor_31 rfl rfl (by decide) rfl ?_
          refine r_goto (pc := 34) (tgt := 4) C dX6_sumFor_34 rfl ?_
          refine r_ls [2, 3, 1, 0] rfl ?_
          exact ih_4 (q + 1) _ (by omega) (by omega) (sm_go c_9 hinv (if_pos c_19))
  refine r_ls [2, 3, 1, 0] rfl ?_
  exact loop_4 (E + 1) 0 (nI 0) (by omega) (by omega) rfl
