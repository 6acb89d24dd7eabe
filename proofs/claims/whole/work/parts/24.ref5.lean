set_option maxHeartbeats 1000000 in
theorem c_copies {g : GG} {X : va_W} {T : TT} {I : II} {M : Nat} (hm : isMd T M)  : Mc g yX10_copies cX10_copies 2 none 1 0 0 [.ref M] X T I (Ex none X T (cpI I M)) := by
  refine Mc.of (by decide) (Nat.le_of_ble_eq_true rfl) (fun k hfl C => ?_)
  refine r_lo (lo' := [(0, _)]) rfl ?_
  refine r_iconst (pc := 0) (v := 0) C dX10_copies_0 rfl ?_
  refine r_istore_n (pc := 1) (lo' := [(1, _), (0, _)]) C dX10_copies_1 rfl (by decide) rfl ?_
  have loop_2 : ∀ (n_2 : Nat) (q : Nat), 218 - q < n_2 → (q ≤ 218) → Go g k 2 (Qm g k (Ex none X T (cpI I M)) 0 0) 0 0 2 [(0, .ref M), (1, .int (nI q))] [] X T ((sr I (M + 4) (ins (I (M + 4)) 0 (I (M + 1)) q))) := by
    intro n_2
    induction n_2 with
    | zero => intro _ h_; exact absurd h_ (Nat.not_lt_zero _)
    | succ n_2 ih_2 =>
      intro q hq hqN
      refine r_iload_n (pc := 2) C 1 dX10_copies_2 rfl rfl ?_
      refine r_sipush (pc := 3) (v := 218) C dX10_copies_3 rfl ?_
      refine r_cgeN (pc := 6) (tgt := 27) C dX10_copies_6 rfl (by omega) (by omega) (fun c_6 => ?_) (fun c_6 => ?_)
      · skip
        exact r_vret (pc := 27) C dX10_copies_27 ⟨rfl, rfl, rfl, by rw [show q = 218 by omega]; rfl⟩ (by decide)
      · skip
        refine r_aload_n (pc := 9) C 0 dX10_copies_9 rfl rfl ?_
        refine r_getR (pc := 10) (x := M + 4) C f_X10_23 hm.1 rfl rfl dX10_copies_10 ?_
        refine r_iload_n (pc := 13) C 1 dX10_copies_13 rfl rfl ?_
        refine r_aload_n (pc := 14) C 0 dX10_copies_14 rfl rfl ?_
        refine r_getR (pc := 15) (x := M + 1) C f_X10_13 hm.1 rfl rfl dX10_copies_15 ?_
        refine r_iload_n (pc := 18) C 1 dX10_copies_18 rfl rfl ?_
        refine r_wld2 (pc := 19) (x := q) (by omega) C hm.2.1 rfl (by omega) (by decide) dX10_copies_19 ?_
        refine r_wst (pc := 20) (x := q) C hm.2.2.2.2.1 rfl (by omega) (by decide) dX10_copies_20 ?_
        refine r_iincN (pc := 21) (m := 1) (lo' := [(1, _), (0, _)]) C 1 dX10_copies_21 rfl rfl (by decide) rfl ?_
        refine r_goto (pc := 24) (tgt := 2) C dX10_copies_24 rfl ?_
        refine r_ls [1, 0] rfl ?_
        refine r_I (I' := (sr I (M + 4) (ins (I (M + 4)) 0 (I (M + 1)) (q + 1)))) (congrArg (sr I (M + 4)) (by rw [← ins_s, Nat.zero_add])) ?_
        exact ih_2 (q + 1) (by omega) (by omega)
  refine r_ls [1, 0] rfl ?_
  refine r_I (I' := (sr I (M + 4) (ins (I (M + 4)) 0 (I (M + 1)) 0))) (by rw [ins_0, sr_id]) ?_
  exact loop_2 219 0 (by omega) (by omega)

set_option maxHeartbeats 1000000 in
theorem c_goesBack {g : GG} {X : va_W} {T : TT} {I : II} {M : Nat} (hm : isMd T M)  : Mc g yX10_goesBack cX10_goesBack 2 none 1 0 0 [.ref M] X T I (Ex none X T (sr I (M + 1) (ins (I (M + 1)) 0 (I (M + 4)) 218))) := by
  refine Mc.of (by decide) (Nat.le_of_ble_eq_true rfl) (fun k hfl C => ?_)
  refine r_lo (lo' := [(0, _)]) rfl ?_
  refine r_iconst (pc := 0) (v := 0) C dX10_goesBack_0 rfl ?_
  refine r_istore_n (pc := 1) (lo' := [(1, _), (0, _)]) C dX10_goesBack_1 rfl (by decide) rfl ?_
  have loop_2 : ∀ (n_2 : Nat) (q : Nat), 218 - q < n_2 → (q ≤ 218) → Go g k 2 (Qm g k (Ex none X T (sr I (M + 1) (ins (I (M + 1)) 0 (I (M + 4)) 218))) 0 0) 0 0 2 [(0, .ref M), (1, .int (nI q))] [] X T ((sr I (M + 1) (ins (I (M + 1)) 0 (I (M + 4)) q))) := by
    intro n_2
    induction n_2 with
    | zero => intro _ h_; exact absurd h_ (Nat.not_lt_zero _)
    | succ n_2 ih_2 =>
      intro q hq hqN
      refine r_iload_n (pc := 2) C 1 dX10_goesBack_2 rfl rfl ?_
      refine r_sipush (pc := 3) (v := 218) C dX10_goesBack_3 rfl ?_
      refine r_cgeN (pc := 6) (tgt := 27) C dX10_goesBack_6 rfl (by omega) (by omega) (fun c_6 => ?_) (fun c_6 => ?_)
      · skip
        exact r_vret (pc := 27) C dX10_goesBack_27 ⟨rfl, rfl, rfl, by rw [show q = 218 by omega]⟩ (by decide)
      · skip
        refine r_aload_n (pc := 9) C 0 dX10_goesBack_9 rfl rfl ?_
        refine r_getR (pc := 10) (x := M + 1) C f_X10_13 hm.1 rfl rfl dX10_goesBack_10 ?_
        refine r_iload_n (pc := 13) C 1 dX10_goesBack_13 rfl rfl ?_
        refine r_aload_n (pc := 14) C 0 dX10_goesBack_14 rfl rfl ?_
        refine r_getR (pc := 15) (x := M + 4) C f_X10_23 hm.1 rfl rfl dX10_goesBack_15 ?_
        refine r_iload_n (pc := 18) C 1 dX10_goesBack_18 rfl rfl ?_
        refine r_wld2 (pc := 19) (x := q) (by omega) C hm.2.2.2.2.1 rfl (by omega) (by decide) dX10_goesBack_19 ?_
        refine r_wst (pc := 20) (x := q) C hm.2.1 rfl (by omega) (by decide) dX10_goesBack_20 ?_
        refine r_iincN (pc := 21) (m := 1) (lo' := [(1, _), (0, _)]) C 1 dX10_goesBack_21 rfl rfl (by decide) rfl ?_
        refine r_goto (pc := 24) (tgt := 2) C dX10_goesBack_24 rfl ?_
        refine r_ls [1, 0] rfl ?_
        refine r_I (I' := (sr I (M + 1) (ins (I (M + 1)) 0 (I (M + 4)) (q + 1)))) (congrArg (sr I (M + 1)) (by rw [← ins_s, Nat.zero_add])) ?_
        exact ih_2 (q + 1) (by omega) (by omega)
  refine r_ls [1, 0] rfl ?_
  refine r_I (I' := (sr I (M + 1) (ins (I (M + 1)) 0 (I (M + 4)) 0))) (by rw [ins_0, sr_id]) ?_
  exact loop_2 219 0 (by omega) (by omega)

set_option maxHeartbeats 1000000 in
theorem c_keeps__a {g : GG} {X : va_W} {T : TT} {I : II} {M : Nat} (hm : isMd T M) {c f : Nat} (hc : I M 5 = nI c) (hf : I M 6 = nI f) (hf8 : f < 8) (hc8 : c < 8) : Mc g yX10_keeps cX10_keeps 3 none 1 0 0 [.ref M] X T I (Ex none X T (kpI I M c f)) := by
  refine Mc.of (by decide) (Nat.le_of_ble_eq_true rfl) (fun k hfl C => ?_)
  refine r_lo (lo' := [(0, _)]) rfl ?_
  refine r_aload_n (pc := 0) C 0 dX10_keeps_0 rfl rfl ?_
  refine r_getI (pc := 1) C f_X10_42 hm.1 rfl dX10_keeps_1 ?_
  refine r_t (y := nI c) hc ?_
  refine r_bipush (pc := 4) (v := 8) C dX10_keeps_4 rfl ?_
  refine r_cneN (pc := 6) (tgt := 32) C dX10_keeps_6 rfl (by omega) (by omega) (fun c_6 => ?_) (fun c_6 => False.elim (by omega))
  refine r_aload_n (pc := 32) C 0 dX10_keeps_32 rfl rfl ?_
  refine r_getI (pc := 33) C f_X10_45 hm.1 rfl dX10_keeps_33 ?_
  refine r_t (y := nI f) hf ?_
  refine r_aload_n (pc := 36) C 0 dX10_keeps_36 rfl rfl ?_
  refine r_getI (pc := 37) C f_X10_42 hm.1 rfl dX10_keeps_37 ?_
  refine r_t (y := nI c) hc ?_
  refine r_iaddN (pc := 40) C dX10_keeps_40 ?_
  refine r_bipush (pc := 41) (v := 8) C dX10_keeps_41 rfl ?_
  refine r_iremN (pc := 43) C dX10_keeps_43 (by omega) (by omega) (by omega) ?_
  refine r_istore_n (pc := 44) (lo' := [(1, _), (0, _)]) C dX10_keeps_44 rfl (by decide) rfl ?_
  refine r_iconst (pc := 45) (v := 0) C dX10_keeps_45 rfl ?_
  refine r_istore_n (pc := 46) (lo' := [(2, _), (1, _), (0, _)]) C dX10_keeps_46 rfl (by decide) rfl ?_
  have loop_47 : ∀ (n_47 : Nat) (q : Nat), 218 - q < n_47 → (q ≤ 218) → Go g k 3 (Qm g k (Ex none X T (kpI I M c f)) 0 0) 0 0 47 [(0, .ref M), (1, .int (nI ((f + c) % 8))), (2, .int (nI q))] [] X T ((sr I (M + 2) (ins (I (M + 2)) (218 * ((f + c) % 8)) (I (M + 4)) q))) := by
    intro n_47
    induction n_47 with
    | zero => intro _ h_; exact absurd h_ (Nat.not_lt_zero _)
    | succ n_47 ih_47 =>
      intro q hq hqN
      refine r_iload_n (pc := 47) C 2 dX10_keeps_47 rfl rfl ?_
      refine r_sipush (pc := 48) (v := 218) C dX10_keeps_48 rfl ?_
      refine r_cgeN (pc := 51) (tgt := 78) C dX10_keeps_51 rfl (by omega) (by omega) (fun c_51 => ?_) (fun c_51 => ?_)
      · skip
        refine r_aload_n (pc := 78) C 0 dX10_keeps_78 rfl rfl ?_
        refine r_dup (pc := 79) C dX10_keeps_79 rfl ?_
        refine r_wget (pc := 80) (by omega) C f_X10_42 hm.1 rfl dX10_keeps_80 ?_
        refine r_t (y := nI c) hc ?_
        refine r_iconst (pc := 83) (v := 1) C dX10_keeps_83 rfl ?_
        refine r_iaddN (pc := 84) C dX10_keeps_84 ?_
        refine r_wput (pc := 85) (by omega) C f_X10_42 hm.1 rfl rfl rfl dX10_keeps_85 ?_
        exact r_vret (pc := 88) C dX10_keeps_88 ⟨rfl, rfl, rfl, by rw [show q = 218 by omega, kpI, if_neg (by omega)]⟩ (by decide)
      · skip
        refine r_aload_n (pc := 54) C 0 dX10_keeps_54 rfl rfl ?_
        refine r_getR (pc := 55) (x := M + 2) C f_X10_17 hm.1 rfl rfl dX10_keeps_55 ?_
        refine r_sipush (pc := 58) (v := 218) C dX10_keeps_58 rfl ?_
        refine r_iload_n (pc := 61) C 1 dX10_keeps_61 rfl rfl ?_
        refine r_imulN (pc := 62) C dX10_keeps_62 ?_
        refine r_iload_n (pc := 63) C 2 dX10_keeps_63 rfl rfl ?_
        refine r_iaddN (pc := 64) C dX10_keeps_64 ?_
        refine r_aload_n (pc := 65) C 0 dX10_keeps_65 rfl rfl ?_
        refine r_getR (pc := 66) (x := M + 4) C f_X10_23 hm.1 rfl rfl dX10_keeps_66 ?_
        refine r_iload_n (pc := 69) C 2 dX10_keeps_69 rfl rfl ?_
        refine r_wld2 (pc := 70) (x := q) (by omega) C hm.2.2.2.2.1 rfl (by omega) (by decide) dX10_keeps_70 ?_
        refine r_wst (pc := 71) (x := (218 * (((f + c) % 8))) + q) C hm.2.2.1 rfl (by omega) (by decide) dX10_keeps_71 ?_
        refine r_iincN (pc := 72) (m := 1) (lo' := [(2, _), (0, _), (1, _)]) C 2 dX10_keeps_72 rfl rfl (by decide) rfl ?_
        refine r_goto (pc := 75) (tgt := 47) C dX10_keeps_75 rfl ?_
        refine r_ls [1, 2, 0] rfl ?_
        refine r_I (I' := (sr I (M + 2) (ins (I (M + 2)) (218 * ((f + c) % 8)) (I (M + 4)) (q + 1)))) (congrArg (sr I (M + 2)) ins_s) ?_
        exact ih_47 (q + 1) (by omega) (by omega)
  refine r_ls [2, 1, 0] rfl ?_
  refine r_I (I' := (sr I (M + 2) (ins (I (M + 2)) (218 * ((f + c) % 8)) (I (M + 4)) 0))) (by rw [ins_0, sr_id]) ?_
  exact loop_47 219 0 (by omega) (by omega)

set_option maxHeartbeats 1000000 in
theorem c_keeps__b {g : GG} {X : va_W} {T : TT} {I : II} {M : Nat} (hm : isMd T M) {c f : Nat} (hc : I M 5 = nI c) (hf : I M 6 = nI f) (hf8 : f < 8) (hc8 : c = 8) : Mc g yX10_keeps cX10_keeps 3 none 1 0 0 [.ref M] X T I (Ex none X T (kpI I M c f)) := by
  refine Mc.of (by decide) (Nat.le_of_ble_eq_true rfl) (fun k hfl C => ?_)
  refine r_lo (lo' := [(0, _)]) rfl ?_
  refine r_aload_n (pc := 0) C 0 dX10_keeps_0 rfl rfl ?_
  refine r_getI (pc := 1) C f_X10_42 hm.1 rfl dX10_keeps_1 ?_
  refine r_t (y := nI 8) (hc.trans (by rw [hc8])) ?_
  refine r_bipush (pc := 4) (v := 8) C dX10_keeps_4 rfl ?_
  refine r_cneN (pc := 6) (tgt := 32) C dX10_keeps_6 rfl (by omega) (by omega) (fun c_6 => False.elim (by omega)) (fun c_6 => ?_)
  refine r_aload_n (pc := 9) C 0 dX10_keeps_9 rfl rfl ?_
  refine r_aload_n (pc := 10) C 0 dX10_keeps_10 rfl rfl ?_
  refine r_getI (pc := 11) C f_X10_45 hm.1 rfl dX10_keeps_11 ?_
  refine r_t (y := nI f) hf ?_
  refine r_iconst (pc := 14) (v := 1) C dX10_keeps_14 rfl ?_
  refine r_iaddN (pc := 15) C dX10_keeps_15 ?_
  refine r_bipush (pc := 16) (v := 8) C dX10_keeps_16 rfl ?_
  refine r_iremN (pc := 18) C dX10_keeps_18 (by omega) (by omega) (by omega) ?_
  refine r_putI (pc := 19) C f_X10_45 hm.1 rfl rfl rfl dX10_keeps_19 ?_
  refine r_aload_n (pc := 22) C 0 dX10_keeps_22 rfl rfl ?_
  refine r_dup (pc := 23) C dX10_keeps_23 rfl ?_
  refine r_getI (pc := 24) C f_X10_42 hm.1 rfl dX10_keeps_24 ?_
  refine r_t (y := nI 8) ((u2_o (by decide)).trans (hc.trans (by rw [hc8]))) ?_
  refine r_iconst (pc := 27) (v := 1) C dX10_keeps_27 rfl ?_
  refine r_isub (pc := 28) C dX10_keeps_28 ?_
  refine r_t (y := nI 7) (by decide) ?_
  refine r_putI (pc := 29) C f_X10_42 hm.1 rfl rfl rfl dX10_keeps_29 ?_
  refine r_aload_n (pc := 32) C 0 dX10_keeps_32 rfl rfl ?_
  refine r_getI (pc := 33) C f_X10_45 hm.1 rfl dX10_keeps_33 ?_
  refine r_t (y := nI (((f + 1) % 8))) ((u2_o (by decide)).trans u2_g) ?_
  refine r_aload_n (pc := 36) C 0 dX10_keeps_36 rfl rfl ?_
  refine r_getI (pc := 37) C f_X10_42 hm.1 rfl dX10_keeps_37 ?_
  refine r_t (y := nI 7) u2_g ?_
  refine r_iaddN (pc := 40) C dX10_keeps_40 ?_
  refine r_bipush (pc := 41) (v := 8) C dX10_keeps_41 rfl ?_
  refine r_iremN (pc := 43) C dX10_keeps_43 (by omega) (by omega) (by omega) ?_
  refine r_istore_n (pc := 44) (lo' := [(1, _), (0, _)]) C dX10_keeps_44 rfl (by decide) rfl ?_
  refine r_iconst (pc := 45) (v := 0) C dX10_keeps_45 rfl ?_
  refine r_istore_n (pc := 46) (lo' := [(2, _), (1, _), (0, _)]) C dX10_keeps_46 rfl (by decide) rfl ?_
  have loop_47 : ∀ (n_47 : Nat) (q : Nat), 218 - q < n_47 → (q ≤ 218) → Go g k 3 (Qm g k (Ex none X T (kpI I M c f)) 0 0) 0 0 47 [(0, .ref M), (1, .int (nI (((f + 1) % 8 + 7) % 8))), (2, .int (nI q))] [] X T ((sr (u2 (u2 I M 6 (nI ((f + 1) % 8))) M 5 (nI 7)) (M + 2) (ins (I (M + 2)) (218 * (((f + 1) % 8 + 7) % 8)) (I (M + 4)) q))) := by
    intro n_47
    induction n_47 with
    | zero => intro _ h_; exact absurd h_ (Nat.not_lt_zero _)
    | succ n_47 ih_47 =>
      intro q hq hqN
      refine r_iload_n (pc := 47) C 2 dX10_keeps_47 rfl rfl ?_
      refine r_sipush (pc := 48) (v := 218) C dX10_keeps_48 rfl ?_
      refine r_cgeN (pc := 51) (tgt := 78) C dX10_keeps_51 rfl (by omega) (by omega) (fun c_51 => ?_) (fun c_51 => ?_)
      · skip
        refine r_aload_n (pc := 78) C 0 dX10_keeps_78 rfl rfl ?_
        refine r_dup (pc := 79) C dX10_keeps_79 rfl ?_
        refine r_wget (pc := 80) (by omega) C f_X10_42 hm.1 rfl dX10_keeps_80 ?_
        refine r_t (y := nI 7) u2_g ?_
        refine r_iconst (pc := 83) (v := 1) C dX10_keeps_83 rfl ?_
        refine r_iaddN (pc := 84) C dX10_keeps_84 ?_
        refine r_wput (pc := 85) (by omega) C f_X10_42 hm.1 rfl rfl rfl dX10_keeps_85 ?_
        exact r_vret (pc := 88) C dX10_keeps_88 ⟨rfl, rfl, rfl, by rw [show q = 218 by omega, kpI, if_pos hc8, u2_u2]⟩ (by decide)
      · skip
        refine r_aload_n (pc := 54) C 0 dX10_keeps_54 rfl rfl ?_
        refine r_getR (pc := 55) (x := M + 2) C f_X10_17 hm.1 rfl rfl dX10_keeps_55 ?_
        refine r_sipush (pc := 58) (v := 218) C dX10_keeps_58 rfl ?_
        refine r_iload_n (pc := 61) C 1 dX10_keeps_61 rfl rfl ?_
        refine r_imulN (pc := 62) C dX10_keeps_62 ?_
        refine r_iload_n (pc := 63) C 2 dX10_keeps_63 rfl rfl ?_
        refine r_iaddN (pc := 64) C dX10_keeps_64 ?_
        refine r_aload_n (pc := 65) C 0 dX10_keeps_65 rfl rfl ?_
        refine r_getR (pc := 66) (x := M + 4) C f_X10_23 hm.1 rfl rfl dX10_keeps_66 ?_
        refine r_iload_n (pc := 69) C 2 dX10_keeps_69 rfl rfl ?_
        refine r_wld2 (pc := 70) (x := q) (by omega) C hm.2.2.2.2.1 rfl (by omega) (by decide) dX10_keeps_70 ?_
        refine r_t (y := I (M + 4) q) (congrFun (by rw [u2_r (by omega), u2_r (by omega)]) q) ?_
        refine r_wst (pc := 71) (x := (218 * ((((f + 1) % 8 + 7) % 8))) + q) C hm.2.2.1 rfl (by omega) (by decide) dX10_keeps_71 ?_
        refine r_iincN (pc := 72) (m := 1) (lo' := [(2, _), (0, _), (1, _)]) C 2 dX10_keeps_72 rfl rfl (by decide) rfl ?_
        refine r_goto (pc := 75) (tgt := 47) C dX10_keeps_75 rfl ?_
        refine r_ls [1, 2, 0] rfl ?_
        refine r_I (I' := (sr (u2 (u2 I M 6 (nI ((f + 1) % 8))) M 5 (nI 7)) (M + 2) (ins (I (M + 2)) (218 * (((f + 1) % 8 + 7) % 8)) (I (M + 4)) (q + 1)))) (congrArg (sr _ (M + 2)) (by rw [← ins_s])) ?_
        exact ih_47 (q + 1) (by omega) (by omega)
  refine r_ls [2, 1, 0] rfl ?_
  refine r_I (I' := (sr (u2 (u2 I M 6 (nI ((f + 1) % 8))) M 5 (nI 7)) (M + 2) (ins (I (M + 2)) (218 * (((f + 1) % 8 + 7) % 8)) (I (M + 4)) 0))) (by rw [ins_0, show I (M + 2) = (u2 (u2 I M 6 (nI ((f + 1) % 8))) M 5 (nI 7)) (M + 2) from by rw [u2_r (by omega), u2_r (by omega)], sr_id]) ?_
  exact loop_47 219 0 (by omega) (by omega)

theorem c_keeps {g : GG} {X : va_W} {T : TT} {I : II} {M : Nat} (hm : isMd T M) {c f : Nat} (hc : I M 5 = nI c) (hf : I M 6 = nI f) (hf8 : f < 8) (hc8 : c ≤ 8) : Mc g yX10_keeps cX10_keeps 3 none 1 0 0 [.ref M] X T I (Ex none X T (kpI I M c f)) := by
  rcases Nat.lt_or_ge c 8 with h | h
  · exact c_keeps__a hm hc hf hf8 h
  · exact c_keeps__b hm hc hf hf8 (by omega)

set_option maxHeartbeats 1000000 in
theorem c_remembers {g : GG} {X : va_W} {T : TT} {I : II} {M : Nat} (hm : isMd T M) {c f : Nat} (hc : I M 5 = nI c) (hf : I M 6 = nI f) (hf8 : f < 8) (hc8 : c ≤ 8) : Mc g yX10_remembers cX10_remembers 1 none 2 0 0 [.ref M] X T I (Ex none X T (rmI I M c f)) := by
  refine Mc.of (by decide) (Nat.le_of_ble_eq_true rfl) (fun k hfl C => ?_)
  refine r_lo (lo' := [(0, _)]) rfl ?_
  refine r_aload_n (pc := 0) C 0 dX10_remembers_0 rfl rfl ?_
  refine r_cVv (pc := 1) C hfl k_X10_48 (c_copies hm) hm.1 ca_X10 rfl rfl (Nat.le_of_ble_eq_true rfl) (by decide) (by decide) dX10_remembers_1 ?_
  refine r_aload_n (pc := 4) C 0 dX10_remembers_4 rfl rfl ?_
  refine r_cVv (pc := 5) C hfl k_X10_51 (c_keeps hm ((congrFun (sr_n (by omega)) _).trans hc) ((congrFun (sr_n (by omega)) _).trans hf) hf8 hc8) hm.1 ca_X10 rfl rfl (Nat.le_of_ble_eq_true rfl) (by decide) (by decide) dX10_remembers_5 ?_
  exact r_vret (pc := 8) C dX10_remembers_8 ⟨rfl, rfl, rfl, rfl⟩ (by decide)

set_option maxHeartbeats 1000000 in
theorem c_goes {g : GG} {X : va_W} {T : TT} {I : II} {M : Nat} {w : Nat → Int32} (hm : isMd T M) {N s : Nat} (hN : w 2 = nI N) (hN10 : N ≤ 10) (hs : s < N) : Mc g yX10_goes cX10_goes 4 none 1 0 0 [.ref M, .int (nI s)] X T (sr I (M + 1) w) (Ex none X T (sr I (M + 1) (goV w N s))) := by
  refine Mc.of (by decide) (Nat.le_of_ble_eq_true rfl) (fun k hfl C => ?_)
  refine r_lo (lo' := [(0, _), (1, _)]) rfl ?_
  refine r_aload_n (pc := 0) C 0 dX10_goes_0 rfl rfl ?_
  refine r_getR (pc := 1) (x := M + 1) C f_X10_13 hm.1 rfl rfl dX10_goes_1 ?_
  refine r_iconst (pc := 4) (v := 2) C dX10_goes_4 rfl ?_
  refine r_dup2 (pc := 5) C dX10_goes_5 rfl rfl ?_
  refine r_wld (pc := 6) (x := 2) C hm.2.1 rfl (by omega) (by decide) dX10_goes_6 ?_
  refine r_t (y := nI N) hN ?_
  refine r_iconst (pc := 7) (v := 1) C dX10_goes_7 rfl ?_
  refine r_isub (pc := 8) C dX10_goes_8 ?_
  refine r_t (y := nI ((N - 1))) (pk_sub (by omega)) ?_
  refine r_wst (pc := 9) (x := 2) C hm.2.1 rfl (by omega) (by decide) dX10_goes_9 ?_
  refine r_bipush (pc := 10) (v := 58) C dX10_goes_10 rfl ?_
  refine r_bipush (pc := 12) (v := 10) C dX10_goes_12 rfl ?_
  refine r_aload_n (pc := 14) C 0 dX10_goes_14 rfl rfl ?_
  refine r_getR (pc := 15) (x := M + 1) C f_X10_13 hm.1 rfl rfl dX10_goes_15 ?_
  refine r_iconst (pc := 18) (v := 2) C dX10_goes_18 rfl ?_
  refine r_wld (pc := 19) (x := 2) C hm.2.1 rfl (by omega) (by decide) dX10_goes_19 ?_
  refine r_t (y := nI ((N - 1))) upd_e ?_
  refine r_imulN (pc := 20) C dX10_goes_20 ?_
  refine r_iaddN (pc := 21) C dX10_goes_21 ?_
  refine r_istore_n (pc := 22) (lo' := [(2, _), (0, _), (1, _)]) C dX10_goes_22 rfl (by decide) rfl ?_
  refine r_bipush (pc := 23) (v := 58) C dX10_goes_23 rfl ?_
  refine r_bipush (pc := 25) (v := 10) C dX10_goes_25 rfl ?_
  refine r_iload_n (pc := 27) C 2 dX10_goes_27 rfl rfl ?_
  refine r_imulN (pc := 28) C dX10_goes_28 ?_
  refine r_iaddN (pc := 29) C dX10_goes_29 ?_
  refine r_istore_n (pc := 30) (lo' := [(3, _), (2, _), (0, _), (1, _)]) C dX10_goes_30 rfl (by decide) rfl ?_
  have loop_31 : ∀ (n_31 : Nat) (q : Nat), 58 + 10 * (N - 1) - q < n_31 → (58 + 10 * s ≤ q) → (q ≤ 58 + 10 * (N - 1)) → Go g k 4 (Qm g k (Ex none X T (sr I (M + 1) (goV w N s))) 0 0) 0 0 31 [(0, .ref M), (1, .int (nI s)), (2, .int (nI (58 + 10 * (N - 1)))), (3, .int (nI q))] [] X T ((sr I (M + 1) ((shV (upd w 2 (nI (N - 1))) (58 + 10 * s) 10 q)))) := by
    intro n_31
    induction n_31 with
    | zero => intro _ h_; exact absurd h_ (Nat.not_lt_zero _)
    | succ n_31 ih_31 =>
      intro q hq hq1 hq2
      refine r_iload_n (pc := 31) C 3 dX10_goes_31 rfl rfl ?_
      refine r_iload_n (pc := 32) C 2 dX10_goes_32 rfl rfl ?_
      refine r_cgeN (pc := 33) (tgt := 57) C dX10_goes_33 rfl (by omega) (by omega) (fun c_33 => ?_) (fun c_33 => ?_)
      · skip
        refine r_iconst (pc := 57) (v := 0) C dX10_goes_57 rfl ?_
        refine r_istore_n (pc := 58) (lo' := [(3, _), (0, _), (1, _), (2, _)]) C dX10_goes_58 rfl (by decide) rfl ?_
        have loop_59 : ∀ (n_59 : Nat) (z : Nat), 10 - z < n_59 → (z ≤ 10) → Go g k 4 (Qm g k (Ex none X T (sr I (M + 1) (goV w N s))) 0 0) 0 0 59 [(0, .ref M), (1, .int (nI s)), (2, .int (nI (58 + 10 * (N - 1)))), (3, .int (nI z))] [] X T ((sr I (M + 1) ((zr (shV (upd w 2 (nI (N - 1))) (58 + 10 * s) 10 (58 + 10 * (N - 1))) (58 + 10 * (N - 1)) z)))) := by
          intro n_59
          induction n_59 with
          | zero => intro _ h_; exact absurd h_ (Nat.not_lt_zero _)
          | succ n_59 ih_59 =>
            intro z hz hz1
            refine r_iload_n (pc := 59) C 3 dX10_goes_59 rfl rfl ?_
            refine r_bipush (pc := 60) (v := 10) C dX10_goes_60 rfl ?_
            refine r_cgeN (pc := 62) (tgt := 80) C dX10_goes_62 rfl (by omega) (by omega) (fun c_62 => ?_) (fun c_62 => ?_)
            · skip
              exact r_vret (pc := 80) C dX10_goes_80 ⟨rfl, rfl, rfl, by rw [show z = 10 by omega]; rfl⟩ (by decide)
            · skip
              refine r_aload_n (pc := 65) C 0 dX10_goes_65 rfl rfl ?_
              refine r_getR (pc := 66) (x := M + 1) C f_X10_13 hm.1 rfl rfl dX10_goes_66 ?_
              refine r_iload_n (pc := 69) C 2 dX10_goes_69 rfl rfl ?_
              refine r_iload_n (pc := 70) C 3 dX10_goes_70 rfl rfl ?_
              refine r_iaddN (pc := 71) C dX10_goes_71 ?_
              refine r_iconst (pc := 72) (v := 0) C dX10_goes_72 rfl ?_
              refine r_wst (pc := 73) (x := ((58 + 10 * (N - 1))) + z) C hm.2.1 rfl (by omega) (by decide) dX10_goes_73 ?_
              refine r_iincN (pc := 74) (m := 1) (lo' := [(3, _), (0, _), (1, _), (2, _)]) C 3 dX10_goes_74 rfl rfl (by decide) rfl ?_
              refine r_goto (pc := 77) (tgt := 59) C dX10_goes_77 rfl ?_
              refine r_ls [1, 2, 3, 0] rfl ?_
              refine r_I (I' := (sr I (M + 1) ((zr (shV (upd w 2 (nI (N - 1))) (58 + 10 * s) 10 (58 + 10 * (N - 1))) (58 + 10 * (N - 1)) (z + 1))))) (congrArg (sr I (M + 1)) zr_s) ?_
              exact ih_59 (z + 1) (by omega) (by omega)
        refine r_ls [1, 2, 3, 0] rfl ?_
        refine r_I (I' := (sr I (M + 1) ((zr (shV (upd w 2 (nI (N - 1))) (58 + 10 * s) 10 (58 + 10 * (N - 1))) (58 + 10 * (N - 1)) 0)))) (by rw [zr_0, show q = 58 + 10 * (N - 1) by omega]) ?_
        exact loop_59 11 0 (by omega) (by omega)
      · skip
        refine r_aload_n (pc := 36) C 0 dX10_goes_36 rfl rfl ?_
        refine r_getR (pc := 37) (x := M + 1) C f_X10_13 hm.1 rfl rfl dX10_goes_37 ?_
        refine r_iload_n (pc := 40) C 3 dX10_goes_40 rfl rfl ?_
        refine r_aload_n (pc := 41) C 0 dX10_goes_41 rfl rfl ?_
        refine r_getR (pc := 42) (x := M + 1) C f_X10_13 hm.1 rfl rfl dX10_goes_42 ?_
        refine r_iload_n (pc := 45) C 3 dX10_goes_45 rfl rfl ?_
        refine r_bipush (pc := 46) (v := 10) C dX10_goes_46 rfl ?_
        refine r_iaddN (pc := 48) C dX10_goes_48 ?_
        refine r_wld (pc := 49) (x := q + 10) C hm.2.1 rfl (by omega) (by decide) dX10_goes_49 ?_
        refine r_wst (pc := 50) (x := q) C hm.2.1 rfl (by omega) (by decide) dX10_goes_50 ?_
        refine r_iincN (pc := 51) (m := 1) (lo' := [(3, _), (0, _), (1, _), (2, _)]) C 3 dX10_goes_51 rfl rfl (by decide) rfl ?_
        refine r_goto (pc := 54) (tgt := 31) C dX10_goes_54 rfl ?_
        refine r_ls [1, 2, 3, 0] rfl ?_
        refine r_I (I' := (sr I (M + 1) ((shV (upd w 2 (nI (N - 1))) (58 + 10 * s) 10 (q + 1))))) (congrArg (sr I (M + 1)) (shV_s hq1)) ?_
        exact ih_31 (q + 1) (by omega) (by omega) (by omega)
  refine r_ls [2, 3, 1, 0] rfl ?_
  refine r_I (I' := (sr I (M + 1) ((shV (upd w 2 (nI (N - 1))) (58 + 10 * s) 10 (58 + 10 * s))))) (by rw [shV_0 (Nat.le_refl _)]) ?_
  exact loop_31 (58 + 10 * (N - 1) + 1) (58 + 10 * s) (by omega) (by omega) (by omega)

set_option maxHeartbeats 1000000 in
theorem c_givesBack {g : GG} {X : va_W} {T : TT} {I : II} {M : Nat} {w : Nat → Int32} (hm : isMd T M) {s b : Nat} (hs : s < 10) (hb : b < 6) (hw : w (58 + 10 * s + 1) = nI b) : Mc g yX10_givesBack cX10_givesBack 3 none 2 0 0 [.ref M, .int (nI s)] X T (sr I (M + 1) w) (Ex none X T (sr I (M + 1) ((gbK w s b 4)))) := by
  refine Mc.of (by decide) (Nat.le_of_ble_eq_true rfl) (fun k hfl C => ?_)
  refine r_lo (lo' := [(0, _), (1, _)]) rfl ?_
  refine r_iconst (pc := 0) (v := 0) C dX10_givesBack_0 rfl ?_
  refine r_istore_n (pc := 1) (lo' := [(2, _), (0, _), (1, _)]) C dX10_givesBack_1 rfl (by decide) rfl ?_
  have loop_2 : ∀ (n_2 : Nat) (q : Nat), 4 - q < n_2 → (q ≤ 4) → Go g k 3 (Qm g k (Ex none X T (sr I (M + 1) ((gbK w s b 4)))) 0 0) 0 0 2 [(0, .ref M), (1, .int (nI s)), (2, .int (nI q))] [] X T ((sr I (M + 1) ((gbK w s b q)))) := by
    intro n_2
    induction n_2 with
    | zero => intro _ h_; exact absurd h_ (Nat.not_lt_zero _)
    | succ n_2 ih_2 =>
      intro q hq hq1
      refine r_iload_n (pc := 2) C 2 dX10_givesBack_2 rfl rfl ?_
      refine r_iconst (pc := 3) (v := 4) C dX10_givesBack_3 rfl ?_
      refine r_cgeN (pc := 4) (tgt := 45) C dX10_givesBack_4 rfl (by omega) (by omega) (fun c_4 => ?_) (fun c_4 => ?_)
      · skip
        exact r_vret (pc := 45) C dX10_givesBack_45 ⟨rfl, rfl, rfl, by rw [show q = 4 by omega]⟩ (by decide)
      · skip
        refine r_aload_n (pc := 7) C 0 dX10_givesBack_7 rfl rfl ?_
        refine r_aload_n (pc := 8) C 0 dX10_givesBack_8 rfl rfl ?_
        refine r_iload_n (pc := 9) C 1 dX10_givesBack_9 rfl rfl ?_
        refine r_iconst (pc := 10) (v := 1) C dX10_givesBack_10 rfl ?_
        refine r_cVi (pc := 11) C hfl k_X10_58 (c_is hm (by omega) (by omega)) hm.1 ca_X10 rfl rfl (Nat.le_of_ble_eq_true rfl) (by decide) (by decide) dX10_givesBack_11 ?_
        refine r_t (y := nI b) ((gbK_n (by omega) (by omega)).trans hw) ?_
        refine r_iconst (pc := 14) (v := 2) C dX10_givesBack_14 rfl ?_
        refine r_iload_n (pc := 15) C 2 dX10_givesBack_15 rfl rfl ?_
        refine r_iaddN (pc := 16) C dX10_givesBack_16 ?_
        refine r_aload_n (pc := 17) C 0 dX10_givesBack_17 rfl rfl ?_
        refine r_iload_n (pc := 18) C 1 dX10_givesBack_18 rfl rfl ?_
        refine r_bipush (pc := 19) (v := 6) C dX10_givesBack_19 rfl ?_
        refine r_iload_n (pc := 21) C 2 dX10_givesBack_21 rfl rfl ?_
        refine r_iaddN (pc := 22) C dX10_givesBack_22 ?_
        refine r_cVi (pc := 23) C hfl k_X10_58 (c_is hm (by omega) (by omega)) hm.1 ca_X10 rfl rfl (Nat.le_of_ble_eq_true rfl) (by decide) (by decide) dX10_givesBack_23 ?_
        refine r_cVv (pc := 26) C hfl k_X10_69 (c_adds hm (by omega) (by omega)) hm.1 ca_X10 rfl rfl (Nat.le_of_ble_eq_true rfl) (by decide) (by decide) dX10_givesBack_26 ?_
        refine r_aload_n (pc := 29) C 0 dX10_givesBack_29 rfl rfl ?_
        refine r_iload_n (pc := 30) C 1 dX10_givesBack_30 rfl rfl ?_
        refine r_bipush (pc := 31) (v := 6) C dX10_givesBack_31 rfl ?_
        refine r_iload_n (pc := 33) C 2 dX10_givesBack_33 rfl rfl ?_
        refine r_iaddN (pc := 34) C dX10_givesBack_34 ?_
        refine r_iconst (pc := 35) (v := 0) C dX10_givesBack_35 rfl ?_
        refine r_cVv (pc := 36) C hfl k_X10_73 (c_puts hm (by omega) (by omega)) hm.1 ca_X10 rfl rfl (Nat.le_of_ble_eq_true rfl) (by decide) (by decide) dX10_givesBack_36 ?_
        refine r_iincN (pc := 39) (m := 1) (lo' := [(2, _), (0, _), (1, _)]) C 2 dX10_givesBack_39 rfl rfl (by decide) rfl ?_
        refine r_goto (pc := 42) (tgt := 2) C dX10_givesBack_42 rfl ?_
        refine r_ls [1, 2, 0] rfl ?_
        refine r_I (I' := (sr I (M + 1) ((gbK w s b (q + 1))))) (congrArg (sr I (M + 1)) (gbK_s hb c_4)) ?_
        exact ih_2 (q + 1) (by omega) (by omega)
  refine r_ls [1, 2, 0] rfl ?_
  refine r_I (I' := (sr I (M + 1) ((gbK w s b 0)))) (by rw [gbK_0]) ?_
  exact loop_2 5 0 (by omega) (by omega)

set_option maxHeartbeats 1000000 in
theorem c_addsBorrower {g : GG} {X : va_W} {T : TT} {I : II} {M : Nat} {w : Nat → Int32} (hm : isMd T M) {B : Nat} {c : Int32} (hB : w 1 = nI B) (hB6 : B < 6) : Mc g yX10_addsBorrower cX10_addsBorrower 4 (some .int) 2 0 0 [.ref M, .int c] X T (sr I (M + 1) w) (Ex (some (.int (nI B))) X T (sr I (M + 1) (abV w B c))) := by
  refine Mc.of (by decide) (Nat.le_of_ble_eq_true rfl) (fun k hfl C => ?_)
  refine r_lo (lo' := [(0, _), (1, _)]) rfl ?_
  refine r_aload_n (pc := 0) C 0 dX10_addsBorrower_0 rfl rfl ?_
  refine r_getR (pc := 1) (x := M + 1) C f_X10_13 hm.1 rfl rfl dX10_addsBorrower_1 ?_
  refine r_iconst (pc := 4) (v := 1) C dX10_addsBorrower_4 rfl ?_
  refine r_wld (pc := 5) (x := 1) C hm.2.1 rfl (by omega) (by decide) dX10_addsBorrower_5 ?_
  refine r_t (y := nI B) hB ?_
  refine r_istore_n (pc := 6) (lo' := [(2, _), (0, _), (1, _)]) C dX10_addsBorrower_6 rfl (by decide) rfl ?_
  refine r_aload_n (pc := 7) C 1 dX10_addsBorrower_7 rfl rfl ?_
  refine r_getR (pc := 8) (x := M + 1) C f_X10_13 hm.1 rfl rfl dX10_addsBorrower_8 ?_
  refine r_iconst (pc := 11) (v := 1) C dX10_addsBorrower_11 rfl ?_
  refine r_dup2 (pc := 12) C dX10_addsBorrower_12 rfl rfl ?_
  refine r_wld (pc := 13) (x := 1) C hm.2.1 rfl (by omega) (by decide) dX10_addsBorrower_13 ?_
  refine r_t (y := nI B) hB ?_
  refine r_iconst (pc := 14) (v := 1) C dX10_addsBorrower_14 rfl ?_
  refine r_iaddN (pc := 15) C dX10_addsBorrower_15 ?_
  refine r_wst (pc := 16) (x := 1) C hm.2.1 rfl (by omega) (by decide) dX10_addsBorrower_16 ?_
  refine r_iconst (pc := 17) (v := 0) C dX10_addsBorrower_17 rfl ?_
  refine r_istore_n (pc := 18) (lo' := [(3, _), (2, _), (0, _), (1, _)]) C dX10_addsBorrower_18 rfl (by decide) rfl ?_
  have loop_19 : ∀ (n_19 : Nat) (q : Nat), 6 - q < n_19 → (q ≤ 6) → Go g k 4 (Qm g k (Ex (some (.int (nI B))) X T (sr I (M + 1) (abV w B c))) 0 0) 0 0 19 [(0, .ref M), (1, .int c), (2, .int (nI B)), (3, .int (nI q))] [] X T ((sr I (M + 1) ((zr (upd w 1 (nI (B + 1))) (22 + 6 * B) q)))) := by
    intro n_19
    induction n_19 with
    | zero => intro _ h_; exact absurd h_ (Nat.not_lt_zero _)
    | succ n_19 ih_19 =>
      intro q hq hq1
      refine r_iload_n (pc := 19) C 3 dX10_addsBorrower_19 rfl rfl ?_
      refine r_bipush (pc := 20) (v := 6) C dX10_addsBorrower_20 rfl ?_
      refine r_cgeN (pc := 22) (tgt := 46) C dX10_addsBorrower_22 rfl (by omega) (by omega) (fun c_22 => ?_) (fun c_22 => ?_)
      · skip
        refine r_I (I' := (sr I (M + 1) ((zr (upd w 1 (nI (B + 1))) (22 + 6 * B) 6)))) (by rw [show q = 6 by omega]) ?_
        refine r_aload_n (pc := 46) C 0 dX10_addsBorrower_46 rfl rfl ?_
        refine r_iload_n (pc := 47) C 2 dX10_addsBorrower_47 rfl rfl ?_
        refine r_iconst (pc := 48) (v := 0) C dX10_addsBorrower_48 rfl ?_
        refine r_iload_n (pc := 49) C 1 dX10_addsBorrower_49 rfl rfl ?_
        refine r_cVv (pc := 50) C hfl k_X10_69 (c_adds hm (by omega) (by omega)) hm.1 ca_X10 rfl rfl (Nat.le_of_ble_eq_true rfl) (by decide) (by decide) dX10_addsBorrower_50 ?_
        refine r_aload_n (pc := 53) C 0 dX10_addsBorrower_53 rfl rfl ?_
        refine r_getR (pc := 54) (x := M + 1) C f_X10_13 hm.1 rfl rfl dX10_addsBorrower_54 ?_
        refine r_bipush (pc := 57) (v := 9) C dX10_addsBorrower_57 rfl ?_
        refine r_dup2 (pc := 59) C dX10_addsBorrower_59 rfl rfl ?_
        refine r_wld (pc := 60) (x := 9) C hm.2.1 rfl (by omega) (by decide) dX10_addsBorrower_60 ?_
        refine r_iload_n (pc := 61) C 1 dX10_addsBorrower_61 rfl rfl ?_
        refine r_iadd (pc := 62) C dX10_addsBorrower_62 ?_
        refine r_wst (pc := 63) (x := 9) C hm.2.1 rfl (by omega) (by decide) dX10_addsBorrower_63 ?_
        refine r_iload_n (pc := 64) C 2 dX10_addsBorrower_64 rfl rfl ?_
        exact r_iret (pc := 65) C dX10_addsBorrower_65 ⟨rfl, rfl, rfl, rfl⟩ (by decide)
      · skip
        refine r_aload_n (pc := 25) C 0 dX10_addsBorrower_25 rfl rfl ?_
        refine r_getR (pc := 26) (x := M + 1) C f_X10_13 hm.1 rfl rfl dX10_addsBorrower_26 ?_
        refine r_bipush (pc := 29) (v := 22) C dX10_addsBorrower_29 rfl ?_
        refine r_bipush (pc := 31) (v := 6) C dX10_addsBorrower_31 rfl ?_
        refine r_iload_n (pc := 33) C 2 dX10_addsBorrower_33 rfl rfl ?_
        refine r_imulN (pc := 34) C dX10_addsBorrower_34 ?_
        refine r_iaddN (pc := 35) C dX10_addsBorrower_35 ?_
        refine r_iload_n (pc := 36) C 3 dX10_addsBorrower_36 rfl rfl ?_
        refine r_iaddN (pc := 37) C dX10_addsBorrower_37 ?_
        refine r_iconst (pc := 38) (v := 0) C dX10_addsBorrower_38 rfl ?_
        refine r_wst (pc := 39) (x := (22 + (6 * B)) + q) C hm.2.1 rfl (by omega) (by decide) dX10_addsBorrower_39 ?_
        refine r_iincN (pc := 40) (m := 1) (lo' := [(3, _), (0, _), (1, _), (2, _)]) C 3 dX10_addsBorrower_40 rfl rfl (by decide) rfl ?_
        refine r_goto (pc := 43) (tgt := 19) C dX10_addsBorrower_43 rfl ?_
        refine r_ls [1, 2, 3, 0] rfl ?_
        refine r_I (I' := (sr I (M + 1) ((zr (upd w 1 (nI (B + 1))) (22 + 6 * B) (q + 1))))) (congrArg (sr I (M + 1)) zr_s) ?_
        exact ih_19 (q + 1) (by omega) (by omega)
  refine r_ls [2, 3, 1, 0] rfl ?_
  refine r_I (I' := (sr I (M + 1) ((zr (upd w 1 (nI (B + 1))) (22 + 6 * B) 0)))) (by rw [zr_0]) ?_
  exact loop_19 7 0 (by omega) (by omega)

set_option maxHeartbeats 1000000 in
theorem c_brings {g : GG} {X : va_W} {T : TT} {I : II} {M : Nat} {w : Nat → Int32} (hm : isMd T M) {n m : Nat} {u : Int32} (hn : n < 6) (hm4 : m < 4) : Mc g yX10_brings cX10_brings 4 (some .int) 2 0 0 [.ref M, .int (nI n), .int (nI m), .int u] X T (sr I (M + 1) w) (Ex (some (.int (w (22 + 6 * n + (2 + m)) + u))) X T (sr I (M + 1) (brV w n m u))) := by
  refine Mc.of (by decide) (Nat.le_of_ble_eq_true rfl) (fun k hfl C => ?_)
  refine r_lo (lo' := [(0, _), (1, _), (2, _), (3, _)]) rfl ?_
  refine r_aload_n (pc := 0) C 0 dX10_brings_0 rfl rfl ?_
  refine r_iload_n (pc := 1) C 1 dX10_brings_1 rfl rfl ?_
  refine r_iconst (pc := 2) (v := 2) C dX10_brings_2 rfl ?_
  refine r_iload_n (pc := 3) C 2 dX10_brings_3 rfl rfl ?_
  refine r_iaddN (pc := 4) C dX10_brings_4 ?_
  refine r_iload_n (pc := 5) C 3 dX10_brings_5 rfl rfl ?_
  refine r_cVv (pc := 6) C hfl k_X10_69 (c_adds hm (by omega) (by omega)) hm.1 ca_X10 rfl rfl (Nat.le_of_ble_eq_true rfl) (by decide) (by decide) dX10_brings_6 ?_
  refine r_aload_n (pc := 9) C 0 dX10_brings_9 rfl rfl ?_
  refine r_getR (pc := 10) (x := M + 1) C f_X10_13 hm.1 rfl rfl dX10_brings_10 ?_
  refine r_bipush (pc := 13) (v := 18) C dX10_brings_13 rfl ?_
  refine r_iload_n (pc := 15) C 2 dX10_brings_15 rfl rfl ?_
  refine r_iaddN (pc := 16) C dX10_brings_16 ?_
  refine r_dup2 (pc := 17) C dX10_brings_17 rfl rfl ?_
  refine r_wld (pc := 18) (x := 18 + m) C hm.2.1 rfl (by omega) (by decide) dX10_brings_18 ?_
  refine r_iload_n (pc := 19) C 3 dX10_brings_19 rfl rfl ?_
  refine r_iadd (pc := 20) C dX10_brings_20 ?_
  refine r_wst (pc := 21) (x := 18 + m) C hm.2.1 rfl (by omega) (by decide) dX10_brings_21 ?_
  refine r_aload_n (pc := 22) C 0 dX10_brings_22 rfl rfl ?_
  refine r_iload_n (pc := 23) C 1 dX10_brings_23 rfl rfl ?_
  refine r_iconst (pc := 24) (v := 2) C dX10_brings_24 rfl ?_
  refine r_iload_n (pc := 25) C 2 dX10_brings_25 rfl rfl ?_
  refine r_iaddN (pc := 26) C dX10_brings_26 ?_
  refine r_cVi (pc := 27) C hfl k_X10_95 (c_of hm (by omega) (by omega)) hm.1 ca_X10 rfl rfl (Nat.le_of_ble_eq_true rfl) (by decide) (by decide) dX10_brings_27 ?_
  exact r_iret (pc := 30) C dX10_brings_30 ⟨congrArg (fun z => some (Value.int z)) ((upd_n (by omega)).trans upd_e), rfl, rfl, rfl⟩ (by decide)

set_option maxHeartbeats 1000000 in
theorem c_setsPrice {g : GG} {X : va_W} {T : TT} {I : II} {M : Nat} {w : Nat → Int32} (hm : isMd T M) {m : Nat} {p : Int32} (hm4 : m < 4) : Mc g yX10_setsPrice cX10_setsPrice 4 (some .int) 2 0 0 [.ref M, .int (nI m), .int p] X T (sr I (M + 1) w) (Ex (some (.int (w (10 + m)))) X T (sr I (M + 1) (upd w (10 + m) p))) := by
  refine Mc.of (by decide) (Nat.le_of_ble_eq_true rfl) (fun k hfl C => ?_)
  refine r_lo (lo' := [(0, _), (1, _), (2, _)]) rfl ?_
  refine r_aload_n (pc := 0) C 0 dX10_setsPrice_0 rfl rfl ?_
  refine r_getR (pc := 1) (x := M + 1) C f_X10_13 hm.1 rfl rfl dX10_setsPrice_1 ?_
  refine r_bipush (pc := 4) (v := 10) C dX10_setsPrice_4 rfl ?_
  refine r_iload_n (pc := 6) C 1 dX10_setsPrice_6 rfl rfl ?_
  refine r_iaddN (pc := 7) C dX10_setsPrice_7 ?_
  refine r_wld (pc := 8) (x := 10 + m) C hm.2.1 rfl (by omega) (by decide) dX10_setsPrice_8 ?_
  refine r_istore_n (pc := 9) (lo' := [(3, _), (0, _), (1, _), (2, _)]) C dX10_setsPrice_9 rfl (by decide) rfl ?_
  refine r_aload_n (pc := 10) C 1 dX10_setsPrice_10 rfl rfl ?_
  refine r_getR (pc := 11) (x := M + 1) C f_X10_13 hm.1 rfl rfl dX10_setsPrice_11 ?_
  refine r_bipush (pc := 14) (v := 10) C dX10_setsPrice_14 rfl ?_
  refine r_iload_n (pc := 16) C 2 dX10_setsPrice_16 rfl rfl ?_
  refine r_iaddN (pc := 17) C dX10_setsPrice_17 ?_
  refine r_iload_n (pc := 18) C 3 dX10_setsPrice_18 rfl rfl ?_
  refine r_wst (pc := 19) (x := 10 + m) C hm.2.1 rfl (by omega) (by decide) dX10_setsPrice_19 ?_
  refine r_iload_n (pc := 20) C 0 dX10_setsPrice_20 rfl rfl ?_
  exact r_iret (pc := 21) C dX10_setsPrice_21 ⟨rfl, rfl, rfl, rfl⟩ (by decide)

set_option maxHeartbeats 1000000 in
theorem c_buys {g : GG} {X : va_W} {T : TT} {I : II} {M : Nat} {w : Nat → Int32} (hm : isMd T M) {n m : Nat} {u : Int32} (hn : n < 6) (hm4 : m < 4) : Mc g yX10_buys cX10_buys 5 (some .int) 2 0 0 [.ref M, .int (nI n), .int (nI m), .int u] X T (sr I (M + 1) w) (Ex (some (.int (u * w (10 + m)))) X T (sr I (M + 1) (buV w n m u))) := by
  refine Mc.of (by decide) (Nat.le_of_ble_eq_true rfl) (fun k hfl C => ?_)
  refine r_lo (lo' := [(0, _), (1, _), (2, _), (3, _)]) rfl ?_
  refine r_iload_n (pc := 0) C 3 dX10_buys_0 rfl rfl ?_
  refine r_aload_n (pc := 1) C 0 dX10_buys_1 rfl rfl ?_
  refine r_getR (pc := 2) (x := M + 1) C f_X10_13 hm.1 rfl rfl dX10_buys_2 ?_
  refine r_bipush (pc := 5) (v := 10) C dX10_buys_5 rfl ?_
  refine r_iload_n (pc := 7) C 2 dX10_buys_7 rfl rfl ?_
  refine r_iaddN (pc := 8) C dX10_buys_8 ?_
  refine r_wld (pc := 9) (x := 10 + m) C hm.2.1 rfl (by omega) (by decide) dX10_buys_9 ?_
  refine r_imul (pc := 10) C dX10_buys_10 ?_
  refine r_istore (pc := 11) (lo' := [(4, _), (0, _), (1, _), (2, _), (3, _)]) C dX10_buys_11 (by decide) rfl ?_
  refine r_aload_n (pc := 13) C 1 dX10_buys_13 rfl rfl ?_
  refine r_getR (pc := 14) (x := M + 1) C f_X10_13 hm.1 rfl rfl dX10_buys_14 ?_
  refine r_bipush (pc := 17) (v := 14) C dX10_buys_17 rfl ?_
  refine r_iload_n (pc := 19) C 3 dX10_buys_19 rfl rfl ?_
  refine r_iaddN (pc := 20) C dX10_buys_20 ?_
  refine r_dup2 (pc := 21) C dX10_buys_21 rfl rfl ?_
  refine r_wld (pc := 22) (x := 14 + m) C hm.2.1 rfl (by omega) (by decide) dX10_buys_22 ?_
  refine r_iload_n (pc := 23) C 4 dX10_buys_23 rfl rfl ?_
  refine r_isub (pc := 24) C dX10_buys_24 ?_
  refine r_wst (pc := 25) (x := 14 + m) C hm.2.1 rfl (by omega) (by decide) dX10_buys_25 ?_
  refine r_aload_n (pc := 26) C 1 dX10_buys_26 rfl rfl ?_
  refine r_iload_n (pc := 27) C 2 dX10_buys_27 rfl rfl ?_
  refine r_iconst (pc := 28) (v := 2) C dX10_buys_28 rfl ?_
  refine r_iload_n (pc := 29) C 3 dX10_buys_29 rfl rfl ?_
  refine r_iaddN (pc := 30) C dX10_buys_30 ?_
  refine r_iload_n (pc := 31) C 4 dX10_buys_31 rfl rfl ?_
  refine r_cVv (pc := 32) C hfl k_X10_69 (c_adds hm (by omega) (by omega)) hm.1 ca_X10 rfl rfl (Nat.le_of_ble_eq_true rfl) (by decide) (by decide) dX10_buys_32 ?_
  refine r_aload_n (pc := 35) C 1 dX10_buys_35 rfl rfl ?_
  refine r_iload_n (pc := 36) C 2 dX10_buys_36 rfl rfl ?_
  refine r_iconst (pc := 37) (v := 0) C dX10_buys_37 rfl ?_
  refine r_iload (pc := 38) C 0 dX10_buys_38 rfl ?_
  refine r_ineg (pc := 40) C dX10_buys_40 ?_
  refine r_cVv (pc := 41) C hfl k_X10_69 (c_adds hm (by omega) (by omega)) hm.1 ca_X10 rfl rfl (Nat.le_of_ble_eq_true rfl) (by decide) (by decide) dX10_buys_41 ?_
  refine r_aload_n (pc := 44) C 1 dX10_buys_44 rfl rfl ?_
  refine r_getR (pc := 45) (x := M + 1) C f_X10_13 hm.1 rfl rfl dX10_buys_45 ?_
  refine r_iconst (pc := 48) (v := 4) C dX10_buys_48 rfl ?_
  refine r_dup2 (pc := 49) C dX10_buys_49 rfl rfl ?_
  refine r_wld (pc := 50) (x := 4) C hm.2.1 rfl (by omega) (by decide) dX10_buys_50 ?_
  refine r_iload (pc := 51) C 0 dX10_buys_51 rfl ?_
  refine r_iadd (pc := 53) C dX10_buys_53 ?_
  refine r_wst (pc := 54) (x := 4) C hm.2.1 rfl (by omega) (by decide) dX10_buys_54 ?_
  refine r_iload (pc := 55) C 0 dX10_buys_55 rfl ?_
  exact r_iret (pc := 57) C dX10_buys_57 ⟨rfl, rfl, rfl, rfl⟩ (by decide)
