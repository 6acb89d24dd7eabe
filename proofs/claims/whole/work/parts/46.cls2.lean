set_option maxHeartbeats 1000000 in
theorem c_X1_begin {g : GG} {X : va_W} {T : TT} {I : II} {a : Nat} (ha : T a = (1, 4, rfB a)) (hg : T (a + 1) = (2, 4, nr)) {c : Int32} : Mc g yX1_begin cX1_begin 3 none 1 0 0 [.ref a, .int c] X T I (Ex none X T (bgB I a c)) := by
  refine Mc.of (by decide) (Nat.le_of_ble_eq_true rfl) (fun k hfl C => ?_)
  refine r_lo (lo' := [(0, _), (1, _)]) rfl ?_
  refine r_aload_n (pc := 0) C 0 dX1_begin_0 rfl rfl ?_
  refine r_iload_n (pc := 1) C 1 dX1_begin_1 rfl rfl ?_
  refine r_putI (pc := 2) C f_X1_9 ha rfl rfl rfl dX1_begin_2 ?_
  refine r_aload_n (pc := 5) C 0 dX1_begin_5 rfl rfl ?_
  refine r_iconst (pc := 6) (v := 0) C dX1_begin_6 rfl ?_
  refine r_putI (pc := 7) C f_X1_15 ha rfl rfl rfl dX1_begin_7 ?_
  refine r_iconst (pc := 10) (v := 0) C dX1_begin_10 rfl ?_
  refine r_istore_n (pc := 11) (lo' := [(2, _), (0, _), (1, _)]) C dX1_begin_11 rfl (by decide) rfl ?_
  have loop_12 : ∀ (n_12 : Nat) (q : Nat), 4 - q < n_12 → (q ≤ 4) → Go g k 3 (Qm g k (Ex none X T (bgB I a c)) 0 0) 0 0 12 [(0, .ref a), (2, .int (nI q))] [] X T ((sr (u2 (u2 I a 0 c) a 1 (nI 0)) (a + 1) (zr (I (a + 1)) 0 q))) := by
    intro n_12
    induction n_12 with
    | zero => intro _ h_; exact absurd h_ (Nat.not_lt_zero _)
    | succ n_12 ih_12 =>
      intro q hq hq1
      refine r_iload_n (pc := 12) C 1 dX1_begin_12 rfl rfl ?_
      refine r_iconst (pc := 13) (v := 4) C dX1_begin_13 rfl ?_
      refine r_cgeN (pc := 14) (tgt := 30) C dX1_begin_14 rfl (by omega) (by omega) (fun c_14 => ?_) (fun c_14 => ?_)
      · skip
        exact r_vret (pc := 30) C dX1_begin_30 ⟨rfl, rfl, rfl, by rw [show q = 4 by omega]; rfl⟩ (by decide)
      · skip
        refine r_aload_n (pc := 17) C 0 dX1_begin_17 rfl rfl ?_
        refine r_getR (pc := 18) (x := a + 1) C f_X1_18 ha rfl rfl dX1_begin_18 ?_
        refine r_iload_n (pc := 21) C 1 dX1_begin_21 rfl rfl ?_
        refine r_iconst (pc := 22) (v := 0) C dX1_begin_22 rfl ?_
        refine r_wst (pc := 23) (x := q) C hg rfl (by omega) (by decide) dX1_begin_23 ?_
        refine r_iincN (pc := 24) (m := 1) (lo' := [(2, _), (0, _)]) C 1 dX1_begin_24 rfl rfl (by decide) rfl ?_
        refine r_goto (pc := 27) (tgt := 12) C dX1_begin_27 rfl ?_
        refine r_ls [1, 0] rfl ?_
        refine r_I (I' := (sr (u2 (u2 I a 0 c) a 1 (nI 0)) (a + 1) (zr (I (a + 1)) 0 (q + 1)))) (congrArg (sr _ (a + 1)) (by rw [← zr_s, Nat.zero_add])) ?_
        exact ih_12 (q + 1) (by omega) (by omega)
  refine r_ls [1, 0] rfl ?_
  refine r_I (I' := (sr (u2 (u2 I a 0 c) a 1 (nI 0)) (a + 1) (zr (I (a + 1)) 0 0))) (by rw [zr_0, show I (a + 1) = (u2 (u2 I a 0 c) a 1 (nI 0)) (a + 1) from (by simp only [u2_r (show a + 1 ≠ a by omega)]), sr_id]) ?_
  exact loop_12 5 0 (by omega) (by omega)

set_option maxHeartbeats 1000000 in
theorem c_X7_begin {g : GG} {X : va_W} {T : TT} {I : II} {a : Nat} (ha : T a = (1, 9, rfN a)) (hg : T (a + 1) = (2, 4, nr)) {id n p r d : Int32} : Mc g yX7_begin cX7_begin 7 none 1 0 0 [.ref a, .int id, .int n, .int p, .int r, .int d] X T I (Ex none X T (bgN I a id n p r d)) := by
  refine Mc.of (by decide) (Nat.le_of_ble_eq_true rfl) (fun k hfl C => ?_)
  refine r_lo (lo' := [(0, _), (1, _), (2, _), (3, _), (4, _), (5, _)]) rfl ?_
  refine r_aload_n (pc := 0) C 0 dX7_begin_0 rfl rfl ?_
  refine r_iload_n (pc := 1) C 1 dX7_begin_1 rfl rfl ?_
  refine r_putI (pc := 2) C f_X7_9 ha rfl rfl rfl dX7_begin_2 ?_
  refine r_aload_n (pc := 5) C 0 dX7_begin_5 rfl rfl ?_
  refine r_iload_n (pc := 6) C 2 dX7_begin_6 rfl rfl ?_
  refine r_putI (pc := 7) C f_X7_15 ha rfl rfl rfl dX7_begin_7 ?_
  refine r_aload_n (pc := 10) C 0 dX7_begin_10 rfl rfl ?_
  refine r_iload_n (pc := 11) C 3 dX7_begin_11 rfl rfl ?_
  refine r_putI (pc := 12) C f_X7_18 ha rfl rfl rfl dX7_begin_12 ?_
  refine r_aload_n (pc := 15) C 0 dX7_begin_15 rfl rfl ?_
  refine r_iconst (pc := 16) (v := 0) C dX7_begin_16 rfl ?_
  refine r_putI (pc := 17) C f_X7_21 ha rfl rfl rfl dX7_begin_17 ?_
  refine r_aload_n (pc := 20) C 0 dX7_begin_20 rfl rfl ?_
  refine r_iload (pc := 21) C 4 dX7_begin_21 rfl ?_
  refine r_putI (pc := 23) C f_X7_24 ha rfl rfl rfl dX7_begin_23 ?_
  refine r_aload_n (pc := 26) C 0 dX7_begin_26 rfl rfl ?_
  refine r_iload (pc := 27) C 5 dX7_begin_27 rfl ?_
  refine r_putI (pc := 29) C f_X7_27 ha rfl rfl rfl dX7_begin_29 ?_
  refine r_iconst (pc := 32) (v := 0) C dX7_begin_32 rfl ?_
  refine r_istore (pc := 33) (lo' := [(6, _), (0, _), (1, _), (2, _), (3, _), (4, _), (5, _)]) C dX7_begin_33 (by decide) rfl ?_
  have loop_35 : ∀ (n_35 : Nat) (q : Nat), 4 - q < n_35 → (q ≤ 4) → Go g k 7 (Qm g k (Ex none X T (bgN I a id n p r d)) 0 0) 0 0 35 [(0, .ref a), (6, .int (nI q))] [] X T ((sr (u2 (u2 (u2 (u2 (u2 (u2 I a 0 id) a 1 n) a 2 p) a 3 (nI 0)) a 4 r) a 5 d) (a + 1) (zr (I (a + 1)) 0 q))) := by
    intro n_35
    induction n_35 with
    | zero => intro _ h_; exact absurd h_ (Nat.not_lt_zero _)
    | succ n_35 ih_35 =>
      intro q hq hq1
      refine r_iload (pc := 35) C 1 dX7_begin_35 rfl ?_
      refine r_iconst (pc := 37) (v := 4) C dX7_begin_37 rfl ?_
      refine r_cgeN (pc := 38) (tgt := 55) C dX7_begin_38 rfl (by omega) (by omega) (fun c_38 => ?_) (fun c_38 => ?_)
      · skip
        exact r_vret (pc := 55) C dX7_begin_55 ⟨rfl, rfl, rfl, by rw [show q = 4 by omega]; rfl⟩ (by decide)
      · skip
        refine r_aload_n (pc := 41) C 0 dX7_begin_41 rfl rfl ?_
        refine r_getR (pc := 42) (x := a + 1) C f_X7_30 ha rfl rfl dX7_begin_42 ?_
        refine r_iload (pc := 45) C 1 dX7_begin_45 rfl ?_
        refine r_iconst (pc := 47) (v := 0) C dX7_begin_47 rfl ?_
        refine r_wst (pc := 48) (x := q) C hg rfl (by omega) (by decide) dX7_begin_48 ?_
        refine r_iincN (pc := 49) (m := 1) (lo' := [(6, _), (0, _)]) C 1 dX7_begin_49 rfl rfl (by decide) rfl ?_
        refine r_goto (pc := 52) (tgt := 35) C dX7_begin_52 rfl ?_
        refine r_ls [1, 0] rfl ?_
        refine r_I (I' := (sr (u2 (u2 (u2 (u2 (u2 (u2 I a 0 id) a 1 n) a 2 p) a 3 (nI 0)) a 4 r) a 5 d) (a + 1) (zr (I (a + 1)) 0 (q + 1)))) (congrArg (sr _ (a + 1)) (by rw [← zr_s, Nat.zero_add])) ?_
        exact ih_35 (q + 1) (by omega) (by omega)
  refine r_ls [1, 0] rfl ?_
  refine r_I (I' := (sr (u2 (u2 (u2 (u2 (u2 (u2 I a 0 id) a 1 n) a 2 p) a 3 (nI 0)) a 4 r) a 5 d) (a + 1) (zr (I (a + 1)) 0 0))) (by rw [zr_0, show I (a + 1) = (u2 (u2 (u2 (u2 (u2 (u2 I a 0 id) a 1 n) a 2 p) a 3 (nI 0)) a 4 r) a 5 d) (a + 1) from (by simp only [u2_r (show a + 1 ≠ a by omega)]), sr_id]) ?_
  exact loop_35 5 0 (by omega) (by omega)

set_option maxHeartbeats 1000000 in
theorem c_X3_admitBorrower {g : GG} {X : va_W} {T : TT} {I : II} {b : Nat} (hd : isDk T b) {w : Nat → Int32} {B N E : Nat} {pm : Nat → Nat} (hV : DV I b w B N E pm) {c : Int32} {D U : Nat} (hG : Gd w B N E D U) (hS : Sd w N) : Mc g yX3_admitBorrower cX3_admitBorrower 2 (some (.object "LendingDesk$Fault")) 4 0 0 [.ref b, .int c] X T I (CH g I b X T 0 (fBorrower B c) (abV w B c) (B + 1) N E (nI B)) := by
  have hB6 := hV.hB
  have hN10 := hV.hN
  have hE20 := hV.hE
  have hB := hG.B.1
  have hN := hG.N.1
  have hE := hG.E.1
  have hW := hV.toW
  refine Mc.of (by decide) (Nat.le_of_ble_eq_true rfl) (fun k hfl C => ?_)
  refine r_lo (lo' := [(0, _), (1, _)]) rfl ?_
  refine r_iload_n (pc := 0) C 1 dX3_admitBorrower_0 rfl rfl ?_
  refine r_iconst (pc := 1) (v := 0) C dX3_admitBorrower_1 rfl ?_
  refine r_sipush (pc := 2) (v := 500) C dX3_admitBorrower_2 rfl ?_
  refine r_callSN (pc := 5) C hfl kn_X3_144 c_X9_isWithin rfl rfl (Nat.le_of_ble_eq_true rfl) (by decide) (by decide) dX3_admitBorrower_5 ?_
  refine r_ifneB (pc := 8) (tgt := 15) C dX3_admitBorrower_8 rfl (fun c_8 => ?_) (fun c_8 => ?_)
  · skip
    refine r_aload_n (pc := 15) C 0 dX3_admitBorrower_15 rfl rfl ?_
    refine r_getI (pc := 16) C f_X3_18 ((Dk_0 hd)) rfl dX3_admitBorrower_16 ?_
    refine r_t (hW.get at_borrowerTotal) ?_
    refine r_t (y := nI B) hB ?_
    refine r_bipush (pc := 19) (v := 6) C dX3_admitBorrower_19 rfl ?_
    refine r_cltN (pc := 21) (tgt := 28) C dX3_admitBorrower_21 rfl (by omega) (by omega) (fun c_21 => ?_) (fun c_21 => ?_)
    · skip
      refine r_aload_n (pc := 28) C 0 dX3_admitBorrower_28 rfl rfl ?_
      refine r_aload_n (pc := 29) C 0 dX3_admitBorrower_29 rfl rfl ?_
      refine r_getI (pc := 30) C f_X3_18 ((Dk_0 hd)) rfl dX3_admitBorrower_30 ?_
      refine r_t (hW.get at_borrowerTotal) ?_
      refine r_t (y := nI B) hB ?_
      refine r_putI (pc := 33) C f_X3_39 ((Dk_0 hd)) rfl rfl rfl dX3_admitBorrower_33 ?_
      refine r_dk hW.ans (fun I1 hD1 => ?_)
      refine r_aload_n (pc := 36) C 0 dX3_admitBorrower_36 rfl rfl ?_
      refine r_getR (pc := 37) (x := b + 4) C f_X3_54 ((Dk_0 hd)) rfl rfl dX3_admitBorrower_37 ?_
      refine r_aload_n (pc := 40) C 0 dX3_admitBorrower_40 rfl rfl ?_
      refine r_getI (pc := 41) C f_X3_18 ((Dk_0 hd)) rfl dX3_admitBorrower_41 ?_
      refine r_t (hD1.get at_borrowerTotal) ?_
      refine r_t (y := nI B) hB ?_
      refine r_aald (pc := 44) (x := B) (y := b + 10 + 2 * B) C ((Dk_4 hd)) (Or.inl rfl) rfl (by omega) (by decide) rfl dX3_admitBorrower_44 ?_
      refine r_iload_n (pc := 45) C 1 dX3_admitBorrower_45 rfl rfl ?_
      refine r_cVv (pc := 46) C hfl k_X3_151 (c_X1_begin (Dk_b hd (by omega)) (Dk_g hd (by omega))) (Dk_b hd (by omega)) ca_X1 rfl rfl (Nat.le_of_ble_eq_true rfl) (by decide) (by decide) dX3_admitBorrower_46 ?_
      refine r_dk (hD1.newB c_21) (fun I2 hD2 => ?_)
      refine r_aload_n (pc := 49) C 0 dX3_admitBorrower_49 rfl rfl ?_
      refine r_dup (pc := 50) C dX3_admitBorrower_50 rfl ?_
      refine r_getI (pc := 51) C f_X3_18 ((Dk_0 hd)) rfl dX3_admitBorrower_51 ?_
      refine r_t (hD2.get at_borrowerTotal) ?_
      refine r_t (y := nI B) ((upd_n (by omega)).trans ((zr_n (by omega)).trans hB)) ?_
      refine r_iconst (pc := 54) (v := 1) C dX3_admitBorrower_54 rfl ?_
      refine r_iaddN (pc := 55) C dX3_admitBorrower_55 ?_
      refine r_putI (pc := 56) C f_X3_18 ((Dk_0 hd)) rfl rfl rfl dX3_admitBorrower_56 ?_
      refine r_dk (hD2.put at_borrowerTotal) (fun I3 hD3 => ?_)
      refine r_aload_n (pc := 59) C 0 dX3_admitBorrower_59 rfl rfl ?_
      refine r_dup (pc := 60) C dX3_admitBorrower_60 rfl ?_
      refine r_getI (pc := 61) C f_X3_36 ((Dk_0 hd)) rfl dX3_admitBorrower_61 ?_
      refine r_t (hD3.get at_broughtCoins) ?_
      refine r_iload_n (pc := 64) C 1 dX3_admitBorrower_64 rfl rfl ?_
      refine r_iadd (pc := 65) C dX3_admitBorrower_65 ?_
      refine r_putI (pc := 66) C f_X3_36 ((Dk_0 hd)) rfl rfl rfl dX3_admitBorrower_66 ?_
      refine r_dk (hD3.put at_broughtCoins) (fun I4 hD4 => ?_)
      refine r_flt (pc := 69) C (by decide) kf_X3_155 dX3_admitBorrower_69 ?_
      exact r_aret (pc := 72) C (Or.inl ⟨_, rfl⟩) (Or.inr ⟨_, rfl⟩) dX3_admitBorrower_72 (CH_ok (by simp [fBorrower, c_8, c_21, okR, show ¬ B = 6 by omega]) (hD4.cw (fun j hj => by simp only [abV, ad, sb, upd, zr, plK]; (repeat' split) <;> first | rfl | omega | (exact i_0a.symm) | grind))) (by decide)
    · skip
      refine r_flt (pc := 24) C (by decide) kf_X3_96 dX3_admitBorrower_24 ?_
      exact r_aret (pc := 27) C (Or.inl ⟨_, rfl⟩) (Or.inr ⟨_, rfl⟩) dX3_admitBorrower_27 (CH_no (c := 2) (by simp [fBorrower, c_8, c_21, okR, show B = 6 by omega]) (by decide) (by decide)) (by decide)
  · skip
    refine r_flt (pc := 11) C (by decide) kf_X3_148 dX3_admitBorrower_11 ?_
    exact r_aret (pc := 14) C (Or.inl ⟨_, rfl⟩) (Or.inr ⟨_, rfl⟩) dX3_admitBorrower_14 (CH_no (c := 1) (by simp [fBorrower, c_8]) (by decide) (by decide)) (by decide)

set_option maxHeartbeats 1000000 in
theorem c_X3_bringUnits__v {g : GG} {X : va_W} {T : TT} {I : II} {b : Nat} (hd : isDk T b) {w : Nat → Int32} {B N E : Nat} {pm : Nat → Nat} (hV : DV I b w B N E pm) {n : Nat} (n1 : n < B) {k_ u : Int32} {D U : Nat} (hG : Gd w B N E D U) (hS : Sd w N) : Mc g yX3_bringUnits cX3_bringUnits 5 (some (.object "LendingDesk$Fault")) 4 0 0 [.ref b, .int (nI n), .int k_, .int u] X T I (CH g I b X T 1 (fBring w B (nI n) k_ u) (brV w n (cl k_) u) B N E (w (22 + 6 * n + (2 + cl k_)) + u)) := by
  have hB6 := hV.hB
  have hN10 := hV.hN
  have hE20 := hV.hE
  have hB := hG.B.1
  have hN := hG.N.1
  have hE := hG.E.1
  have hW := hV.toW
  have e_n : (nI n).toNatClampNeg = n := nI_clamp (by omega)
  have o_n : okB B (nI n) := okB_nI hB6 n1
  refine Mc.of (by decide) (Nat.le_of_ble_eq_true rfl) (fun k hfl C => ?_)
  refine r_lo (lo' := [(0, _), (1, _), (2, _), (3, _)]) rfl ?_
  refine r_aload_n (pc := 0) C 0 dX3_bringUnits_0 rfl rfl ?_
  refine r_iload_n (pc := 1) C 1 dX3_bringUnits_1 rfl rfl ?_
  refine r_cVr (pc := 2) C hfl k_X3_158 (c_X3_borrowerAt__v hd hV hB n1) ((Dk_0 hd)) ca_X3 rfl rfl (Nat.le_of_ble_eq_true rfl) (by decide) (by decide) dX3_bringUnits_2 ?_
  refine r_astore (pc := 5) (lo' := [(4, _), (0, _), (1, _), (2, _), (3, _)]) C dX3_bringUnits_5 (by decide) rfl ?_
  refine r_aload (pc := 7) C 0 dX3_bringUnits_7 rfl ?_
  refine r_ifnullR (pc := 9) C dX3_bringUnits_9 ?_
  refine r_iload_n (pc := 12) C 3 dX3_bringUnits_12 rfl rfl ?_
  refine r_callSN (pc := 13) C hfl kn_X3_162 c_X9_isKind rfl rfl (Nat.le_of_ble_eq_true rfl) (by decide) (by decide) dX3_bringUnits_13 ?_
  refine r_ifneB (pc := 16) (tgt := 23) C dX3_bringUnits_16 rfl (fun c_16 => ?_) (fun c_16 => ?_)
  · skip
    obtain ⟨m, m1, rfl⟩ := okK_of c_16
    have e_m : (nI m).toNatClampNeg = m := nI_clamp (by omega)
    refine r_iload_n (pc := 23) C 4 dX3_bringUnits_23 rfl rfl ?_
    refine r_iconst (pc := 24) (v := 1) C dX3_bringUnits_24 rfl ?_
    refine r_bipush (pc := 25) (v := 99) C dX3_bringUnits_25 rfl ?_
    refine r_callSN (pc := 27) C hfl kn_X3_144 c_X9_isWithin rfl rfl (Nat.le_of_ble_eq_true rfl) (by decide) (by decide) dX3_bringUnits_27 ?_
    refine r_ifneB (pc := 30) (tgt := 37) C dX3_bringUnits_30 rfl (fun c_30 => ?_) (fun c_30 => ?_)
    · skip
      refine r_aload (pc := 37) C 0 dX3_bringUnits_37 rfl ?_
      refine r_getR (pc := 39) (x := b + 10 + 2 * n + 1) C f_X3_169 ((Dk_b hd (by omega))) rfl rfl dX3_bringUnits_39 ?_
      refine r_iload_n (pc := 42) C 3 dX3_bringUnits_42 rfl rfl ?_
      refine r_iald (pc := 43) (x := m) C ((Dk_g hd (by omega))) rfl (by omega) (by decide) dX3_bringUnits_43 ?_
      refine r_t (hW.get (at_goods n1 (by omega))) ?_
      refine r_iload_n (pc := 44) C 4 dX3_bringUnits_44 rfl rfl ?_
      refine r_iadd (pc := 45) C dX3_bringUnits_45 ?_
      refine r_sipush (pc := 46) (v := 999) C dX3_bringUnits_46 rfl ?_
      refine r_cle (pc := 49) (tgt := 56) C dX3_bringUnits_49 rfl (fun c_49 => ?_) (fun c_49 => ?_)
      · skip
        refine r_aload (pc := 56) C 0 dX3_bringUnits_56 rfl ?_
        refine r_getR (pc := 58) (x := b + 10 + 2 * n + 1) C f_X3_169 ((Dk_b hd (by omega))) rfl rfl dX3_bringUnits_58 ?_
        refine r_iload_n (pc := 61) C 3 dX3_bringUnits_61 rfl rfl ?_
        refine r_dup2 (pc := 62) C dX3_bringUnits_62 rfl rfl ?_
        refine r_iald (pc := 63) (x := m) C ((Dk_g hd (by omega))) rfl (by omega) (by decide) dX3_bringUnits_63 ?_
        refine r_t (hW.get (at_goods n1 (by omega))) ?_
        refine r_iload_n (pc := 64) C 4 dX3_bringUnits_64 rfl rfl ?_
        refine r_iadd (pc := 65) C dX3_bringUnits_65 ?_
        refine r_iast (pc := 66) (x := m) C ((Dk_g hd (by omega))) rfl (by omega) (by decide) dX3_bringUnits_66 ?_
        refine r_dk (hW.put (at_goods n1 (by omega))) (fun I1 hD1 => ?_)
        refine r_aload_n (pc := 67) C 1 dX3_bringUnits_67 rfl rfl ?_
        refine r_getR (pc := 68) (x := b + 3) C f_X3_49 ((Dk_0 hd)) rfl rfl dX3_bringUnits_68 ?_
        refine r_iload_n (pc := 71) C 3 dX3_bringUnits_71 rfl rfl ?_
        refine r_dup2 (pc := 72) C dX3_bringUnits_72 rfl rfl ?_
        refine r_iald (pc := 73) (x := m) C ((Dk_3 hd)) rfl (by omega) (by decide) dX3_bringUnits_73 ?_
        refine r_t (hD1.get (at_bu (by omega))) ?_
        refine r_iload_n (pc := 74) C 4 dX3_bringUnits_74 rfl rfl ?_
        refine r_iadd (pc := 75) C dX3_bringUnits_75 ?_
        refine r_iast (pc := 76) (x := m) C ((Dk_3 hd)) rfl (by omega) (by decide) dX3_bringUnits_76 ?_
        refine r_dk (hD1.put (at_bu (by omega))) (fun I2 hD2 => ?_)
        refine r_aload_n (pc := 77) C 1 dX3_bringUnits_77 rfl rfl ?_
        refine r_aload (pc := 78) C 0 dX3_bringUnits_78 rfl ?_
        refine r_getR (pc := 80) (x := b + 10 + 2 * n + 1) C f_X3_169 ((Dk_b hd (by omega))) rfl rfl dX3_bringUnits_80 ?_
        refine r_iload_n (pc := 83) C 3 dX3_bringUnits_83 rfl rfl ?_
        refine r_iald (pc := 84) (x := m) C ((Dk_g hd (by omega))) rfl (by omega) (by decide) dX3_bringUnits_84 ?_
        refine r_t (hD2.get (at_goods n1 (by omega))) ?_
        refine r_t (y := w (22 + 6 * n + (2 + m)) + u) ((upd_n (by omega)).trans upd_e) ?_
        refine r_putI (pc := 85) C f_X3_39 ((Dk_0 hd)) rfl rfl rfl dX3_bringUnits_85 ?_
        refine r_dk hD2.ans (fun I3 hD3 => ?_)
        refine r_flt (pc := 88) C (by decide) kf_X3_155 dX3_bringUnits_88 ?_
        exact r_aret (pc := 91) C (Or.inl ⟨_, rfl⟩) (Or.inr ⟨_, rfl⟩) dX3_bringUnits_91 (CH_ok (by simp [fBring, o_n, e_n, e_m, c_16, c_30, Int32.not_lt.mpr c_49]) (by rw [cl, e_m]; exact hD3)) (by decide)
      · skip
        refine r_flt (pc := 52) C (by decide) kf_X3_96 dX3_bringUnits_52 ?_
        exact r_aret (pc := 55) C (Or.inl ⟨_, rfl⟩) (Or.inr ⟨_, rfl⟩) dX3_bringUnits_55 (CH_no (c := 3) (by simp [fBring, o_n, e_n, e_m, c_16, c_30, Int32.not_le.mp c_49]) (by decide) (by decide)) (by decide)
    · skip
      refine r_flt (pc := 33) C (by decide) kf_X3_148 dX3_bringUnits_33 ?_
      exact r_aret (pc := 36) C (Or.inl ⟨_, rfl⟩) (Or.inr ⟨_, rfl⟩) dX3_bringUnits_36 (CH_no (c := 2) (by simp [fBring, o_n, c_16, c_30]) (by decide) (by decide)) (by decide)
  · skip
    refine r_flt (pc := 19) C (by decide) kf_X3_166 dX3_bringUnits_19 ?_
    exact r_aret (pc := 22) C (Or.inl ⟨_, rfl⟩) (Or.inr ⟨_, rfl⟩) dX3_bringUnits_22 (CH_no (c := 1) (by simp [fBring, c_16]) (by decide) (by decide)) (by decide)

set_option maxHeartbeats 1000000 in
theorem c_X3_bringUnits__x {g : GG} {X : va_W} {T : TT} {I : II} {b : Nat} (hd : isDk T b) {w : Nat → Int32} {B N E : Nat} {pm : Nat → Nat} (hV : DV I b w B N E pm) {x k_ u : Int32} (hx : ¬ okB B x) {D U : Nat} (hG : Gd w B N E D U) (hS : Sd w N) : Mc g yX3_bringUnits cX3_bringUnits 5 (some (.object "LendingDesk$Fault")) 4 0 0 [.ref b, .int x, .int k_, .int u] X T I (CH g I b X T 1 (fBring w B x k_ u) w B N E (nI 0)) := by
  have hB6 := hV.hB
  have hN10 := hV.hN
  have hE20 := hV.hE
  have hB := hG.B.1
  have hN := hG.N.1
  have hE := hG.E.1
  have hW := hV.toW
  refine Mc.of (by decide) (Nat.le_of_ble_eq_true rfl) (fun k hfl C => ?_)
  refine r_lo (lo' := [(0, _), (1, _), (2, _), (3, _)]) rfl ?_
  refine r_aload_n (pc := 0) C 0 dX3_bringUnits_0 rfl rfl ?_
  refine r_iload_n (pc := 1) C 1 dX3_bringUnits_1 rfl rfl ?_
  refine r_cVr (pc := 2) C hfl k_X3_158 (c_X3_borrowerAt__x hd hV hB hx) ((Dk_0 hd)) ca_X3 rfl rfl (Nat.le_of_ble_eq_true rfl) (by decide) (by decide) dX3_bringUnits_2 ?_
  refine r_astoreN (pc := 5) (lo' := [(4, _), (0, _), (1, _), (2, _), (3, _)]) C dX3_bringUnits_5 (by decide) rfl ?_
  refine r_aloadN (pc := 7) C 0 dX3_bringUnits_7 rfl ?_
  refine r_ifnullN (pc := 9) (tgt := 19) C dX3_bringUnits_9 rfl ?_
  refine r_flt (pc := 19) C (by decide) kf_X3_166 dX3_bringUnits_19 ?_
  exact r_aret (pc := 22) C (Or.inl ⟨_, rfl⟩) (Or.inr ⟨_, rfl⟩) dX3_bringUnits_22 (CH_no (c := 1) (by simp [fBring, hx]) (by decide) (by decide)) (by decide)

set_option maxHeartbeats 1000000 in
theorem c_X3_changePrice {g : GG} {X : va_W} {T : TT} {I : II} {b : Nat} (hd : isDk T b) {w : Nat → Int32} {B N E : Nat} {pm : Nat → Nat} (hV : DV I b w B N E pm) {k_ p : Int32} {D U : Nat} (hG : Gd w B N E D U) (hS : Sd w N) : Mc g yX3_changePrice cX3_changePrice 3 (some (.object "LendingDesk$Fault")) 4 0 0 [.ref b, .int k_, .int p] X T I (CH g I b X T 2 (fPrice k_ p) (upd w (10 + cl k_) p) B N E (w (10 + cl k_))) := by
  have hB6 := hV.hB
  have hN10 := hV.hN
  have hE20 := hV.hE
  have hB := hG.B.1
  have hN := hG.N.1
  have hE := hG.E.1
  have hW := hV.toW
  refine Mc.of (by decide) (Nat.le_of_ble_eq_true rfl) (fun k hfl C => ?_)
  refine r_lo (lo' := [(0, _), (1, _), (2, _)]) rfl ?_
  refine r_iload_n (pc := 0) C 1 dX3_changePrice_0 rfl rfl ?_
  refine r_callSN (pc := 1) C hfl kn_X3_162 c_X9_isKind rfl rfl (Nat.le_of_ble_eq_true rfl) (by decide) (by decide) dX3_changePrice_1 ?_
  refine r_ifneB (pc := 4) (tgt := 11) C dX3_changePrice_4 rfl (fun c_4 => ?_) (fun c_4 => ?_)
  · skip
    obtain ⟨m, m1, rfl⟩ := okK_of c_4
    have e_m : (nI m).toNatClampNeg = m := nI_clamp (by omega)
    refine r_iload_n (pc := 11) C 2 dX3_changePrice_11 rfl rfl ?_
    refine r_iconst (pc := 12) (v := 1) C dX3_changePrice_12 rfl ?_
    refine r_bipush (pc := 13) (v := 99) C dX3_changePrice_13 rfl ?_
    refine r_callSN (pc := 15) C hfl kn_X3_144 c_X9_isWithin rfl rfl (Nat.le_of_ble_eq_true rfl) (by decide) (by decide) dX3_changePrice_15 ?_
    refine r_ifneB (pc := 18) (tgt := 25) C dX3_changePrice_18 rfl (fun c_18 => ?_) (fun c_18 => ?_)
    · skip
      refine r_aload_n (pc := 25) C 0 dX3_changePrice_25 rfl rfl ?_
      refine r_aload_n (pc := 26) C 0 dX3_changePrice_26 rfl rfl ?_
      refine r_getR (pc := 27) (x := b + 1) C f_X3_42 ((Dk_0 hd)) rfl rfl dX3_changePrice_27 ?_
      refine r_iload_n (pc := 30) C 1 dX3_changePrice_30 rfl rfl ?_
      refine r_iald (pc := 31) (x := m) C ((Dk_1 hd)) rfl (by omega) (by decide) dX3_changePrice_31 ?_
      refine r_t (hW.get (at_pr (by omega))) ?_
      refine r_putI (pc := 32) C f_X3_39 ((Dk_0 hd)) rfl rfl rfl dX3_changePrice_32 ?_
      refine r_dk hW.ans (fun I1 hD1 => ?_)
      refine r_aload_n (pc := 35) C 0 dX3_changePrice_35 rfl rfl ?_
      refine r_getR (pc := 36) (x := b + 1) C f_X3_42 ((Dk_0 hd)) rfl rfl dX3_changePrice_36 ?_
      refine r_iload_n (pc := 39) C 1 dX3_changePrice_39 rfl rfl ?_
      refine r_iload_n (pc := 40) C 2 dX3_changePrice_40 rfl rfl ?_
      refine r_iast (pc := 41) (x := m) C ((Dk_1 hd)) rfl (by omega) (by decide) dX3_changePrice_41 ?_
      refine r_dk (hD1.put (at_pr (by omega))) (fun I2 hD2 => ?_)
      refine r_flt (pc := 42) C (by decide) kf_X3_155 dX3_changePrice_42 ?_
      exact r_aret (pc := 45) C (Or.inl ⟨_, rfl⟩) (Or.inr ⟨_, rfl⟩) dX3_changePrice_45 (CH_ok (by simp [fPrice, c_4, c_18]) (by rw [cl, e_m]; exact hD2)) (by decide)
    · skip
      refine r_flt (pc := 21) C (by decide) kf_X3_148 dX3_changePrice_21 ?_
      exact r_aret (pc := 24) C (Or.inl ⟨_, rfl⟩) (Or.inr ⟨_, rfl⟩) dX3_changePrice_24 (CH_no (c := 2) (by simp [fPrice, c_4, c_18]) (by decide) (by decide)) (by decide)
  · skip
    refine r_flt (pc := 7) C (by decide) kf_X3_166 dX3_changePrice_7 ?_
    exact r_aret (pc := 10) C (Or.inl ⟨_, rfl⟩) (Or.inr ⟨_, rfl⟩) dX3_changePrice_10 (CH_no (c := 1) (by simp [fPrice, c_4]) (by decide) (by decide)) (by decide)

set_option maxHeartbeats 1000000 in
theorem c_X3_grantLoan__v {g : GG} {X : va_W} {T : TT} {I : II} {b : Nat} (hd : isDk T b) {w : Nat → Int32} {B N E : Nat} {pm : Nat → Nat} (hV : DV I b w B N E pm) {n : Nat} (n1 : n < B) {k_ u p t : Int32} {D U : Nat} (hG : Gd w B N E D U) (hS : Sd w N) : Mc g yX3_grantLoan cX3_grantLoan 8 (some (.object "LendingDesk$Fault")) 6 0 0 [.ref b, .int (nI n), .int k_, .int u, .int p, .int t] X T I (CH g I b X T 3 (fLend w B N (nI n) k_ u p t) (ldV w N n (cl k_) u p t) B (N + 1) E (w 3)) := by
  have hB6 := hV.hB
  have hN10 := hV.hN
  have hE20 := hV.hE
  have hB := hG.B.1
  have hN := hG.N.1
  have hE := hG.E.1
  have hW := hV.toW
  have e_n : (nI n).toNatClampNeg = n := nI_clamp (by omega)
  have o_n : okB B (nI n) := okB_nI hB6 n1
  refine Mc.of (by decide) (Nat.le_of_ble_eq_true rfl) (fun k hfl C => ?_)
  refine r_lo (lo' := [(0, _), (1, _), (2, _), (3, _), (4, _), (5, _)]) rfl ?_
  refine r_aload_n (pc := 0) C 0 dX3_grantLoan_0 rfl rfl ?_
  refine r_iload_n (pc := 1) C 1 dX3_grantLoan_1 rfl rfl ?_
  refine r_cVr (pc := 2) C hfl k_X3_158 (c_X3_borrowerAt__v hd hV hB n1) ((Dk_0 hd)) ca_X3 rfl rfl (Nat.le_of_ble_eq_true rfl) (by decide) (by decide) dX3_grantLoan_2 ?_
  refine r_astore (pc := 5) (lo' := [(6, _), (0, _), (1, _), (2, _), (3, _), (4, _), (5, _)]) C dX3_grantLoan_5 (by decide) rfl ?_
  refine r_aload (pc := 7) C 0 dX3_grantLoan_7 rfl ?_
  refine r_ifnullR (pc := 9) C dX3_grantLoan_9 ?_
  refine r_iload_n (pc := 12) C 3 dX3_grantLoan_12 rfl rfl ?_
  refine r_callSN (pc := 13) C hfl kn_X3_162 c_X9_isKind rfl rfl (Nat.le_of_ble_eq_true rfl) (by decide) (by decide) dX3_grantLoan_13 ?_
  refine r_ifneB (pc := 16) (tgt := 23) C dX3_grantLoan_16 rfl (fun c_16 => ?_) (fun c_16 => ?_)
  · skip
    obtain ⟨m, m1, rfl⟩ := okK_of c_16
    have e_m : (nI m).toNatClampNeg = m := nI_clamp (by omega)
    refine r_iload_n (pc := 23) C 4 dX3_grantLoan_23 rfl rfl ?_
    refine r_iconst (pc := 24) (v := 1) C dX3_grantLoan_24 rfl ?_
    refine r_bipush (pc := 25) (v := 99) C dX3_grantLoan_25 rfl ?_
    refine r_callSN (pc := 27) C hfl kn_X3_144 c_X9_isWithin rfl rfl (Nat.le_of_ble_eq_true rfl) (by decide) (by decide) dX3_grantLoan_27 ?_
    refine r_ifeqB (pc := 30) (tgt := 56) C dX3_grantLoan_30 rfl (fun c_30 => ?_) (fun c_30 => ?_)
    · skip
      refine r_flt (pc := 56) C (by decide) kf_X3_148 dX3_grantLoan_56 ?_
      exact r_aret (pc := 59) C (Or.inl ⟨_, rfl⟩) (Or.inr ⟨_, rfl⟩) dX3_grantLoan_59 (CH_no (c := 2) (by simp [fLend, o_n, c_16, c_30]) (by decide) (by decide)) (by decide)
    · skip
      refine r_iload (pc := 33) C 5 dX3_grantLoan_33 rfl ?_
      refine r_iconst (pc := 35) (v := 1) C dX3_grantLoan_35 rfl ?_
      refine r_sipush (pc := 36) (v := 500) C dX3_grantLoan_36 rfl ?_
      refine r_callSN (pc := 39) C hfl kn_X3_144 c_X9_isWithin rfl rfl (Nat.le_of_ble_eq_true rfl) (by decide) (by decide) dX3_grantLoan_39 ?_
      refine r_ifeqB (pc := 42) (tgt := 56) C dX3_grantLoan_42 rfl (fun c_42 => ?_) (fun c_42 => ?_)
      · skip
        refine r_flt (pc := 56) C (by decide) kf_X3_148 dX3_grantLoan_56 ?_
        exact r_aret (pc := 59) C (Or.inl ⟨_, rfl⟩) (Or.inr ⟨_, rfl⟩) dX3_grantLoan_59 (CH_no (c := 2) (by simp [fLend, o_n, c_16, c_30, c_42]) (by decide) (by decide)) (by decide)
      · skip
        refine r_iload (pc := 45) C 6 dX3_grantLoan_45 rfl ?_
        refine r_iconst (pc := 47) (v := 1) C dX3_grantLoan_47 rfl ?_
        refine r_bipush (pc := 48) (v := 60) C dX3_grantLoan_48 rfl ?_
        refine r_callSN (pc := 50) C hfl kn_X3_144 c_X9_isWithin rfl rfl (Nat.le_of_ble_eq_true rfl) (by decide) (by decide) dX3_grantLoan_50 ?_
        refine r_ifneB (pc := 53) (tgt := 60) C dX3_grantLoan_53 rfl (fun c_53 => ?_) (fun c_53 => ?_)
        · skip
          refine r_aload_n (pc := 60) C 1 dX3_grantLoan_60 rfl rfl ?_
          refine r_aload (pc := 61) C 0 dX3_grantLoan_61 rfl ?_
          refine r_iload_n (pc := 63) C 3 dX3_grantLoan_63 rfl rfl ?_
          refine r_iload_n (pc := 64) C 4 dX3_grantLoan_64 rfl rfl ?_
          refine r_cVi (pc := 65) C hfl k_X3_172 (c_X3_mayPledgeForLoan hd hV hN n1 m1) ((Dk_0 hd)) ca_X3 rfl rfl (Nat.le_of_ble_eq_true rfl) (by decide) (by decide) dX3_grantLoan_65 ?_
          refine r_ifeqB (pc := 68) (tgt := 96) C dX3_grantLoan_68 rfl (fun c_68 => ?_) (fun c_68 => ?_)
          · skip
            refine r_flt (pc := 96) C (by decide) kf_X3_96 dX3_grantLoan_96 ?_
            exact r_aret (pc := 99) C (Or.inl ⟨_, rfl⟩) (Or.inr ⟨_, rfl⟩) dX3_grantLoan_99 (CH_no (c := 3) (by have h9 : N = 10 ∨ ¬ w (22 + 6 * n + 1) < nI 2 ∨ w (22 + 6 * n + (2 + m)) < u := not_may hN10 c_68; simp only [fLend, e_n, e_m]; rw [if_neg (by simp [o_n, c_16]), if_neg (by simp [c_30, c_42, c_53]), if_pos h9]) (by decide) (by decide)) (by decide)
          · skip
            refine r_aload_n (pc := 71) C 1 dX3_grantLoan_71 rfl rfl ?_
            refine r_getI (pc := 72) C f_X3_15 ((Dk_0 hd)) rfl dX3_grantLoan_72 ?_
            refine r_t (hW.get at_funds) ?_
            refine r_iload (pc := 75) C 5 dX3_grantLoan_75 rfl ?_
            refine r_clt (pc := 77) (tgt := 96) C dX3_grantLoan_77 rfl (fun c_77 => ?_) (fun c_77 => ?_)
            · skip
              refine r_flt (pc := 96) C (by decide) kf_X3_96 dX3_grantLoan_96 ?_
              exact r_aret (pc := 99) C (Or.inl ⟨_, rfl⟩) (Or.inr ⟨_, rfl⟩) dX3_grantLoan_99 (CH_no (c := 3) (by have h9 : ¬ (N = 10 ∨ ¬ w (22 + 6 * n + 1) < nI 2 ∨ w (22 + 6 * n + (2 + m)) < u) := may_ok c_68; simp only [fLend, e_n, e_m]; rw [if_neg (by simp [o_n, c_16]), if_neg (by simp [c_30, c_42, c_53]), if_neg h9, if_pos (Or.inl c_77)]) (by decide) (by decide)) (by decide)
            · skip
              refine r_iload (pc := 80) C 5 dX3_grantLoan_80 rfl ?_
              refine r_iload_n (pc := 82) C 4 dX3_grantLoan_82 rfl rfl ?_
              refine r_aload_n (pc := 83) C 1 dX3_grantLoan_83 rfl rfl ?_
              refine r_getR (pc := 84) (x := b + 1) C f_X3_42 ((Dk_0 hd)) rfl rfl dX3_grantLoan_84 ?_
              refine r_iload_n (pc := 87) C 3 dX3_grantLoan_87 rfl rfl ?_
              refine r_iald (pc := 88) (x := m) C ((Dk_1 hd)) rfl (by omega) (by decide) dX3_grantLoan_88 ?_
              refine r_t (hW.get (at_pr (by omega))) ?_
              refine r_imul (pc := 89) C dX3_grantLoan_89 ?_
              refine r_callSN (pc := 90) C hfl kn_X3_176 c_X9_covers rfl rfl (Nat.le_of_ble_eq_true rfl) (by decide) (by decide) dX3_grantLoan_90 ?_
              refine r_ifneB (pc := 93) (tgt := 100) C dX3_grantLoan_93 rfl (fun c_93 => ?_) (fun c_93 => ?_)
              · skip
                refine r_aload_n (pc := 100) C 1 dX3_grantLoan_100 rfl rfl ?_
                refine r_getR (pc := 101) (x := b + 5) C f_X3_60 ((Dk_0 hd)) rfl rfl dX3_grantLoan_101 ?_
                refine r_aload_n (pc := 104) C 1 dX3_grantLoan_104 rfl rfl ?_
                refine r_getI (pc := 105) C f_X3_21 ((Dk_0 hd)) rfl dX3_grantLoan_105 ?_
                refine r_t (hW.get at_loanTotal) ?_
                refine r_t (y := nI N) hN ?_
                refine r_lald (pc := 108) (x := N) (p := pm N) C ((Dk_5 hd)) rfl (by omega) (hW.p (by omega)) (hW.l (by omega)) dX3_grantLoan_108 ?_
                refine r_astore (pc := 109) (lo' := [(7, _), (6, _), (0, _), (1, _), (2, _), (3, _), (4, _), (5, _)]) C dX3_grantLoan_109 (by decide) rfl ?_
                refine r_aload (pc := 111) C 0 dX3_grantLoan_111 rfl ?_
                refine r_aload_n (pc := 113) C 2 dX3_grantLoan_113 rfl rfl ?_
                refine r_getI (pc := 114) C f_X3_24 ((Dk_0 hd)) rfl dX3_grantLoan_114 ?_
                refine r_t (hW.get at_nextId) ?_
                refine r_iload_n (pc := 117) C 3 dX3_grantLoan_117 rfl rfl ?_
                refine r_iload (pc := 118) C 6 dX3_grantLoan_118 rfl ?_
                refine r_bipush (pc := 120) (v := 10) C dX3_grantLoan_120 rfl ?_
                refine r_iconst (pc := 122) (v := 5) C dX3_grantLoan_122 rfl ?_
                refine r_aload_n (pc := 123) C 2 dX3_grantLoan_123 rfl rfl ?_
                refine r_iload_n (pc := 124) C 3 dX3_grantLoan_124 rfl rfl ?_
                refine r_cVi (pc := 125) C hfl k_X3_180 (c_X3_loansHeldBy hd hV hN) ((Dk_0 hd)) ca_X3 rfl rfl (Nat.le_of_ble_eq_true rfl) (by decide) (by decide) dX3_grantLoan_125 ?_
                refine r_imul (pc := 128) C dX3_grantLoan_128 ?_
                refine r_iadd (pc := 129) C dX3_grantLoan_129 ?_
                refine r_aload_n (pc := 130) C 2 dX3_grantLoan_130 rfl rfl ?_
                refine r_getI (pc := 131) C f_X3_9 ((Dk_0 hd)) rfl dX3_grantLoan_131 ?_
                refine r_t (hW.get at_today) ?_
                refine r_iload (pc := 134) C 7 dX3_grantLoan_134 rfl ?_
                refine r_iadd (pc := 136) C dX3_grantLoan_136 ?_
                refine r_cVv (pc := 137) C hfl k_X3_183 (c_X7_begin (Dk_l hd (hW.l (by omega))) (Dk_p hd (hW.l (by omega)))) (Dk_l hd (hW.l (by omega))) ca_X7 rfl rfl (Nat.le_of_ble_eq_true rfl) (by decide) (by decide) dX3_grantLoan_137 ?_
                refine r_dk (hW.newN (And.left c_68)) (fun I1 hD1 => ?_)
                refine r_aload (pc := 140) C 0 dX3_grantLoan_140 rfl ?_
                refine r_getR (pc := 142) (x := b + 5 + 17 + 2 * pm N + 1) C f_X3_186 ((Dk_l hd (hW.l (by omega)))) rfl rfl dX3_grantLoan_142 ?_
                refine r_iload_n (pc := 145) C 4 dX3_grantLoan_145 rfl rfl ?_
                refine r_iload_n (pc := 146) C 5 dX3_grantLoan_146 rfl rfl ?_
                refine r_iast (pc := 147) (x := m) C ((Dk_p hd (hD1.l (by omega)))) rfl (by omega) (by decide) dX3_grantLoan_147 ?_
                refine r_dk (hD1.put (at_pledged (by omega) (by omega))) (fun I2 hD2 => ?_)
                refine r_aload (pc := 148) C 1 dX3_grantLoan_148 rfl ?_
                refine r_getR (pc := 150) (x := b + 10 + 2 * n + 1) C f_X3_169 ((Dk_b hd (by omega))) rfl rfl dX3_grantLoan_150 ?_
                refine r_iload_n (pc := 153) C 4 dX3_grantLoan_153 rfl rfl ?_
                refine r_dup2 (pc := 154) C dX3_grantLoan_154 rfl rfl ?_
                refine r_iald (pc := 155) (x := m) C ((Dk_g hd (by omega))) rfl (by omega) (by decide) dX3_grantLoan_155 ?_
                refine r_t (hD2.get (at_goods n1 (by omega))) ?_
                refine r_t (y := w (22 + 6 * n + (2 + m))) ((upd_n (by omega)).trans (nl_n (by omega))) ?_
                refine r_iload_n (pc := 156) C 5 dX3_grantLoan_156 rfl rfl ?_
                refine r_isub (pc := 157) C dX3_grantLoan_157 ?_
                refine r_iast (pc := 158) (x := m) C ((Dk_g hd (by omega))) rfl (by omega) (by decide) dX3_grantLoan_158 ?_
                refine r_dk (hD2.put (at_goods n1 (by omega))) (fun I3 hD3 => ?_)
                refine r_aload (pc := 159) C 1 dX3_grantLoan_159 rfl ?_
                refine r_dup (pc := 161) C dX3_grantLoan_161 rfl ?_
                refine r_getI (pc := 162) C f_X3_189 ((Dk_b hd (by omega))) rfl dX3_grantLoan_162 ?_
                refine r_t (hD3.get (at_purse n1)) ?_
                refine r_t (y := w (22 + 6 * n + 0)) ((upd_n (by omega)).trans ((upd_n (by omega)).trans (nl_n (by omega)))) ?_
                refine r_iload (pc := 165) C 6 dX3_grantLoan_165 rfl ?_
                refine r_iadd (pc := 167) C dX3_grantLoan_167 ?_
                refine r_putI (pc := 168) C f_X3_189 ((Dk_b hd (by omega))) rfl rfl rfl dX3_grantLoan_168 ?_
                refine r_dk (hD3.put (at_purse n1)) (fun I4 hD4 => ?_)
                refine r_aload_n (pc := 171) C 2 dX3_grantLoan_171 rfl rfl ?_
                refine r_dup (pc := 172) C dX3_grantLoan_172 rfl ?_
                refine r_getI (pc := 173) C f_X3_15 ((Dk_0 hd)) rfl dX3_grantLoan_173 ?_
                refine r_t (hD4.get at_funds) ?_
                refine r_t (y := w 4) ((upd_n (by omega)).trans ((upd_n (by omega)).trans ((upd_n (by omega)).trans (nl_n (by omega))))) ?_
                refine r_iload (pc := 176) C 6 dX3_grantLoan_176 rfl ?_
                refine r_isub (pc := 178) C dX3_grantLoan_178 ?_
                refine r_putI (pc := 179) C f_X3_15 ((Dk_0 hd)) rfl rfl rfl dX3_grantLoan_179 ?_
                refine r_dk (hD4.put at_funds) (fun I5 hD5 => ?_)
                refine r_aload_n (pc := 182) C 2 dX3_grantLoan_182 rfl rfl ?_
                refine r_dup (pc := 183) C dX3_grantLoan_183 rfl ?_
                refine r_getI (pc := 184) C f_X3_21 ((Dk_0 hd)) rfl dX3_grantLoan_184 ?_
                refine r_t (hD5.get at_loanTotal) ?_
                refine r_t (y := nI N) ((upd_n (by omega)).trans ((upd_n (by omega)).trans ((upd_n (by omega)).trans ((upd_n (by omega)).trans ((nl_n (by omega)).trans hN))))) ?_
                refine r_iconst (pc := 187) (v := 1) C dX3_grantLoan_187 rfl ?_
                refine r_iaddN (pc := 188) C dX3_grantLoan_188 ?_
                refine r_putI (pc := 189) C f_X3_21 ((Dk_0 hd)) rfl rfl rfl dX3_grantLoan_189 ?_
                refine r_dk (hD5.put at_loanTotal) (fun I6 hD6 => ?_)
                refine r_aload_n (pc := 192) C 2 dX3_grantLoan_192 rfl rfl ?_
                refine r_aload_n (pc := 193) C 2 dX3_grantLoan_193 rfl rfl ?_
                refine r_getI (pc := 194) C f_X3_24 ((Dk_0 hd)) rfl dX3_grantLoan_194 ?_
                refine r_t (hD6.get at_nextId) ?_
                refine r_t (y := w 3) ((upd_n (by omega)).trans ((upd_n (by omega)).trans ((upd_n (by omega)).trans ((upd_n (by omega)).trans ((upd_n (by omega)).trans (nl_n (by omega))))))) ?_
                refine r_putI (pc := 197) C f_X3_39 ((Dk_0 hd)) rfl rfl rfl dX3_grantLoan_197 ?_
                refine r_dk hD6.ans (fun I7 hD7 => ?_)
                refine r_aload_n (pc := 200) C 2 dX3_grantLoan_200 rfl rfl ?_
                refine r_dup (pc := 201) C dX3_grantLoan_201 rfl ?_
                refine r_getI (pc := 202) C f_X3_24 ((Dk_0 hd)) rfl dX3_grantLoan_202 ?_
                refine r_t (hD7.get at_nextId) ?_
                refine r_t (y := w 3) ((upd_n (by omega)).trans ((upd_n (by omega)).trans ((upd_n (by omega)).trans ((upd_n (by omega)).trans ((upd_n (by omega)).trans (nl_n (by omega))))))) ?_
                refine r_iconst (pc := 205) (v := 1) C dX3_grantLoan_205 rfl ?_
                refine r_iadd (pc := 206) C dX3_grantLoan_206 ?_
                refine r_putI (pc := 207) C f_X3_24 ((Dk_0 hd)) rfl rfl rfl dX3_grantLoan_207 ?_
                refine r_dk (hD7.put at_nextId) (fun I8 hD8 => ?_)
                refine r_flt (pc := 210) C (by decide) kf_X3_155 dX3_grantLoan_210 ?_
                exact r_aret (pc := 213) C (Or.inl ⟨_, rfl⟩) (Or.inr ⟨_, rfl⟩) dX3_grantLoan_213 (CH_ok (by have h9 : ¬ (N = 10 ∨ ¬ w (22 + 6 * n + 1) < nI 2 ∨ w (22 + 6 * n + (2 + m)) < u) := may_ok c_68; simp only [fLend, e_n, e_m]; rw [if_neg (by simp [o_n, c_16]), if_neg (by simp [c_30, c_42, c_53]), if_neg h9, if_neg (fun z => z.elim c_77 (by rw [← i_cov]; exact Int32.not_lt.mpr c_93))]) (by rw [cl, e_m]; exact hD8.cw (ld_rw hB6 n1 m1 (And.left c_68)))) (by decide)
              · skip
                refine r_flt (pc := 96) C (by decide) kf_X3_96 dX3_grantLoan_96 ?_
                exact r_aret (pc := 99) C (Or.inl ⟨_, rfl⟩) (Or.inr ⟨_, rfl⟩) dX3_grantLoan_99 (CH_no (c := 3) (by have h9 : ¬ (N = 10 ∨ ¬ w (22 + 6 * n + 1) < nI 2 ∨ w (22 + 6 * n + (2 + m)) < u) := may_ok c_68; simp only [fLend, e_n, e_m]; rw [if_neg (by simp [o_n, c_16]), if_neg (by simp [c_30, c_42, c_53]), if_neg h9, if_pos (Or.inr (by rw [← i_cov]; exact Int32.not_le.mp c_93))]) (by decide) (by decide)) (by decide)
        · skip
          refine r_flt (pc := 56) C (by decide) kf_X3_148 dX3_grantLoan_56 ?_
          exact r_aret (pc := 59) C (Or.inl ⟨_, rfl⟩) (Or.inr ⟨_, rfl⟩) dX3_grantLoan_59 (CH_no (c := 2) (by simp [fLend, o_n, c_16, c_30, c_42, c_53]) (by decide) (by decide)) (by decide)
  · skip
    refine r_flt (pc := 19) C (by decide) kf_X3_166 dX3_grantLoan_19 ?_
    exact r_aret (pc := 22) C (Or.inl ⟨_, rfl⟩) (Or.inr ⟨_, rfl⟩) dX3_grantLoan_22 (CH_no (c := 1) (by simp [fLend, c_16]) (by decide) (by decide)) (by decide)

set_option maxHeartbeats 1000000 in
theorem c_X3_grantLoan__x {g : GG} {X : va_W} {T : TT} {I : II} {b : Nat} (hd : isDk T b) {w : Nat → Int32} {B N E : Nat} {pm : Nat → Nat} (hV : DV I b w B N E pm) {x k_ u p t : Int32} (hx : ¬ okB B x) {D U : Nat} (hG : Gd w B N E D U) (hS : Sd w N) : Mc g yX3_grantLoan cX3_grantLoan 8 (some (.object "LendingDesk$Fault")) 6 0 0 [.ref b, .int x, .int k_, .int u, .int p, .int t] X T I (CH g I b X T 3 (fLend w B N x k_ u p t) w B N E (nI 0)) := by
  have hB6 := hV.hB
  have hN10 := hV.hN
  have hE20 := hV.hE
  have hB := hG.B.1
  have hN := hG.N.1
  have hE := hG.E.1
  have hW := hV.toW
  refine Mc.of (by decide) (Nat.le_of_ble_eq_true rfl) (fun k hfl C => ?_)
  refine r_lo (lo' := [(0, _), (1, _), (2, _), (3, _), (4, _), (5, _)]) rfl ?_
  refine r_aload_n (pc := 0) C 0 dX3_grantLoan_0 rfl rfl ?_
  refine r_iload_n (pc := 1) C 1 dX3_grantLoan_1 rfl rfl ?_
  refine r_cVr (pc := 2) C hfl k_X3_158 (c_X3_borrowerAt__x hd hV hB hx) ((Dk_0 hd)) ca_X3 rfl rfl (Nat.le_of_ble_eq_true rfl) (by decide) (by decide) dX3_grantLoan_2 ?_
  refine r_astoreN (pc := 5) (lo' := [(6, _), (0, _), (1, _), (2, _), (3, _), (4, _), (5, _)]) C dX3_grantLoan_5 (by decide) rfl ?_
  refine r_aloadN (pc := 7) C 0 dX3_grantLoan_7 rfl ?_
  refine r_ifnullN (pc := 9) (tgt := 19) C dX3_grantLoan_9 rfl ?_
  refine r_flt (pc := 19) C (by decide) kf_X3_166 dX3_grantLoan_19 ?_
  exact r_aret (pc := 22) C (Or.inl ⟨_, rfl⟩) (Or.inr ⟨_, rfl⟩) dX3_grantLoan_22 (CH_no (c := 1) (by simp [fLend, hx]) (by decide) (by decide)) (by decide)

set_option maxHeartbeats 1000000 in
theorem c_X3_pledgeUnits__s {g : GG} {X : va_W} {T : TT} {I : II} {b : Nat} (hd : isDk T b) {w : Nat → Int32} {B N E : Nat} {pm : Nat → Nat} (hV : DV I b w B N E pm) {id : Int32} {s : Nat} (hs : s < N) (hr : atS w N id (nI s)) {k_ u : Int32} {D U : Nat} (hG : Gd w B N E D U) (hS : Sd w N) : Mc g yX3_pledgeUnits cX3_pledgeUnits 6 (some (.object "LendingDesk$Fault")) 5 0 0 [.ref b, .int id, .int k_, .int u] X T I (CH g I b X T 4 (fPledge w (nI s) k_ u) (pgV w s (bN w s) (cl k_) u) B N E (valV (pgV w s (bN w s) (cl k_) u) s)) := by
  have hB6 := hV.hB
  have hN10 := hV.hN
  have hE20 := hV.hE
  have hB := hG.B.1
  have hN := hG.N.1
  have hE := hG.E.1
  have hW := hV.toW
  obtain ⟨n1, hw⟩ := hG.own hs
  have e_s : (nI s).toNatClampNeg = s := nI_clamp (by omega)
  have n_s : ¬ nI s < 0 := nI_pos (by omega)
  have e_b : (w (58 + 10 * s + 1)).toNatClampNeg = bN w s := rfl
  refine Mc.of (by decide) (Nat.le_of_ble_eq_true rfl) (fun k hfl C => ?_)
  refine r_lo (lo' := [(0, _), (1, _), (2, _), (3, _)]) rfl ?_
  refine r_aload_n (pc := 0) C 0 dX3_pledgeUnits_0 rfl rfl ?_
  refine r_iload_n (pc := 1) C 1 dX3_pledgeUnits_1 rfl rfl ?_
  refine r_cVr (pc := 2) C hfl k_X3_196 (c_X3_loanWithId__s hd hV hN hs hr) ((Dk_0 hd)) ca_X3 rfl rfl (Nat.le_of_ble_eq_true rfl) (by decide) (by decide) dX3_pledgeUnits_2 ?_
  refine r_astore (pc := 5) (lo' := [(4, _), (0, _), (1, _), (2, _), (3, _)]) C dX3_pledgeUnits_5 (by decide) rfl ?_
  refine r_aload (pc := 7) C 0 dX3_pledgeUnits_7 rfl ?_
  refine r_ifnnR (pc := 9) (tgt := 16) C dX3_pledgeUnits_9 rfl ?_
  refine r_iload_n (pc := 16) C 3 dX3_pledgeUnits_16 rfl rfl ?_
  refine r_callSN (pc := 17) C hfl kn_X3_162 c_X9_isKind rfl rfl (Nat.le_of_ble_eq_true rfl) (by decide) (by decide) dX3_pledgeUnits_17 ?_
  refine r_ifneB (pc := 20) (tgt := 27) C dX3_pledgeUnits_20 rfl (fun c_20 => ?_) (fun c_20 => ?_)
  · skip
    obtain ⟨m, m1, rfl⟩ := okK_of c_20
    have e_m : (nI m).toNatClampNeg = m := nI_clamp (by omega)
    refine r_iload_n (pc := 27) C 4 dX3_pledgeUnits_27 rfl rfl ?_
    refine r_iconst (pc := 28) (v := 1) C dX3_pledgeUnits_28 rfl ?_
    refine r_bipush (pc := 29) (v := 99) C dX3_pledgeUnits_29 rfl ?_
    refine r_callSN (pc := 31) C hfl kn_X3_144 c_X9_isWithin rfl rfl (Nat.le_of_ble_eq_true rfl) (by decide) (by decide) dX3_pledgeUnits_31 ?_
    refine r_ifneB (pc := 34) (tgt := 41) C dX3_pledgeUnits_34 rfl (fun c_34 => ?_) (fun c_34 => ?_)
    · skip
      refine r_aload_n (pc := 41) C 1 dX3_pledgeUnits_41 rfl rfl ?_
      refine r_aload (pc := 42) C 0 dX3_pledgeUnits_42 rfl ?_
      refine r_getI (pc := 44) C f_X3_203 ((Dk_l hd (hW.l (by omega)))) rfl dX3_pledgeUnits_44 ?_
      refine r_t (hW.get (at_loan (i := 1) hs (by decide))) ?_
      refine r_t (y := nI ((bN w s))) hw ?_
      refine r_cVr (pc := 47) C hfl k_X3_158 (c_X3_borrowerAt__v hd hV hB n1) ((Dk_0 hd)) ca_X3 rfl rfl (Nat.le_of_ble_eq_true rfl) (by decide) (by decide) dX3_pledgeUnits_47 ?_
      refine r_astore (pc := 50) (lo' := [(5, _), (4, _), (0, _), (1, _), (2, _), (3, _)]) C dX3_pledgeUnits_50 (by decide) rfl ?_
      refine r_aload (pc := 52) C 0 dX3_pledgeUnits_52 rfl ?_
      refine r_ifnullR (pc := 54) C dX3_pledgeUnits_54 ?_
      refine r_aload (pc := 57) C 0 dX3_pledgeUnits_57 rfl ?_
      refine r_getR (pc := 59) (x := b + 10 + 2 * ((bN w s)) + 1) C f_X3_169 ((Dk_b hd (by omega))) rfl rfl dX3_pledgeUnits_59 ?_
      refine r_iload_n (pc := 62) C 4 dX3_pledgeUnits_62 rfl rfl ?_
      refine r_iald (pc := 63) (x := m) C ((Dk_g hd (by omega))) rfl (by omega) (by decide) dX3_pledgeUnits_63 ?_
      refine r_t (hW.get (at_goods n1 (by omega))) ?_
      refine r_iload_n (pc := 64) C 5 dX3_pledgeUnits_64 rfl rfl ?_
      refine r_cge (pc := 65) (tgt := 72) C dX3_pledgeUnits_65 rfl (fun c_65 => ?_) (fun c_65 => ?_)
      · skip
        refine r_aload (pc := 72) C 0 dX3_pledgeUnits_72 rfl ?_
        refine r_getR (pc := 74) (x := b + 10 + 2 * ((bN w s)) + 1) C f_X3_169 ((Dk_b hd (by omega))) rfl rfl dX3_pledgeUnits_74 ?_
        refine r_iload_n (pc := 77) C 4 dX3_pledgeUnits_77 rfl rfl ?_
        refine r_dup2 (pc := 78) C dX3_pledgeUnits_78 rfl rfl ?_
        refine r_iald (pc := 79) (x := m) C ((Dk_g hd (by omega))) rfl (by omega) (by decide) dX3_pledgeUnits_79 ?_
        refine r_t (hW.get (at_goods n1 (by omega))) ?_
        refine r_iload_n (pc := 80) C 5 dX3_pledgeUnits_80 rfl rfl ?_
        refine r_isub (pc := 81) C dX3_pledgeUnits_81 ?_
        refine r_t (y := _) i_sn ?_
        refine r_iast (pc := 82) (x := m) C ((Dk_g hd (by omega))) rfl (by omega) (by decide) dX3_pledgeUnits_82 ?_
        refine r_dk (hW.put (at_goods n1 (by omega))) (fun I1 hD1 => ?_)
        refine r_aload (pc := 83) C 1 dX3_pledgeUnits_83 rfl ?_
        refine r_getR (pc := 85) (x := b + 5 + 17 + 2 * pm s + 1) C f_X3_186 ((Dk_l hd (hW.l (by omega)))) rfl rfl dX3_pledgeUnits_85 ?_
        refine r_iload_n (pc := 88) C 4 dX3_pledgeUnits_88 rfl rfl ?_
        refine r_dup2 (pc := 89) C dX3_pledgeUnits_89 rfl rfl ?_
        refine r_iald (pc := 90) (x := m) C ((Dk_p hd (hD1.l (by omega)))) rfl (by omega) (by decide) dX3_pledgeUnits_90 ?_
        refine r_t (hD1.get (at_pledged hs (by omega))) ?_
        refine r_iload_n (pc := 91) C 5 dX3_pledgeUnits_91 rfl rfl ?_
        refine r_iadd (pc := 92) C dX3_pledgeUnits_92 ?_
        refine r_iast (pc := 93) (x := m) C ((Dk_p hd (hD1.l (by omega)))) rfl (by omega) (by decide) dX3_pledgeUnits_93 ?_
        refine r_dk (hD1.put (at_pledged hs (by omega))) (fun I2 hD2 => ?_)
        refine r_aload_n (pc := 94) C 2 dX3_pledgeUnits_94 rfl rfl ?_
        refine r_aload_n (pc := 95) C 2 dX3_pledgeUnits_95 rfl rfl ?_
        refine r_aload (pc := 96) C 1 dX3_pledgeUnits_96 rfl ?_
        refine r_getR (pc := 98) (x := b + 5 + 17 + 2 * pm s + 1) C f_X3_186 ((Dk_l hd (hW.l (by omega)))) rfl rfl dX3_pledgeUnits_98 ?_
        refine r_cVi (pc := 101) C hfl k_X3_206 (c_X3_valueOf hd hD2.toV ((Dk_p hd (hD2.l (by omega))))) ((Dk_0 hd)) ca_X3 rfl rfl (Nat.le_of_ble_eq_true rfl) (by decide) (by decide) dX3_pledgeUnits_101 ?_
        refine r_t (hD2.toV.val hs) ?_
        refine r_putI (pc := 104) C f_X3_39 ((Dk_0 hd)) rfl rfl rfl dX3_pledgeUnits_104 ?_
        refine r_dk hD2.ans (fun I3 hD3 => ?_)
        refine r_flt (pc := 107) C (by decide) kf_X3_155 dX3_pledgeUnits_107 ?_
        exact r_aret (pc := 110) C (Or.inl ⟨_, rfl⟩) (Or.inr ⟨_, rfl⟩) dX3_pledgeUnits_110 (CH_ok (by simp only [fPledge, e_s, e_b, e_m]; rw [if_neg n_s, if_neg (by simp [c_20]), if_neg (by simp [c_34]), if_neg (Int32.not_lt.mpr c_65)]) (by rw [cl, e_m]; exact hD3)) (by decide)
      · skip
        refine r_flt (pc := 68) C (by decide) kf_X3_96 dX3_pledgeUnits_68 ?_
        exact r_aret (pc := 71) C (Or.inl ⟨_, rfl⟩) (Or.inr ⟨_, rfl⟩) dX3_pledgeUnits_71 (CH_no (c := 4) (by simp only [fPledge, e_s, e_b, e_m]; rw [if_neg n_s, if_neg (by simp [c_20]), if_neg (by simp [c_34]), if_pos (Int32.not_le.mp c_65)]) (by decide) (by decide)) (by decide)
    · skip
      refine r_flt (pc := 37) C (by decide) kf_X3_148 dX3_pledgeUnits_37 ?_
      exact r_aret (pc := 40) C (Or.inl ⟨_, rfl⟩) (Or.inr ⟨_, rfl⟩) dX3_pledgeUnits_40 (CH_no (c := 3) (by simp [fPledge, n_s, c_20, c_34]) (by decide) (by decide)) (by decide)
  · skip
    refine r_flt (pc := 23) C (by decide) kf_X3_166 dX3_pledgeUnits_23 ?_
    exact r_aret (pc := 26) C (Or.inl ⟨_, rfl⟩) (Or.inr ⟨_, rfl⟩) dX3_pledgeUnits_26 (CH_no (c := 2) (by simp [fPledge, n_s, c_20]) (by decide) (by decide)) (by decide)

set_option maxHeartbeats 1000000 in
theorem c_X3_pledgeUnits__n {g : GG} {X : va_W} {T : TT} {I : II} {b : Nat} (hd : isDk T b) {w : Nat → Int32} {B N E : Nat} {pm : Nat → Nat} (hV : DV I b w B N E pm) {id : Int32} (hr : atS w N id (-1)) {k_ u : Int32} {D U : Nat} (hG : Gd w B N E D U) (hS : Sd w N) : Mc g yX3_pledgeUnits cX3_pledgeUnits 6 (some (.object "LendingDesk$Fault")) 5 0 0 [.ref b, .int id, .int k_, .int u] X T I (CH g I b X T 4 (fPledge w (-1) k_ u) w B N E (nI 0)) := by
  have hB6 := hV.hB
  have hN10 := hV.hN
  have hE20 := hV.hE
  have hB := hG.B.1
  have hN := hG.N.1
  have hE := hG.E.1
  have hW := hV.toW
  refine Mc.of (by decide) (Nat.le_of_ble_eq_true rfl) (fun k hfl C => ?_)
  refine r_lo (lo' := [(0, _), (1, _), (2, _), (3, _)]) rfl ?_
  refine r_aload_n (pc := 0) C 0 dX3_pledgeUnits_0 rfl rfl ?_
  refine r_iload_n (pc := 1) C 1 dX3_pledgeUnits_1 rfl rfl ?_
  refine r_cVr (pc := 2) C hfl k_X3_196 (c_X3_loanWithId__n hd hV hN hr) ((Dk_0 hd)) ca_X3 rfl rfl (Nat.le_of_ble_eq_true rfl) (by decide) (by decide) dX3_pledgeUnits_2 ?_
  refine r_astoreN (pc := 5) (lo' := [(4, _), (0, _), (1, _), (2, _), (3, _)]) C dX3_pledgeUnits_5 (by decide) rfl ?_
  refine r_aloadN (pc := 7) C 0 dX3_pledgeUnits_7 rfl ?_
  refine r_ifnnN (pc := 9) C dX3_pledgeUnits_9 ?_
  refine r_flt (pc := 12) C (by decide) kf_X3_200 dX3_pledgeUnits_12 ?_
  exact r_aret (pc := 15) C (Or.inl ⟨_, rfl⟩) (Or.inr ⟨_, rfl⟩) dX3_pledgeUnits_15 (CH_no (c := 1) (by simp [fPledge]) (by decide) (by decide)) (by decide)

set_option maxHeartbeats 1000000 in
theorem c_X3_releaseUnits__s {g : GG} {X : va_W} {T : TT} {I : II} {b : Nat} (hd : isDk T b) {w : Nat → Int32} {B N E : Nat} {pm : Nat → Nat} (hV : DV I b w B N E pm) {id : Int32} {s : Nat} (hs : s < N) (hr : atS w N id (nI s)) {k_ u : Int32} {D U : Nat} (hG : Gd w B N E D U) (hS : Sd w N) : Mc g yX3_releaseUnits cX3_releaseUnits 7 (some (.object "LendingDesk$Fault")) 5 0 0 [.ref b, .int id, .int k_, .int u] X T I (CH g I b X T 5 (fRelease w (nI s) k_ u) (pgV w s (bN w s) (cl k_) (-u)) B N E (valV (pgV w s (bN w s) (cl k_) (-u)) s)) := by
  have hB6 := hV.hB
  have hN10 := hV.hN
  have hE20 := hV.hE
  have hB := hG.B.1
  have hN := hG.N.1
  have hE := hG.E.1
  have hW := hV.toW
  obtain ⟨n1, hw⟩ := hG.own hs
  have e_s : (nI s).toNatClampNeg = s := nI_clamp (by omega)
  have n_s : ¬ nI s < 0 := nI_pos (by omega)
  have e_b : (w (58 + 10 * s + 1)).toNatClampNeg = bN w s := rfl
  refine Mc.of (by decide) (Nat.le_of_ble_eq_true rfl) (fun k hfl C => ?_)
  refine r_lo (lo' := [(0, _), (1, _), (2, _), (3, _)]) rfl ?_
  refine r_aload_n (pc := 0) C 0 dX3_releaseUnits_0 rfl rfl ?_
  refine r_iload_n (pc := 1) C 1 dX3_releaseUnits_1 rfl rfl ?_
  refine r_cVr (pc := 2) C hfl k_X3_196 (c_X3_loanWithId__s hd hV hN hs hr) ((Dk_0 hd)) ca_X3 rfl rfl (Nat.le_of_ble_eq_true rfl) (by decide) (by decide) dX3_releaseUnits_2 ?_
  refine r_astore (pc := 5) (lo' := [(4, _), (0, _), (1, _), (2, _), (3, _)]) C dX3_releaseUnits_5 (by decide) rfl ?_
  refine r_aload (pc := 7) C 0 dX3_releaseUnits_7 rfl ?_
  refine r_ifnnR (pc := 9) (tgt := 16) C dX3_releaseUnits_9 rfl ?_
  refine r_iload_n (pc := 16) C 3 dX3_releaseUnits_16 rfl rfl ?_
  refine r_callSN (pc := 17) C hfl kn_X3_162 c_X9_isKind rfl rfl (Nat.le_of_ble_eq_true rfl) (by decide) (by decide) dX3_releaseUnits_17 ?_
  refine r_ifneB (pc := 20) (tgt := 27) C dX3_releaseUnits_20 rfl (fun c_20 => ?_) (fun c_20 => ?_)
  · skip
    obtain ⟨m, m1, rfl⟩ := okK_of c_20
    have e_m : (nI m).toNatClampNeg = m := nI_clamp (by omega)
    refine r_iload_n (pc := 27) C 4 dX3_releaseUnits_27 rfl rfl ?_
    refine r_iconst (pc := 28) (v := 1) C dX3_releaseUnits_28 rfl ?_
    refine r_bipush (pc := 29) (v := 99) C dX3_releaseUnits_29 rfl ?_
    refine r_callSN (pc := 31) C hfl kn_X3_144 c_X9_isWithin rfl rfl (Nat.le_of_ble_eq_true rfl) (by decide) (by decide) dX3_releaseUnits_31 ?_
    refine r_ifneB (pc := 34) (tgt := 41) C dX3_releaseUnits_34 rfl (fun c_34 => ?_) (fun c_34 => ?_)
    · skip
      refine r_aload_n (pc := 41) C 1 dX3_releaseUnits_41 rfl rfl ?_
      refine r_aload (pc := 42) C 0 dX3_releaseUnits_42 rfl ?_
      refine r_getI (pc := 44) C f_X3_203 ((Dk_l hd (hW.l (by omega)))) rfl dX3_releaseUnits_44 ?_
      refine r_t (hW.get (at_loan (i := 1) hs (by decide))) ?_
      refine r_t (y := nI ((bN w s))) hw ?_
      refine r_cVr (pc := 47) C hfl k_X3_158 (c_X3_borrowerAt__v hd hV hB n1) ((Dk_0 hd)) ca_X3 rfl rfl (Nat.le_of_ble_eq_true rfl) (by decide) (by decide) dX3_releaseUnits_47 ?_
      refine r_astore (pc := 50) (lo' := [(5, _), (4, _), (0, _), (1, _), (2, _), (3, _)]) C dX3_releaseUnits_50 (by decide) rfl ?_
      refine r_aload_n (pc := 52) C 2 dX3_releaseUnits_52 rfl rfl ?_
      refine r_aload (pc := 53) C 1 dX3_releaseUnits_53 rfl ?_
      refine r_getR (pc := 55) (x := b + 5 + 17 + 2 * pm s + 1) C f_X3_186 ((Dk_l hd (hW.l (by omega)))) rfl rfl dX3_releaseUnits_55 ?_
      refine r_cVi (pc := 58) C hfl k_X3_206 (c_X3_valueOf hd hW.toV ((Dk_p hd (hW.l (by omega))))) ((Dk_0 hd)) ca_X3 rfl rfl (Nat.le_of_ble_eq_true rfl) (by decide) (by decide) dX3_releaseUnits_58 ?_
      refine r_t (hW.toV.val hs) ?_
      refine r_iload_n (pc := 61) C 5 dX3_releaseUnits_61 rfl rfl ?_
      refine r_aload_n (pc := 62) C 2 dX3_releaseUnits_62 rfl rfl ?_
      refine r_getR (pc := 63) (x := b + 1) C f_X3_42 ((Dk_0 hd)) rfl rfl dX3_releaseUnits_63 ?_
      refine r_iload_n (pc := 66) C 4 dX3_releaseUnits_66 rfl rfl ?_
      refine r_iald (pc := 67) (x := m) C ((Dk_1 hd)) rfl (by omega) (by decide) dX3_releaseUnits_67 ?_
      refine r_t (hW.get (at_pr (by omega))) ?_
      refine r_imul (pc := 68) C dX3_releaseUnits_68 ?_
      refine r_isub (pc := 69) C dX3_releaseUnits_69 ?_
      refine r_istore (pc := 70) (lo' := [(6, _), (5, _), (4, _), (0, _), (1, _), (2, _), (3, _)]) C dX3_releaseUnits_70 (by decide) rfl ?_
      refine r_aload (pc := 72) C 1 dX3_releaseUnits_72 rfl ?_
      refine r_ifnullR (pc := 74) C dX3_releaseUnits_74 ?_
      refine r_aload (pc := 77) C 2 dX3_releaseUnits_77 rfl ?_
      refine r_getR (pc := 79) (x := b + 5 + 17 + 2 * pm s + 1) C f_X3_186 ((Dk_l hd (hW.l (by omega)))) rfl rfl dX3_releaseUnits_79 ?_
      refine r_iload_n (pc := 82) C 5 dX3_releaseUnits_82 rfl rfl ?_
      refine r_iald (pc := 83) (x := m) C ((Dk_p hd (hW.l (by omega)))) rfl (by omega) (by decide) dX3_releaseUnits_83 ?_
      refine r_t (hW.get (at_pledged hs (by omega))) ?_
      refine r_iload_n (pc := 84) C 6 dX3_releaseUnits_84 rfl rfl ?_
      refine r_clt (pc := 85) (tgt := 101) C dX3_releaseUnits_85 rfl (fun c_85 => ?_) (fun c_85 => ?_)
      · skip
        refine r_flt (pc := 101) C (by decide) kf_X3_96 dX3_releaseUnits_101 ?_
        exact r_aret (pc := 104) C (Or.inl ⟨_, rfl⟩) (Or.inr ⟨_, rfl⟩) dX3_releaseUnits_104 (CH_no (c := 4) (by simp only [fRelease, e_s, e_m]; rw [if_neg n_s, if_neg (by simp [c_20]), if_neg (by simp [c_34]), if_pos (Or.inl c_85)]) (by decide) (by decide)) (by decide)
      · skip
        refine r_aload (pc := 88) C 2 dX3_releaseUnits_88 rfl ?_
        refine r_cVi (pc := 90) C hfl k_X3_210 (c_X7_owed hd hW.toV hs) ((Dk_l hd (hW.l (by omega)))) ca_X7 rfl rfl (Nat.le_of_ble_eq_true rfl) (by decide) (by decide) dX3_releaseUnits_90 ?_
        refine r_iload (pc := 93) C 0 dX3_releaseUnits_93 rfl ?_
        refine r_callSN (pc := 95) C hfl kn_X3_176 c_X9_covers rfl rfl (Nat.le_of_ble_eq_true rfl) (by decide) (by decide) dX3_releaseUnits_95 ?_
        refine r_ifneB (pc := 98) (tgt := 105) C dX3_releaseUnits_98 rfl (fun c_98 => ?_) (fun c_98 => ?_)
        · skip
          refine r_aload (pc := 105) C 2 dX3_releaseUnits_105 rfl ?_
          refine r_getR (pc := 107) (x := b + 5 + 17 + 2 * pm s + 1) C f_X3_186 ((Dk_l hd (hW.l (by omega)))) rfl rfl dX3_releaseUnits_107 ?_
          refine r_iload_n (pc := 110) C 5 dX3_releaseUnits_110 rfl rfl ?_
          refine r_dup2 (pc := 111) C dX3_releaseUnits_111 rfl rfl ?_
          refine r_iald (pc := 112) (x := m) C ((Dk_p hd (hW.l (by omega)))) rfl (by omega) (by decide) dX3_releaseUnits_112 ?_
          refine r_t (hW.get (at_pledged hs (by omega))) ?_
          refine r_iload_n (pc := 113) C 6 dX3_releaseUnits_113 rfl rfl ?_
          refine r_isub (pc := 114) C dX3_releaseUnits_114 ?_
          refine r_iast (pc := 115) (x := m) C ((Dk_p hd (hW.l (by omega)))) rfl (by omega) (by decide) dX3_releaseUnits_115 ?_
          refine r_dk (hW.put (at_pledged hs (by omega))) (fun I1 hD1 => ?_)
          refine r_aload (pc := 116) C 1 dX3_releaseUnits_116 rfl ?_
          refine r_getR (pc := 118) (x := b + 10 + 2 * ((bN w s)) + 1) C f_X3_169 ((Dk_b hd (by omega))) rfl rfl dX3_releaseUnits_118 ?_
          refine r_iload_n (pc := 121) C 5 dX3_releaseUnits_121 rfl rfl ?_
          refine r_dup2 (pc := 122) C dX3_releaseUnits_122 rfl rfl ?_
          refine r_iald (pc := 123) (x := m) C ((Dk_g hd (by omega))) rfl (by omega) (by decide) dX3_releaseUnits_123 ?_
          refine r_t (hD1.get (at_goods n1 (by omega))) ?_
          refine r_iload_n (pc := 124) C 6 dX3_releaseUnits_124 rfl rfl ?_
          refine r_iadd (pc := 125) C dX3_releaseUnits_125 ?_
          refine r_iast (pc := 126) (x := m) C ((Dk_g hd (by omega))) rfl (by omega) (by decide) dX3_releaseUnits_126 ?_
          refine r_dk (hD1.put (at_goods n1 (by omega))) (fun I2 hD2 => ?_)
          refine r_aload_n (pc := 127) C 3 dX3_releaseUnits_127 rfl rfl ?_
          refine r_iload (pc := 128) C 0 dX3_releaseUnits_128 rfl ?_
          refine r_putI (pc := 130) C f_X3_39 ((Dk_0 hd)) rfl rfl rfl dX3_releaseUnits_130 ?_
          refine r_dk hD2.ans (fun I3 hD3 => ?_)
          refine r_flt (pc := 133) C (by decide) kf_X3_155 dX3_releaseUnits_133 ?_
          exact r_aret (pc := 136) C (Or.inl ⟨_, rfl⟩) (Or.inr ⟨_, rfl⟩) dX3_releaseUnits_136 (CH_ok (by simp only [fRelease, e_s, e_m]; rw [if_neg n_s, if_neg (by simp [c_20]), if_neg (by simp [c_34]), if_neg (fun z => z.elim c_85 (Int32.not_lt.mpr c_98))]) (by rw [cl, e_m, val_pg (by omega) m1]; exact hD3.cw (fun j hj => by simp only [pgV, ad, upd, i_nn]; (repeat' split) <;> first | rfl | omega | (exact i_sn) | grind))) (by decide)
        · skip
          refine r_flt (pc := 101) C (by decide) kf_X3_96 dX3_releaseUnits_101 ?_
          exact r_aret (pc := 104) C (Or.inl ⟨_, rfl⟩) (Or.inr ⟨_, rfl⟩) dX3_releaseUnits_104 (CH_no (c := 4) (by simp only [fRelease, e_s, e_m]; rw [if_neg n_s, if_neg (by simp [c_20]), if_neg (by simp [c_34]), if_pos (Or.inr (Int32.not_le.mp c_98))]) (by decide) (by decide)) (by decide)
    · skip
      refine r_flt (pc := 37) C (by decide) kf_X3_148 dX3_releaseUnits_37 ?_
      exact r_aret (pc := 40) C (Or.inl ⟨_, rfl⟩) (Or.inr ⟨_, rfl⟩) dX3_releaseUnits_40 (CH_no (c := 3) (by simp [fRelease, n_s, c_20, c_34]) (by decide) (by decide)) (by decide)
  · skip
    refine r_flt (pc := 23) C (by decide) kf_X3_166 dX3_releaseUnits_23 ?_
    exact r_aret (pc := 26) C (Or.inl ⟨_, rfl⟩) (Or.inr ⟨_, rfl⟩) dX3_releaseUnits_26 (CH_no (c := 2) (by simp [fRelease, n_s, c_20]) (by decide) (by decide)) (by decide)

set_option maxHeartbeats 1000000 in
theorem c_X3_releaseUnits__n {g : GG} {X : va_W} {T : TT} {I : II} {b : Nat} (hd : isDk T b) {w : Nat → Int32} {B N E : Nat} {pm : Nat → Nat} (hV : DV I b w B N E pm) {id : Int32} (hr : atS w N id (-1)) {k_ u : Int32} {D U : Nat} (hG : Gd w B N E D U) (hS : Sd w N) : Mc g yX3_releaseUnits cX3_releaseUnits 7 (some (.object "LendingDesk$Fault")) 5 0 0 [.ref b, .int id, .int k_, .int u] X T I (CH g I b X T 5 (fRelease w (-1) k_ u) w B N E (nI 0)) := by
  have hB6 := hV.hB
  have hN10 := hV.hN
  have hE20 := hV.hE
  have hB := hG.B.1
  have hN := hG.N.1
  have hE := hG.E.1
  have hW := hV.toW
  refine Mc.of (by decide) (Nat.le_of_ble_eq_true rfl) (fun k hfl C => ?_)
  refine r_lo (lo' := [(0, _), (1, _), (2, _), (3, _)]) rfl ?_
  refine r_aload_n (pc := 0) C 0 dX3_releaseUnits_0 rfl rfl ?_
  refine r_iload_n (pc := 1) C 1 dX3_releaseUnits_1 rfl rfl ?_
  refine r_cVr (pc := 2) C hfl k_X3_196 (c_X3_loanWithId__n hd hV hN hr) ((Dk_0 hd)) ca_X3 rfl rfl (Nat.le_of_ble_eq_true rfl) (by decide) (by decide) dX3_releaseUnits_2 ?_
  refine r_astoreN (pc := 5) (lo' := [(4, _), (0, _), (1, _), (2, _), (3, _)]) C dX3_releaseUnits_5 (by decide) rfl ?_
  refine r_aloadN (pc := 7) C 0 dX3_releaseUnits_7 rfl ?_
  refine r_ifnnN (pc := 9) C dX3_releaseUnits_9 ?_
  refine r_flt (pc := 12) C (by decide) kf_X3_200 dX3_releaseUnits_12 ?_
  exact r_aret (pc := 15) C (Or.inl ⟨_, rfl⟩) (Or.inr ⟨_, rfl⟩) dX3_releaseUnits_15 (CH_no (c := 1) (by simp [fRelease]) (by decide) (by decide)) (by decide)

set_option maxHeartbeats 1000000 in
theorem c_X3_sellUnits__v {g : GG} {X : va_W} {T : TT} {I : II} {b : Nat} (hd : isDk T b) {w : Nat → Int32} {B N E : Nat} {pm : Nat → Nat} (hV : DV I b w B N E pm) {n : Nat} (n1 : n < B) {k_ u : Int32} {D U : Nat} (hG : Gd w B N E D U) (hS : Sd w N) : Mc g yX3_sellUnits cX3_sellUnits 6 (some (.object "LendingDesk$Fault")) 4 0 0 [.ref b, .int (nI n), .int k_, .int u] X T I (CH g I b X T 7 (fBuy w B (nI n) k_ u) (buV w n (cl k_) u) B N E (u * w (10 + cl k_))) := by
  have hB6 := hV.hB
  have hN10 := hV.hN
  have hE20 := hV.hE
  have hB := hG.B.1
  have hN := hG.N.1
  have hE := hG.E.1
  have hW := hV.toW
  have e_n : (nI n).toNatClampNeg = n := nI_clamp (by omega)
  have o_n : okB B (nI n) := okB_nI hB6 n1
  refine Mc.of (by decide) (Nat.le_of_ble_eq_true rfl) (fun k hfl C => ?_)
  refine r_lo (lo' := [(0, _), (1, _), (2, _), (3, _)]) rfl ?_
  refine r_aload_n (pc := 0) C 0 dX3_sellUnits_0 rfl rfl ?_
  refine r_iload_n (pc := 1) C 1 dX3_sellUnits_1 rfl rfl ?_
  refine r_cVr (pc := 2) C hfl k_X3_158 (c_X3_borrowerAt__v hd hV hB n1) ((Dk_0 hd)) ca_X3 rfl rfl (Nat.le_of_ble_eq_true rfl) (by decide) (by decide) dX3_sellUnits_2 ?_
  refine r_astore (pc := 5) (lo' := [(4, _), (0, _), (1, _), (2, _), (3, _)]) C dX3_sellUnits_5 (by decide) rfl ?_
  refine r_aload (pc := 7) C 0 dX3_sellUnits_7 rfl ?_
  refine r_ifnullR (pc := 9) C dX3_sellUnits_9 ?_
  refine r_iload_n (pc := 12) C 3 dX3_sellUnits_12 rfl rfl ?_
  refine r_callSN (pc := 13) C hfl kn_X3_162 c_X9_isKind rfl rfl (Nat.le_of_ble_eq_true rfl) (by decide) (by decide) dX3_sellUnits_13 ?_
  refine r_ifneB (pc := 16) (tgt := 23) C dX3_sellUnits_16 rfl (fun c_16 => ?_) (fun c_16 => ?_)
  · skip
    obtain ⟨m, m1, rfl⟩ := okK_of c_16
    have e_m : (nI m).toNatClampNeg = m := nI_clamp (by omega)
    refine r_iload_n (pc := 23) C 4 dX3_sellUnits_23 rfl rfl ?_
    refine r_iconst (pc := 24) (v := 1) C dX3_sellUnits_24 rfl ?_
    refine r_bipush (pc := 25) (v := 99) C dX3_sellUnits_25 rfl ?_
    refine r_callSN (pc := 27) C hfl kn_X3_144 c_X9_isWithin rfl rfl (Nat.le_of_ble_eq_true rfl) (by decide) (by decide) dX3_sellUnits_27 ?_
    refine r_ifneB (pc := 30) (tgt := 37) C dX3_sellUnits_30 rfl (fun c_30 => ?_) (fun c_30 => ?_)
    · skip
      refine r_iload_n (pc := 37) C 4 dX3_sellUnits_37 rfl rfl ?_
      refine r_aload_n (pc := 38) C 1 dX3_sellUnits_38 rfl rfl ?_
      refine r_getR (pc := 39) (x := b + 1) C f_X3_42 ((Dk_0 hd)) rfl rfl dX3_sellUnits_39 ?_
      refine r_iload_n (pc := 42) C 3 dX3_sellUnits_42 rfl rfl ?_
      refine r_iald (pc := 43) (x := m) C ((Dk_1 hd)) rfl (by omega) (by decide) dX3_sellUnits_43 ?_
      refine r_t (hW.get (at_pr (by omega))) ?_
      refine r_imul (pc := 44) C dX3_sellUnits_44 ?_
      refine r_istore (pc := 45) (lo' := [(5, _), (4, _), (0, _), (1, _), (2, _), (3, _)]) C dX3_sellUnits_45 (by decide) rfl ?_
      refine r_aload_n (pc := 47) C 2 dX3_sellUnits_47 rfl rfl ?_
      refine r_getR (pc := 48) (x := b + 2) C f_X3_46 ((Dk_0 hd)) rfl rfl dX3_sellUnits_48 ?_
      refine r_iload_n (pc := 51) C 4 dX3_sellUnits_51 rfl rfl ?_
      refine r_iald (pc := 52) (x := m) C ((Dk_2 hd)) rfl (by omega) (by decide) dX3_sellUnits_52 ?_
      refine r_t (hW.get (at_st (by omega))) ?_
      refine r_iload_n (pc := 53) C 5 dX3_sellUnits_53 rfl rfl ?_
      refine r_clt (pc := 54) (tgt := 82) C dX3_sellUnits_54 rfl (fun c_54 => ?_) (fun c_54 => ?_)
      · skip
        refine r_flt (pc := 82) C (by decide) kf_X3_96 dX3_sellUnits_82 ?_
        exact r_aret (pc := 85) C (Or.inl ⟨_, rfl⟩) (Or.inr ⟨_, rfl⟩) dX3_sellUnits_85 (CH_no (c := 3) (by simp only [fBuy, e_n, e_m]; rw [if_neg (by simp [o_n, c_16]), if_neg (by simp [c_30]), if_pos (Or.inl c_54)]) (by decide) (by decide)) (by decide)
      · skip
        refine r_aload (pc := 57) C 1 dX3_sellUnits_57 rfl ?_
        refine r_getI (pc := 59) C f_X3_189 ((Dk_b hd (by omega))) rfl dX3_sellUnits_59 ?_
        refine r_t (hW.get (at_purse n1)) ?_
        refine r_iload (pc := 62) C 0 dX3_sellUnits_62 rfl ?_
        refine r_clt (pc := 64) (tgt := 82) C dX3_sellUnits_64 rfl (fun c_64 => ?_) (fun c_64 => ?_)
        · skip
          refine r_flt (pc := 82) C (by decide) kf_X3_96 dX3_sellUnits_82 ?_
          exact r_aret (pc := 85) C (Or.inl ⟨_, rfl⟩) (Or.inr ⟨_, rfl⟩) dX3_sellUnits_85 (CH_no (c := 3) (by simp only [fBuy, e_n, e_m]; rw [if_neg (by simp [o_n, c_16]), if_neg (by simp [c_30]), if_pos (Or.inr c_64)]) (by decide) (by decide)) (by decide)
        · skip
          refine r_aload (pc := 67) C 1 dX3_sellUnits_67 rfl ?_
          refine r_getR (pc := 69) (x := b + 10 + 2 * n + 1) C f_X3_169 ((Dk_b hd (by omega))) rfl rfl dX3_sellUnits_69 ?_
          refine r_iload_n (pc := 72) C 4 dX3_sellUnits_72 rfl rfl ?_
          refine r_iald (pc := 73) (x := m) C ((Dk_g hd (by omega))) rfl (by omega) (by decide) dX3_sellUnits_73 ?_
          refine r_t (hW.get (at_goods n1 (by omega))) ?_
          refine r_iload_n (pc := 74) C 5 dX3_sellUnits_74 rfl rfl ?_
          refine r_iadd (pc := 75) C dX3_sellUnits_75 ?_
          refine r_sipush (pc := 76) (v := 999) C dX3_sellUnits_76 rfl ?_
          refine r_cle (pc := 79) (tgt := 86) C dX3_sellUnits_79 rfl (fun c_79 => ?_) (fun c_79 => ?_)
          · skip
            refine r_aload_n (pc := 86) C 2 dX3_sellUnits_86 rfl rfl ?_
            refine r_getR (pc := 87) (x := b + 2) C f_X3_46 ((Dk_0 hd)) rfl rfl dX3_sellUnits_87 ?_
            refine r_iload_n (pc := 90) C 4 dX3_sellUnits_90 rfl rfl ?_
            refine r_dup2 (pc := 91) C dX3_sellUnits_91 rfl rfl ?_
            refine r_iald (pc := 92) (x := m) C ((Dk_2 hd)) rfl (by omega) (by decide) dX3_sellUnits_92 ?_
            refine r_t (hW.get (at_st (by omega))) ?_
            refine r_iload_n (pc := 93) C 5 dX3_sellUnits_93 rfl rfl ?_
            refine r_isub (pc := 94) C dX3_sellUnits_94 ?_
            refine r_iast (pc := 95) (x := m) C ((Dk_2 hd)) rfl (by omega) (by decide) dX3_sellUnits_95 ?_
            refine r_dk (hW.put (at_st (by omega))) (fun I1 hD1 => ?_)
            refine r_aload (pc := 96) C 1 dX3_sellUnits_96 rfl ?_
            refine r_getR (pc := 98) (x := b + 10 + 2 * n + 1) C f_X3_169 ((Dk_b hd (by omega))) rfl rfl dX3_sellUnits_98 ?_
            refine r_iload_n (pc := 101) C 4 dX3_sellUnits_101 rfl rfl ?_
            refine r_dup2 (pc := 102) C dX3_sellUnits_102 rfl rfl ?_
            refine r_iald (pc := 103) (x := m) C ((Dk_g hd (by omega))) rfl (by omega) (by decide) dX3_sellUnits_103 ?_
            refine r_t (hD1.get (at_goods n1 (by omega))) ?_
            refine r_iload_n (pc := 104) C 5 dX3_sellUnits_104 rfl rfl ?_
            refine r_iadd (pc := 105) C dX3_sellUnits_105 ?_
            refine r_iast (pc := 106) (x := m) C ((Dk_g hd (by omega))) rfl (by omega) (by decide) dX3_sellUnits_106 ?_
            refine r_dk (hD1.put (at_goods n1 (by omega))) (fun I2 hD2 => ?_)
            refine r_aload (pc := 107) C 1 dX3_sellUnits_107 rfl ?_
            refine r_dup (pc := 109) C dX3_sellUnits_109 rfl ?_
            refine r_getI (pc := 110) C f_X3_189 ((Dk_b hd (by omega))) rfl dX3_sellUnits_110 ?_
            refine r_t (hD2.get (at_purse n1)) ?_
            refine r_iload (pc := 113) C 0 dX3_sellUnits_113 rfl ?_
            refine r_isub (pc := 115) C dX3_sellUnits_115 ?_
            refine r_t (y := _) i_sn ?_
            refine r_putI (pc := 116) C f_X3_189 ((Dk_b hd (by omega))) rfl rfl rfl dX3_sellUnits_116 ?_
            refine r_dk (hD2.put (at_purse n1)) (fun I3 hD3 => ?_)
            refine r_aload_n (pc := 119) C 2 dX3_sellUnits_119 rfl rfl ?_
            refine r_dup (pc := 120) C dX3_sellUnits_120 rfl ?_
            refine r_getI (pc := 121) C f_X3_15 ((Dk_0 hd)) rfl dX3_sellUnits_121 ?_
            refine r_t (hD3.get at_funds) ?_
            refine r_iload (pc := 124) C 0 dX3_sellUnits_124 rfl ?_
            refine r_iadd (pc := 126) C dX3_sellUnits_126 ?_
            refine r_putI (pc := 127) C f_X3_15 ((Dk_0 hd)) rfl rfl rfl dX3_sellUnits_127 ?_
            refine r_dk (hD3.put at_funds) (fun I4 hD4 => ?_)
            refine r_aload_n (pc := 130) C 2 dX3_sellUnits_130 rfl rfl ?_
            refine r_iload (pc := 131) C 0 dX3_sellUnits_131 rfl ?_
            refine r_putI (pc := 133) C f_X3_39 ((Dk_0 hd)) rfl rfl rfl dX3_sellUnits_133 ?_
            refine r_dk hD4.ans (fun I5 hD5 => ?_)
            refine r_flt (pc := 136) C (by decide) kf_X3_155 dX3_sellUnits_136 ?_
            exact r_aret (pc := 139) C (Or.inl ⟨_, rfl⟩) (Or.inr ⟨_, rfl⟩) dX3_sellUnits_139 (CH_ok (by simp only [fBuy, e_n, e_m]; rw [if_neg (by simp [o_n, c_16]), if_neg (by simp [c_30]), if_neg (fun z => z.elim c_54 c_64), if_neg (Int32.not_lt.mpr c_79)]) (by rw [cl, e_m]; exact hD5)) (by decide)
          · skip
            refine r_flt (pc := 82) C (by decide) kf_X3_96 dX3_sellUnits_82 ?_
            exact r_aret (pc := 85) C (Or.inl ⟨_, rfl⟩) (Or.inr ⟨_, rfl⟩) dX3_sellUnits_85 (CH_no (c := 3) (by simp only [fBuy, e_n, e_m]; rw [if_neg (by simp [o_n, c_16]), if_neg (by simp [c_30]), if_neg (fun z => z.elim c_54 c_64), if_pos (Int32.not_le.mp c_79)]) (by decide) (by decide)) (by decide)
    · skip
      refine r_flt (pc := 33) C (by decide) kf_X3_148 dX3_sellUnits_33 ?_
      exact r_aret (pc := 36) C (Or.inl ⟨_, rfl⟩) (Or.inr ⟨_, rfl⟩) dX3_sellUnits_36 (CH_no (c := 2) (by simp [fBuy, o_n, c_16, c_30]) (by decide) (by decide)) (by decide)
  · skip
    refine r_flt (pc := 19) C (by decide) kf_X3_166 dX3_sellUnits_19 ?_
    exact r_aret (pc := 22) C (Or.inl ⟨_, rfl⟩) (Or.inr ⟨_, rfl⟩) dX3_sellUnits_22 (CH_no (c := 1) (by simp [fBuy, c_16]) (by decide) (by decide)) (by decide)

set_option maxHeartbeats 1000000 in
theorem c_X3_sellUnits__x {g : GG} {X : va_W} {T : TT} {I : II} {b : Nat} (hd : isDk T b) {w : Nat → Int32} {B N E : Nat} {pm : Nat → Nat} (hV : DV I b w B N E pm) {x k_ u : Int32} (hx : ¬ okB B x) {D U : Nat} (hG : Gd w B N E D U) (hS : Sd w N) : Mc g yX3_sellUnits cX3_sellUnits 6 (some (.object "LendingDesk$Fault")) 4 0 0 [.ref b, .int x, .int k_, .int u] X T I (CH g I b X T 7 (fBuy w B x k_ u) w B N E (nI 0)) := by
  have hB6 := hV.hB
  have hN10 := hV.hN
  have hE20 := hV.hE
  have hB := hG.B.1
  have hN := hG.N.1
  have hE := hG.E.1
  have hW := hV.toW
  refine Mc.of (by decide) (Nat.le_of_ble_eq_true rfl) (fun k hfl C => ?_)
  refine r_lo (lo' := [(0, _), (1, _), (2, _), (3, _)]) rfl ?_
  refine r_aload_n (pc := 0) C 0 dX3_sellUnits_0 rfl rfl ?_
  refine r_iload_n (pc := 1) C 1 dX3_sellUnits_1 rfl rfl ?_
  refine r_cVr (pc := 2) C hfl k_X3_158 (c_X3_borrowerAt__x hd hV hB hx) ((Dk_0 hd)) ca_X3 rfl rfl (Nat.le_of_ble_eq_true rfl) (by decide) (by decide) dX3_sellUnits_2 ?_
  refine r_astoreN (pc := 5) (lo' := [(4, _), (0, _), (1, _), (2, _), (3, _)]) C dX3_sellUnits_5 (by decide) rfl ?_
  refine r_aloadN (pc := 7) C 0 dX3_sellUnits_7 rfl ?_
  refine r_ifnullN (pc := 9) (tgt := 19) C dX3_sellUnits_9 rfl ?_
  refine r_flt (pc := 19) C (by decide) kf_X3_166 dX3_sellUnits_19 ?_
  exact r_aret (pc := 22) C (Or.inl ⟨_, rfl⟩) (Or.inr ⟨_, rfl⟩) dX3_sellUnits_22 (CH_no (c := 1) (by simp [fBuy, hx]) (by decide) (by decide)) (by decide)
