/-! The builder: numbers and constant strings. -/
theorem tab_b {q : Nat} : vp_nar .byte (sb_b q) = sb_b q := pk_vb _
theorem u2_at {I : II} {y p : Nat} {x : Int32} : u2 I y p x y p = x := u2_g
/-- the digits of v lie behind the first n letters -/
def GCH (y n v : Nat) (X : va_W) (T : TT) (I : II) : PhiT := fun r X' T' I' => r = some (.int (nI n)) ∧ X' = X ∧ T' = T ∧ (∀ q, q ≠ y → I' q = I q) ∧ (∀ j, j < n → I' y j = I y j) ∧ (∀ i, i < sb_dg v → I' y (n + sb_dg v - 1 - i) = sb_b (48 + v / 10 ^ i % 10)) ∧ sb_Fit (I' y)

set_option maxHeartbeats 1000000 in
theorem c_gchars {g : GG} {X : va_W} {T : TT} {I : II} {y mm n v : Nat} {rf : Nat → Option Nat} (hT : T y = (4, mm, rf)) (hm : mm ≤ 65536) (hv : v < 2 ^ 31) (hp : n + sb_dg v ≤ mm) (hf : sb_Fit (I y)) : Mc g yJ6_getChars_ba4f3 cJ6_getChars_ba4f3 7 (some .int) 0 0 0 [.int (nI v), .int (nI (n + sb_dg v)), .ref y] X T I (GCH y n v X T I) := by
  refine Mc.of (by decide) (Nat.le_of_ble_eq_true rfl) (fun k hfl C => ?_)
  refine r_lo (lo' := [(0, _), (1, _), (2, _)]) rfl ?_
  refine r_iload_n (pc := 0) C 1 dJ6_getChars_ba4f3_0 rfl rfl ?_
  refine r_istore (pc := 1) (lo' := [(5, _), (0, _), (1, _), (2, _)]) C dJ6_getChars_ba4f3_1 (by decide) rfl ?_
  refine r_iload_n (pc := 3) C 1 dJ6_getChars_ba4f3_3 rfl rfl ?_
  refine r_ifgeN (pc := 4) (tgt := 11) C dJ6_getChars_ba4f3_4 rfl (by omega) ?_
  refine r_iconst (pc := 11) (v := 0) C dJ6_getChars_ba4f3_11 rfl ?_
  refine r_istore (pc := 12) (lo' := [(6, _), (5, _), (0, _), (1, _), (2, _)]) C dJ6_getChars_ba4f3_12 (by decide) rfl ?_
  refine r_iload (pc := 14) C 0 dJ6_getChars_ba4f3_14 rfl ?_
  refine r_ifneN (pc := 16) (tgt := 22) C dJ6_getChars_ba4f3_16 rfl (by omega) (fun c => False.elim (by omega)) (fun _ => ?_)
  refine r_iload_n (pc := 19) C 2 dJ6_getChars_ba4f3_19 rfl rfl ?_
  refine r_ineg (pc := 20) C dJ6_getChars_ba4f3_20 ?_
  refine r_istore_n (pc := 21) (lo' := [(0, _), (6, _), (5, _), (1, _), (2, _)]) C dJ6_getChars_ba4f3_21 rfl (by decide) rfl ?_
  have loop : ∀ (n_ w p : Nat) (J : II), w < n_ → w < 2 ^ 31 → p = n + sb_dg w → p ≤ mm → sb_Fit (J y) → (∀ q, q ≠ y → J q = I q) → (∀ J' : II, (∀ q, q ≠ y → J' q = I q) → (∀ j, j < n ∨ p ≤ j → J' y j = J y j) → (∀ i, i < sb_dg w → J' y (p - 1 - i) = sb_b (48 + w / 10 ^ i % 10)) → sb_Fit (J' y) → GCH y n v X T I (some (.int (nI n))) X T J') → Go g k 7 (Qm g k (GCH y n v X T I) 0 0) 0 0 22 [(0, .int (-nI w)), (2, .ref y), (5, .int (nI p)), (6, .int (nI 0))] [] X T J := by
    intro n_
    induction n_ with
    | zero => intro _ _ _ h_; exact absurd h_ (Nat.not_lt_zero _)
    | succ n_ ih =>
      intro w p J hwn hw hpe hpm hfJ hJ hP
      have hd1 := (sb_dg_in w).1
      have e1 : -(-nI w) = nI w := Int32.neg_neg
      refine r_iload_n (pc := 22) C 0 dJ6_getChars_ba4f3_22 rfl rfl ?_
      refine r_bipushm (pc := 23) (v := -nI 100) C dJ6_getChars_ba4f3_23 (by decide) ?_
      refine r_cgt (pc := 25) (tgt := 72) C dJ6_getChars_ba4f3_25 rfl (fun c => ?_) (fun c => ?_)
      · have h100 : w < 100 := (sb_nlt (by decide) hw).mp c
        refine r_aload_n (pc := 72) C 1 dJ6_getChars_ba4f3_72 rfl rfl ?_
        refine r_idec (pc := 73) (lo' := [(5, _), (0, _), (2, _), (6, _)]) C 2 dJ6_getChars_ba4f3_73 rfl rfl (by omega) (by decide) rfl ?_
        refine r_iload (pc := 76) C 0 dJ6_getChars_ba4f3_76 rfl ?_
        refine r_gets (pc := 78) C C.Z.1.2.2.2.2.2.1 (gx 1340 (by decide +kernel) (by decide +kernel)) dJ6_getChars_ba4f3_78 ?_
        refine r_iload_n (pc := 81) C 1 dJ6_getChars_ba4f3_81 rfl rfl ?_
        refine r_ineg (pc := 82) C dJ6_getChars_ba4f3_82 ?_
        refine r_t (y := nI w) e1 ?_
        refine r_tb (pc := 83) C C.Z.2.1.2.2.1 h100 (by decide) dJ6_getChars_ba4f3_83 ?_
        refine r_bast (pc := 84) (x := p - 1) C hT rfl (by omega) (by omega) tab_b dJ6_getChars_ba4f3_84 ?_
        refine r_iload_n (pc := 85) C 1 dJ6_getChars_ba4f3_85 rfl rfl ?_
        refine r_bipushm (pc := 86) (v := -nI 9) C dJ6_getChars_ba4f3_86 (by decide) ?_
        refine r_cge (pc := 88) (tgt := 104) C dJ6_getChars_ba4f3_88 rfl (fun c => ?_) (fun c => ?_)
        · have h9 : w ≤ 9 := (sb_nle (by decide) hw).mp c
          have hd : sb_dg w = 1 := if_pos (by omega)
          refine r_iload (pc := 104) C 3 dJ6_getChars_ba4f3_104 rfl ?_
          refine r_ifeqN (pc := 106) (tgt := 118) C dJ6_getChars_ba4f3_106 rfl (by omega) (fun _ => ?_) (fun c => False.elim (by omega))
          refine r_iload (pc := 118) C 0 dJ6_getChars_ba4f3_118 rfl ?_
          refine r_t (y := nI n) (congrArg nI (by omega)) ?_
          refine r_iret (pc := 120) C dJ6_getChars_ba4f3_120 (hP _ (fun q hq => (u2_r hq).trans (hJ q hq)) (fun j hj => u2_o (by omega)) (fun i hi => ?_) ?_) (by decide)
          · obtain rfl : i = 0 := by omega
            rw [Nat.sub_zero, u2_g, Nat.pow_zero, Nat.div_one]
          · rw [show u2 J y (p - 1) (sb_b (48 + w % 10)) y = upd (J y) (p - 1) (sb_b (48 + w % 10)) from sr_s]
            exact sb_fitU hfJ (sb_fitB _)
        · have h9 : ¬ w ≤ 9 := fun z => c ((sb_nle (by decide) hw).mpr z)
          have hd : sb_dg w = 2 := by rw [sb_dg, if_neg (by omega), if_pos h100]
          have d2 : w / 10 % 10 = w / 10 := by omega
          refine r_aload_n (pc := 91) C 2 dJ6_getChars_ba4f3_91 rfl rfl ?_
          refine r_idec (pc := 92) (lo' := [(5, _), (0, _), (2, _), (6, _)]) C 0 dJ6_getChars_ba4f3_92 rfl rfl (by omega) (by decide) rfl ?_
          refine r_iload (pc := 95) C 0 dJ6_getChars_ba4f3_95 rfl ?_
          refine r_gets (pc := 97) C C.Z.1.2.2.2.2.2.2 (gx 1342 (by decide +kernel) (by decide +kernel)) dJ6_getChars_ba4f3_97 ?_
          refine r_iload_n (pc := 100) C 1 dJ6_getChars_ba4f3_100 rfl rfl ?_
          refine r_ineg (pc := 101) C dJ6_getChars_ba4f3_101 ?_
          refine r_t (y := nI w) e1 ?_
          refine r_tb (pc := 102) C C.Z.2.1.2.2.2 h100 (by decide) dJ6_getChars_ba4f3_102 ?_
          refine r_bast (pc := 103) (x := p - 1 - 1) C hT rfl (by omega) (by omega) tab_b dJ6_getChars_ba4f3_103 ?_
          refine r_iload (pc := 104) C 3 dJ6_getChars_ba4f3_104 rfl ?_
          refine r_ifeqN (pc := 106) (tgt := 118) C dJ6_getChars_ba4f3_106 rfl (by omega) (fun _ => ?_) (fun c => False.elim (by omega))
          refine r_iload (pc := 118) C 0 dJ6_getChars_ba4f3_118 rfl ?_
          refine r_t (y := nI n) (congrArg nI (by omega)) ?_
          refine r_iret (pc := 120) C dJ6_getChars_ba4f3_120 (hP _ (fun q hq => (u2_r hq).trans ((u2_r hq).trans (hJ q hq))) (fun j hj => (u2_o (by omega)).trans (u2_o (by omega))) (fun i hi => ?_) ?_) (by decide)
          · obtain rfl | rfl : i = 0 ∨ i = 1 := by omega
            · rw [Nat.sub_zero, u2_o (by omega), u2_g, Nat.pow_zero, Nat.div_one]
            · rw [u2_g, Nat.pow_one, d2]
          · rw [show ∀ a b, u2 (u2 J y (p - 1) a) y (p - 1 - 1) b y = upd (upd (J y) (p - 1) a) (p - 1 - 1) b from fun a b => by rw [u2, sr_s, u2, sr_s]]
            exact sb_fitU (sb_fitU hfJ (sb_fitB _)) (sb_fitB _)
      · have h100 : ¬ w < 100 := fun z => c ((sb_nlt (by decide) hw).mpr z)
        have hd := sb_dg100 (w := w) (by omega) hw
        have hd2 := (sb_dg_in (w / 100)).1
        refine r_iload_n (pc := 28) C 0 dJ6_getChars_ba4f3_28 rfl rfl ?_
        refine r_bipush (pc := 29) (v := 100) C dJ6_getChars_ba4f3_29 rfl ?_
        refine r_idiv (pc := 31) C dJ6_getChars_ba4f3_31 (by decide) ?_
        refine r_t (y := -nI (w / 100)) (sb_ndiv hw) ?_
        refine r_istore_n (pc := 32) (lo' := [(3, _), (0, _), (2, _), (5, _), (6, _)]) C dJ6_getChars_ba4f3_32 rfl (by decide) rfl ?_
        refine r_iload_n (pc := 33) C 0 dJ6_getChars_ba4f3_33 rfl rfl ?_
        refine r_bipush (pc := 34) (v := 100) C dJ6_getChars_ba4f3_34 rfl ?_
        refine r_imul (pc := 36) C dJ6_getChars_ba4f3_36 ?_
        refine r_iload_n (pc := 37) C 1 dJ6_getChars_ba4f3_37 rfl rfl ?_
        refine r_isub (pc := 38) C dJ6_getChars_ba4f3_38 ?_
        refine r_t (y := nI (w % 100)) (sb_nrem hw) ?_
        refine r_istore (pc := 39) (lo' := [(4, _), (3, _), (0, _), (2, _), (5, _), (6, _)]) C dJ6_getChars_ba4f3_39 (by decide) rfl ?_
        refine r_iload_n (pc := 41) C 1 dJ6_getChars_ba4f3_41 rfl rfl ?_
        refine r_istore_n (pc := 42) (lo' := [(0, _), (4, _), (3, _), (2, _), (5, _), (6, _)]) C dJ6_getChars_ba4f3_42 rfl (by decide) rfl ?_
        refine r_aload_n (pc := 43) C 3 dJ6_getChars_ba4f3_43 rfl rfl ?_
        refine r_idec (pc := 44) (lo' := [(5, _), (0, _), (4, _), (3, _), (2, _), (6, _)]) C 4 dJ6_getChars_ba4f3_44 rfl rfl (by omega) (by decide) rfl ?_
        refine r_iload (pc := 47) C 0 dJ6_getChars_ba4f3_47 rfl ?_
        refine r_gets (pc := 49) C C.Z.1.2.2.2.2.2.1 (gx 1340 (by decide +kernel) (by decide +kernel)) dJ6_getChars_ba4f3_49 ?_
        refine r_iload (pc := 52) C 2 dJ6_getChars_ba4f3_52 rfl ?_
        refine r_tb (pc := 54) C C.Z.2.1.2.2.1 (by omega) (by decide) dJ6_getChars_ba4f3_54 ?_
        refine r_bast (pc := 55) (x := p - 1) C hT rfl (by omega) (by omega) tab_b dJ6_getChars_ba4f3_55 ?_
        refine r_aload_n (pc := 56) C 4 dJ6_getChars_ba4f3_56 rfl rfl ?_
        refine r_idec (pc := 57) (lo' := [(5, _), (0, _), (4, _), (3, _), (2, _), (6, _)]) C 0 dJ6_getChars_ba4f3_57 rfl rfl (by omega) (by decide) rfl ?_
        refine r_iload (pc := 60) C 0 dJ6_getChars_ba4f3_60 rfl ?_
        refine r_gets (pc := 62) C C.Z.1.2.2.2.2.2.2 (gx 1342 (by decide +kernel) (by decide +kernel)) dJ6_getChars_ba4f3_62 ?_
        refine r_iload (pc := 65) C 2 dJ6_getChars_ba4f3_65 rfl ?_
        refine r_tb (pc := 67) C C.Z.2.1.2.2.2 (by omega) (by decide) dJ6_getChars_ba4f3_67 ?_
        refine r_bast (pc := 68) (x := p - 1 - 1) C hT rfl (by omega) (by omega) tab_b dJ6_getChars_ba4f3_68 ?_
        refine r_goto (pc := 69) (tgt := 22) C dJ6_getChars_ba4f3_69 rfl ?_
        rw [show w % 100 % 10 = w % 10 by omega, show w % 100 / 10 = w / 10 % 10 by omega]
        refine r_ls [1, 4, 0, 5] rfl ?_
        refine ih (w / 100) (p - 1 - 1) _ (by omega) (by omega) (by omega) (by omega) ?_ (fun q hq => (u2_r hq).trans ((u2_r hq).trans (hJ q hq))) (fun J' g0 g1 g2 g3 => hP J' g0 (fun j hj => ?_) (fun i hi => ?_) g3)
        · rw [show ∀ a b, u2 (u2 J y (p - 1) a) y (p - 1 - 1) b y = upd (upd (J y) (p - 1) a) (p - 1 - 1) b from fun a b => by rw [u2, sr_s, u2, sr_s]]
          exact sb_fitU (sb_fitU hfJ (sb_fitB _)) (sb_fitB _)
        · rw [g1 j (by omega), u2_o (by omega), u2_o (by omega)]
        · match i, hi with
          | 0, _ => rw [Nat.sub_zero, g1 _ (by omega), u2_o (by omega), u2_g, Nat.pow_zero, Nat.div_one]
          | 1, _ => rw [g1 _ (by omega), u2_g, Nat.pow_one]
          | k_ + 2, hi => rw [show p - 1 - (k_ + 2) = p - 1 - 1 - 1 - k_ by omega, g2 k_ (by omega), Nat.div_div_eq_div_mul, show 100 * 10 ^ k_ = 10 ^ (k_ + 2) by rw [show k_ + 2 = k_ + 1 + 1 from rfl, Nat.pow_succ, Nat.pow_succ]; omega]
  refine r_ls [0, 4, 2, 1] rfl ?_
  exact loop (v + 1) v (n + sb_dg v) I (by omega) hv rfl hp hf (fun _ _ => rfl) (fun J' g0 g1 g2 g3 => ⟨rfl, rfl, rfl, g0, fun j hj => g1 j (Or.inl hj), g2, g3⟩)

set_option maxHeartbeats 1000000 in
theorem c_appI {g : GG} {X : va_W} {T : TT} {I : II} {s y m : Nat} {l : List Nat} (h : SB T I s y m l) {v : Nat} (hv : v < 2 ^ 31) (hl : l.length + sb_dg v ≤ 142) : Mc g yJ5_append_c97b9 cJ5_append_c97b9 4 (some (.object "java/lang/AbstractStringBuilder")) 4 1 142 [.ref s, .int (nI v)] X T I (PSB s X T I (l ++ dl v) (some (.ref s))) := by
  have hm := h.mm
  obtain ⟨a1, a2, a3, a4, a5, a6, a7, a8⟩ := id h
  have hdg := sb_dg_in v
  refine Mc.of (by decide) (Nat.le_of_ble_eq_true rfl) (fun k hfl C => ?_)
  refine r_lo (lo' := [(0, _), (1, _)]) rfl ?_
  refine r_aload_n (pc := 0) C 0 dJ5_append_c97b9_0 rfl rfl ?_
  refine r_getBI (pc := 1) C f_J5_79 a1 rfl dJ5_append_c97b9_1 ?_
  refine r_t (y := nI l.length) a4 ?_
  refine r_istore_n (pc := 4) (lo' := [(2, _), (0, _), (1, _)]) C dJ5_append_c97b9_4 rfl (by decide) rfl ?_
  refine r_iload_n (pc := 5) C 0 dJ5_append_c97b9_5 rfl rfl ?_
  refine r_iload_n (pc := 6) C 2 dJ5_append_c97b9_6 rfl rfl ?_
  refine r_cSi (pc := 7) C hfl k_J5_245 (c_ssize hv) rfl rfl (Nat.le_of_ble_eq_true rfl) (by decide) (by decide) dJ5_append_c97b9_7 ?_
  refine r_iaddN (pc := 10) C dJ5_append_c97b9_10 ?_
  refine r_istore_n (pc := 11) (lo' := [(3, _), (2, _), (0, _), (1, _)]) C dJ5_append_c97b9_11 rfl (by decide) rfl ?_
  refine r_aload_n (pc := 12) C 2 dJ5_append_c97b9_12 rfl rfl ?_
  refine r_iload_n (pc := 13) C 0 dJ5_append_c97b9_13 rfl rfl ?_
  refine r_callU (pc := 14) C hfl kU_J5_100 (c_ensure h (q := l.length + sb_dg v) (by omega) hl) a1 rfl rfl (Nat.le_of_ble_eq_true rfl) (by decide) (by decide) dJ5_append_c97b9_14 (fun r1 X1 T1 I1 e => ?_)
  obtain ⟨e1, e2, y1, m1, h1, hq, hE⟩ := e
  subst r1
  subst X1
  obtain ⟨b1, b2, b3, b4, b5, b6, b7, b8⟩ := id h1
  have hne := h1.ne
  refine r_st (st' := []) rfl ?_
  refine r_aload_n (pc := 17) C 2 dJ5_append_c97b9_17 rfl rfl ?_
  refine r_callU (pc := 18) C hfl kU_J5_83 (c_sbLat h1) b1 rfl rfl (Nat.le_of_ble_eq_true rfl) (by decide) (by decide) dJ5_append_c97b9_18 (fun r2 X2 T2 I2 e => ?_)
  obtain ⟨e1, e2, e3, e4⟩ := e
  subst r2
  subst X2
  subst T2
  subst I2
  refine r_st (st' := [.int (nI 1)]) rfl ?_
  refine r_ifeqN (pc := 21) (tgt := 37) C dJ5_append_c97b9_21 rfl (by omega) (fun c => False.elim (by omega)) (fun _ => ?_)
  refine r_iload_n (pc := 24) C 3 dJ5_append_c97b9_24 rfl rfl ?_
  refine r_iload_n (pc := 25) C 0 dJ5_append_c97b9_25 rfl rfl ?_
  refine r_aload_n (pc := 26) C 2 dJ5_append_c97b9_26 rfl rfl ?_
  refine r_getB (pc := 27) (v := .ref y1) C f_J5_15 b1 rfl rfl dJ5_append_c97b9_27 ?_
  refine r_callS (pc := 30) C hfl k_J5_248 (c_gchars b2 (by have := h1.mm; omega) hv hq b8) rfl rfl (Nat.le_of_ble_eq_true rfl) (by decide) (by decide) dJ5_append_c97b9_30 (fun r3 X3 T3 I3 e => ?_)
  obtain ⟨e1, e2, e3, g0, g1, g2, g3⟩ := e
  subst r3
  subst X3
  subst T3
  refine r_st (st' := [.int (nI l.length)]) rfl ?_
  refine r_pop (pc := 33) C dJ5_append_c97b9_33 rfl ?_
  refine r_goto (pc := 34) (tgt := 48) C dJ5_append_c97b9_34 rfl ?_
  refine r_aload_n (pc := 48) C 2 dJ5_append_c97b9_48 rfl rfl ?_
  refine r_iload_n (pc := 49) C 0 dJ5_append_c97b9_49 rfl rfl ?_
  refine r_putBI (pc := 50) C f_J5_79 b1 rfl rfl rfl dJ5_append_c97b9_50 ?_
  refine r_aload_n (pc := 53) C 2 dJ5_append_c97b9_53 rfl rfl ?_
  have hI : SB T1 (u2 I3 s 3 (nI (l.length + sb_dg v))) s y1 m1 (l ++ dl v) := by
    refine h1.app (w := dl v) ?_ ?_ (by rw [dl_len]; exact hq) (fun j hj => ?_) (fun i hi => ?_) ?_
    · rw [u2_o (by decide), g0 s hne]
    · rw [u2_g, dl_len]
    · rw [u2_r (Ne.symm hne)]
      exact g1 j hj
    · rw [dl_len] at hi
      rw [u2_r (Ne.symm hne), show tx (dl v) i = sb_dec v i from dl_at hi]
      have h9 := g2 (sb_dg v - 1 - i) (by omega)
      rw [show l.length + sb_dg v - 1 - (sb_dg v - 1 - i) = l.length + i by omega] at h9
      exact ⟨by unfold sb_dec; omega, h9⟩
    · rw [u2_r (Ne.symm hne)]
      exact g3
  exact r_aret (pc := 54) C (Or.inl ⟨_, rfl⟩) (Or.inr ⟨_, rfl⟩) dJ5_append_c97b9_54 ⟨rfl, rfl, y1, m1, hI, hE.u (fun q hq1 hq4 => by rw [u2_r hq1, g0 q (fun e => hq4 (by rw [e, b2]))])⟩ (by decide)

section G90
variable {g : GG} {k : KK} {nL : Nat} {cc : ByteArray} {own : String} {rt : Option FieldType} {D mc ms : Nat} {Q : State → Prop} {cells slots pc : Nat} {lo : List (Nat × Value)} {st : List Value} {X : va_W} {T : TT} {I : II}
/-- a method of an object that stands fast -/
theorem r_cKg {idx : Nat} {y : MethodName} {yc : ByteArray} {yl : Nat} {yr : Option FieldType} {n d b : Nat} {As rest : List Value} {P : PhiT} (C : Cx g k nL cc own rt D mc ms) (hfl : (kl k).flags = flags0) (L : LkV own idx y yc yl yr n) (hM : Mc g y yc yl yr d 0 0 (.ref b :: As) X T I P) (hO : va_O y.cls b (Ab g) (ks k) (ks k).heap) (hs : st = As.reverse ++ .ref b :: rest) (hn : As.length = n) (hw : (rest.map fun v => v.category).sum ≤ 8) (hd : d + 1 ≤ D ∧ yl ≤ 60) (hr : cells ≤ mc ∧ slots ≤ ms) (dg : decode cc pc = .ok (.invokevirtual idx, 3))
    (kk : ∀ (r : Option Value) (X' : va_W) (T' : TT) (I' : II), P r X' T' I' → Go g k nL Q cells slots (pc + 3) lo (r.toList ++ rest) X' T' I') : Go g k nL Q cells slots pc lo st X T I := by
  obtain ⟨l1, l2, l3, l4, l5, l6⟩ := L
  obtain ⟨c1, c2, c3⟩ := C.calls (cm := 0) (cs := 0) l5 hd
  refine r_run (a := (Value.ref b :: As).toArray) (rest := rest) (As := As) (P := P) (cm := 0) (cs := 0) (fun H locs h2 h3 ls h1 => ?_) kk
  obtain ⟨cell, e1, e2, e3, -⟩ := hO.kept h3.2.1
  exact va_runV (own := own) (C := y.cls) (bytes := yc) (maxL := yl) (ret := yr) (Ts := gw) (n := n) ⟨C.x, C.b, C.ml, C.ow, C.ts⟩ (hM _ hfl) ⟨⟨rfl, rfl, c1, c2, c3, List.mem_cons_self, C.ts _ l5, C.ts _ l4, ⟨l6.2.1, l6.2.2.1⟩, fun sig h => by have h2 := l6.2.2.2; rw [h] at h2; exact (Option.some.inj h2).symm, C.ts _ l1⟩, C.ts _ l2, C.ts _ l3⟩
    ⟨Pre.blind _ _ _ _ _, ⟨cell, e1, e2, e3⟩, C.pre h2 h3⟩ rfl hn h1.1 hs (by show 2 * 0 + _ ≤ 8; omega) dg (by rw [C.R]; exact hr)
end G90
theorem str_fit : ∀ i, i < 18 → ∀ q, q < sln i → fits .byte (.int ((strs.getD i []).getD q 0)) = true ∧ (strs.getD i []).getD q 0 = sb_b (sch i q) := by decide +kernel
/-- the letters of a constant string -/
def sl_ (i : Nat) : List Nat := (List.range (sln i)).map (sch i)
theorem sl_len {i : Nat} : (sl_ i).length = sln i := by simp [sl_]
theorem sl_at {i q : Nat} (h : q < sln i) : tx (sl_ i) q = sch i q := by
  simp only [tx, sl_, List.getD_eq_getElem?_getD, List.getElem?_map, List.getElem?_range h]
  rfl

set_option maxHeartbeats 1000000 in
theorem c_getBytes {g : GG} {X : va_W} {T : TT} {I : II} {i y mm n : Nat} (hi : i < 18) {rf : Nat → Option Nat} (hT : T y = (4, mm, rf)) (hm : mm ≤ 65536) (hn : n + sln i ≤ mm) : Mc g yJ0_getBytes_840e7 cJ0_getBytes_840e7 4 none 1 0 0 [.ref (ga g (100 + i)), .ref y, .int (nI n), .int 0] X T I (Ex none X T (sr I y (va_cpy (fun j => (strs.getD i []).getD j 0) (I y) 0 n (sln i)))) := by
  have hl := sln_lt i hi
  refine Mc.of (by decide) (Nat.le_of_ble_eq_true rfl) (fun k hfl C => ?_)
  refine r_lo (lo' := [(0, _), (1, _), (2, _), (3, _)]) rfl ?_
  have hO := C.Z.2.2.2.2.1 i hi
  have hO4 : va_T .byte (ga g (200 + i)) (sln i) (fun j => .int ((strs.getD i []).getD j 0)) (Ab g) (ks k) (ks k).heap := hO.2.2.2
  refine r_aload_n (pc := 0) C 0 dJ0_getBytes_840e7_0 rfl rfl ?_
  refine r_cKi (pc := 1) C hfl k_J0_335 (c_coder hi) hO.1 (As := []) rfl rfl (Nat.le_of_ble_eq_true rfl) (by decide) (by decide) dJ0_getBytes_840e7_1 ?_
  refine r_iload_n (pc := 4) C 3 dJ0_getBytes_840e7_4 rfl rfl ?_
  refine r_cne (pc := 5) (tgt := 28) C dJ0_getBytes_840e7_5 rfl (fun c => absurd rfl c) (fun _ => ?_)
  refine r_aload_n (pc := 8) C 0 dJ0_getBytes_840e7_8 rfl rfl ?_
  refine r_getO (pc := 9) C hO.2.2.1 (gx 1408 (by decide +kernel) (by decide +kernel)) dJ0_getBytes_840e7_9 ?_
  refine r_iconst (pc := 12) (v := 0) C dJ0_getBytes_840e7_12 rfl ?_
  refine r_aload_n (pc := 13) C 1 dJ0_getBytes_840e7_13 rfl rfl ?_
  refine r_iload_n (pc := 14) C 2 dJ0_getBytes_840e7_14 rfl rfl ?_
  refine r_iload_n (pc := 15) C 3 dJ0_getBytes_840e7_15 rfl rfl ?_
  refine r_ishl (pc := 16) C dJ0_getBytes_840e7_16 ?_
  refine r_t (y := nI n) (sb_shl0 _) ?_
  refine r_aload_n (pc := 17) C 0 dJ0_getBytes_840e7_17 rfl rfl ?_
  refine r_getO (pc := 18) C hO.2.2.1 (gx 1408 (by decide +kernel) (by decide +kernel)) dJ0_getBytes_840e7_18 ?_
  refine r_tlen (pc := 21) C hO4 dJ0_getBytes_840e7_21 ?_
  refine r_copyT (pc := 22) (n0 := sln i) C kA_J0_212 hO4 hT (fun q hq => (str_fit i hi _ (by omega)).1) (by omega) hn (by omega) (by omega) (Nat.le_of_ble_eq_true rfl) dJ0_getBytes_840e7_22 ?_
  refine r_goto (pc := 25) (tgt := 43) C dJ0_getBytes_840e7_25 rfl ?_
  exact r_vret (pc := 43) C dJ0_getBytes_840e7_43 ⟨rfl, rfl, rfl, rfl⟩ (by decide)

set_option maxHeartbeats 1000000 in
theorem c_infl {g : GG} {X : va_W} {T : TT} {I : II} {s y m : Nat} {l : List Nat} (h : SB T I s y m l) {i : Nat} (hi : i < 18) : Mc g yJ5_inflateIfNeededFor_a7421 cJ5_inflateIfNeededFor_a7421 2 none 1 0 0 [.ref s, .ref (ga g (100 + i))] X T I (Ex none X T I) := by
  refine Mc.of (by decide) (Nat.le_of_ble_eq_true rfl) (fun k hfl C => ?_)
  refine r_lo (lo' := [(0, _), (1, _)]) rfl ?_
  have hO := C.Z.2.2.2.2.1 i hi
  refine r_gets (pc := 0) C C.Z.1.2.2.2.2.1 (gx 344 (by decide +kernel) (by decide +kernel)) dJ5_inflateIfNeededFor_a7421_0 ?_
  refine r_ifeq (pc := 3) (tgt := 21) C dJ5_inflateIfNeededFor_a7421_3 rfl (fun c => absurd c (by decide)) (fun _ => ?_)
  refine r_aload_n (pc := 6) C 0 dJ5_inflateIfNeededFor_a7421_6 rfl rfl ?_
  refine r_getBI (pc := 7) C f_J5_22 h.1 rfl dJ5_inflateIfNeededFor_a7421_7 ?_
  refine r_aload_n (pc := 10) C 1 dJ5_inflateIfNeededFor_a7421_10 rfl rfl ?_
  refine r_cKi (pc := 11) C hfl k_J5_40 (c_coder hi) hO.1 (As := []) rfl rfl (Nat.le_of_ble_eq_true rfl) (by decide) (by decide) dJ5_inflateIfNeededFor_a7421_11 ?_
  refine r_ceq (pc := 14) (tgt := 21) C dJ5_inflateIfNeededFor_a7421_14 rfl (fun _ => ?_) (fun c => absurd h.2.2.1 c)
  exact r_vret (pc := 21) C dJ5_inflateIfNeededFor_a7421_21 ⟨rfl, rfl, rfl, rfl⟩ (by decide)

set_option maxHeartbeats 1000000 in
theorem c_putStr {g : GG} {X : va_W} {T : TT} {I : II} {s y m : Nat} {l : List Nat} (h : SB T I s y m l) {i : Nat} (hi : i < 18) (hn : l.length + sln i ≤ m) : Mc g yJ5_putStringAt_47b60 cJ5_putStringAt_47b60 3 none 2 0 0 [.ref s, .int (nI l.length), .ref (ga g (100 + i))] X T I (Ex none X T (sr I y (va_cpy (fun j => (strs.getD i []).getD j 0) (I y) 0 l.length (sln i)))) := by
  have hm := h.mm
  obtain ⟨a1, a2, a3, a4, a5, a6, a7, a8⟩ := id h
  refine Mc.of (by decide) (Nat.le_of_ble_eq_true rfl) (fun k hfl C => ?_)
  refine r_lo (lo' := [(0, _), (1, _), (2, _)]) rfl ?_
  have hO := C.Z.2.2.2.2.1 i hi
  refine r_aload_n (pc := 0) C 0 dJ5_putStringAt_47b60_0 rfl rfl ?_
  refine r_aload_n (pc := 1) C 2 dJ5_putStringAt_47b60_1 rfl rfl ?_
  refine r_callU (pc := 2) C hfl kU_J5_397 (c_infl h hi) a1 rfl rfl (Nat.le_of_ble_eq_true rfl) (by decide) (by decide) dJ5_putStringAt_47b60_2 (fun r1 X1 T1 I1 e => ?_)
  obtain ⟨e1, e2, e3, e4⟩ := e
  subst r1
  subst X1
  subst T1
  subst I1
  refine r_st (st' := []) rfl ?_
  refine r_aload_n (pc := 5) C 2 dJ5_putStringAt_47b60_5 rfl rfl ?_
  refine r_aload_n (pc := 6) C 0 dJ5_putStringAt_47b60_6 rfl rfl ?_
  refine r_getB (pc := 7) (v := .ref y) C f_J5_15 a1 rfl rfl dJ5_putStringAt_47b60_7 ?_
  refine r_iload_n (pc := 10) C 1 dJ5_putStringAt_47b60_10 rfl rfl ?_
  refine r_aload_n (pc := 11) C 0 dJ5_putStringAt_47b60_11 rfl rfl ?_
  refine r_getBI (pc := 12) C f_J5_22 a1 rfl dJ5_putStringAt_47b60_12 ?_
  refine r_t (y := 0) a3 ?_
  refine r_cKg (pc := 15) C hfl k_J5_399 (c_getBytes hi a2 (by omega) hn) hO.1 (As := [_, _, _]) rfl rfl (Nat.le_of_ble_eq_true rfl) (by decide) (by decide) dJ5_putStringAt_47b60_15 (fun r1 X1 T1 I1 e => ?_)
  obtain ⟨e1, e2, e3, e4⟩ := e
  subst r1
  subst X1
  subst T1
  subst I1
  refine r_st (st' := []) rfl ?_
  exact r_vret (pc := 18) C dJ5_putStringAt_47b60_18 ⟨rfl, rfl, rfl, rfl⟩ (by decide)

set_option maxHeartbeats 1000000 in
theorem c_appS {g : GG} {X : va_W} {T : TT} {I : II} {s y m : Nat} {l : List Nat} (h : SB T I s y m l) {i : Nat} (hi : i < 18) (hl : l.length + sln i ≤ 142) : Mc g yJ5_append_cf1ce cJ5_append_cf1ce 3 (some (.object "java/lang/AbstractStringBuilder")) 4 1 142 [.ref s, .ref (ga g (100 + i))] X T I (PSB s X T I (l ++ sl_ i) (some (.ref s))) := by
  have hm := h.mm
  obtain ⟨a1, a2, a3, a4, a5, a6, a7, a8⟩ := id h
  have hsl := sln_lt i hi
  refine Mc.of (by decide) (Nat.le_of_ble_eq_true rfl) (fun k hfl C => ?_)
  refine r_lo (lo' := [(0, _), (1, _)]) rfl ?_
  have hO := C.Z.2.2.2.2.1 i hi
  refine r_aload_n (pc := 0) C 1 dJ5_append_cf1ce_0 rfl rfl ?_
  refine r_ifnnR (pc := 1) (tgt := 9) C dJ5_append_cf1ce_1 rfl ?_
  refine r_aload_n (pc := 9) C 1 dJ5_append_cf1ce_9 rfl rfl ?_
  refine r_cKi (pc := 10) C hfl k_J5_32 (c_slen hi) hO.1 (As := []) rfl rfl (Nat.le_of_ble_eq_true rfl) (by decide) (by decide) dJ5_append_cf1ce_10 ?_
  refine r_istore_n (pc := 13) (lo' := [(2, _), (0, _), (1, _)]) C dJ5_append_cf1ce_13 rfl (by decide) rfl ?_
  refine r_aload_n (pc := 14) C 1 dJ5_append_cf1ce_14 rfl rfl ?_
  refine r_aload_n (pc := 15) C 1 dJ5_append_cf1ce_15 rfl rfl ?_
  refine r_getBI (pc := 16) C f_J5_79 a1 rfl dJ5_append_cf1ce_16 ?_
  refine r_t (y := nI l.length) a4 ?_
  refine r_iload_n (pc := 19) C 0 dJ5_append_cf1ce_19 rfl rfl ?_
  refine r_iaddN (pc := 20) C dJ5_append_cf1ce_20 ?_
  refine r_callU (pc := 21) C hfl kU_J5_100 (c_ensure h (q := l.length + sln i) (by omega) hl) a1 rfl rfl (Nat.le_of_ble_eq_true rfl) (by decide) (by decide) dJ5_append_cf1ce_21 (fun r1 X1 T1 I1 e => ?_)
  obtain ⟨e1, e2, y1, m1, h1, hq, hE⟩ := e
  subst r1
  subst X1
  obtain ⟨b1, b2, b3, b4, b5, b6, b7, b8⟩ := id h1
  have hne := h1.ne
  refine r_st (st' := []) rfl ?_
  refine r_aload_n (pc := 24) C 1 dJ5_append_cf1ce_24 rfl rfl ?_
  refine r_aload_n (pc := 25) C 1 dJ5_append_cf1ce_25 rfl rfl ?_
  refine r_getBI (pc := 26) C f_J5_79 b1 rfl dJ5_append_cf1ce_26 ?_
  refine r_t (y := nI l.length) b4 ?_
  refine r_aload_n (pc := 29) C 2 dJ5_append_cf1ce_29 rfl rfl ?_
  refine r_callU (pc := 30) C hfl kU_J5_208 (c_putStr h1 hi hq) b1 rfl rfl (Nat.le_of_ble_eq_true rfl) (by decide) (by decide) dJ5_append_cf1ce_30 (fun r2 X2 T2 I2 e => ?_)
  obtain ⟨e1, e2, e3, e4⟩ := e
  subst r2
  subst X2
  subst T2
  subst I2
  refine r_st (st' := []) rfl ?_
  refine r_aload_n (pc := 33) C 1 dJ5_append_cf1ce_33 rfl rfl ?_
  refine r_dup (pc := 34) C dJ5_append_cf1ce_34 rfl ?_
  refine r_getBI (pc := 35) C f_J5_79 b1 rfl dJ5_append_cf1ce_35 ?_
  refine r_t (y := nI l.length) (by rw [sr_n hne]; exact b4) ?_
  refine r_iload_n (pc := 38) C 0 dJ5_append_cf1ce_38 rfl rfl ?_
  refine r_iaddN (pc := 39) C dJ5_append_cf1ce_39 ?_
  refine r_putBI (pc := 40) C f_J5_79 b1 rfl rfl rfl dJ5_append_cf1ce_40 ?_
  refine r_aload_n (pc := 43) C 1 dJ5_append_cf1ce_43 rfl rfl ?_
  have hI : SB T1 (u2 (sr I1 y1 (va_cpy (fun j => (strs.getD i []).getD j 0) (I1 y1) 0 l.length (sln i))) s 3 (nI (l.length + sln i))) s y1 m1 (l ++ sl_ i) := by
    refine h1.app (w := sl_ i) ?_ ?_ (by rw [sl_len]; exact hq) (fun j hj => ?_) (fun q hq2 => ?_) ?_
    · rw [u2_o (by decide), sr_n hne]
    · rw [u2_g, sl_len]
    · rw [u2_r (Ne.symm hne), sr_s, pk_cpy_out (by omega)]
    · rw [sl_len] at hq2
      obtain ⟨w1, w2⟩ := str_fit i hi q hq2
      have w3 := (sch_ok i hi q hq2).2
      rw [u2_r (Ne.symm hne), sr_s, pk_cpy_in (by omega) (by omega), sl_at hq2, show 0 + (l.length + q - l.length) = q by omega]
      exact ⟨by omega, w2⟩
    · rw [u2_r (Ne.symm hne), sr_s]
      intro j
      by_cases e : l.length ≤ j ∧ j < l.length + sln i
      · rw [pk_cpy_in e.1 e.2]
        exact (str_fit i hi _ (by omega)).1
      · rw [pk_cpy_out (by omega)]
        exact b8 j
  exact r_aret (pc := 44) C (Or.inl ⟨_, rfl⟩) (Or.inr ⟨_, rfl⟩) dJ5_append_cf1ce_44 ⟨rfl, rfl, y1, m1, hI, hE.u (fun q hq1 hq4 => by rw [u2_r hq1, sr_n (fun e => hq4 (by rw [e, b2]))])⟩ (by decide)
