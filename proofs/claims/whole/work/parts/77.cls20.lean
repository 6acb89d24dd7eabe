theorem prV_cle {c : Nat → Nat} {L : Nat} : ∀ (f p n : Nat), (prV c L f p n).2.2 ≤ n + f
  | 0, p, n => Nat.le_refl _
  | f + 1, p, n => by
    rw [prV]
    split
    · split
      · have := prV_cle (c := c) (L := L) f ((cmV c L p).2.1 + 1) (n + 1)
        omega
      · show n + 1 ≤ n + (f + 1)
        omega
    · show n ≤ n + (f + 1)
      omega
/-- the store when a program has been counted -/
def rnI (I : II) (x L : Nat) (R : Bool × Nat × Nat) (v : Nat) (nm : Nat → Int32) : II := rI (opI (u2 I x 8 (nI 0)) (x + 507) (x + 510) L) (x + 507) R.2.1 v nm
def RXa (I0 : II) (x L : Nat) (R : Bool × Nat × Nat) (X : va_W) (T : TT) : String → va_W → TT → II → Prop := fun c' X' T' I' => c' = exc 3 ∧ X' = X ∧ T' = T ∧ ∃ v nm, v < 9 ∧ I' = u2 (rnI I0 x L R v nm) x 10 (nI R.2.1)
def RXb (I0 : II) (x L : Nat) (R : Bool × Nat × Nat) (EV : Bool × Nat × (Nat → Int32)) (w : Nat → Int32) (B N E : Nat) (p43 : Nat → Nat) (X : va_W) (T : TT) : String → va_W → TT → II → Prop := fun c' X' T' I' => c' = exc 4 ∧ X' = X ∧ T' = T ∧ ∃ v nm vb J1 J2 J3 pm, v < 9 ∧ vb < 9 ∧ DW (rnI I0 x L R v nm) J1 (x + 43) w B N E p43 (rnI I0 x L R v nm (x + 43) 9) ∧ (∀ y, ¬ (x + 1 ≤ y ∧ y < x + 43) → y ≠ x + 507 → y ≠ x + 507 + 1 → y ≠ x + 507 + 2 → J2 y = J1 y) ∧ J2 (x + 507) 1 = nI vb ∧ DW J2 J3 (x + 1) w B N E pm (J2 (x + 1) 9) ∧ I' = u2 J3 x 11 (nI EV.2.1)
def RO (I0 : II) (x L n c : Nat) (R : Bool × Nat × Nat) (EV : Bool × Nat × (Nat → Int32)) (w : Nat → Int32) (B N E D U : Nat) (p43 ph : Nat → Nat) (X : va_W) (T : TT) : PhiT := fun r' X' T' I' => r' = some (.int (nI R.2.2)) ∧ X' = X ∧ T' = T ∧ ∃ v nm vb J1 J2 J3 B2 N2 E2 pm, v < 9 ∧ vb < 9 ∧ DW (rnI I0 x L R v nm) J1 (x + 43) w B N E p43 (rnI I0 x L R v nm (x + 43) 9) ∧ (∀ y, ¬ (x + 1 ≤ y ∧ y < x + 43) → y ≠ x + 507 → y ≠ x + 507 + 1 → y ≠ x + 507 + 2 → J2 y = J1 y) ∧ J2 (x + 507) 1 = nI vb ∧ DV J2 (x + 1) EV.2.2 B2 N2 E2 pm ∧ Gd EV.2.2 B2 N2 E2 (D + 60 * 61) (U + 61) ∧ Sd EV.2.2 N2 ∧ DW J2 J3 (x + 169 + 2 + 42 * n) w B N E ph (J2 (x + 169 + 2 + 42 * n) 9) ∧ I' = u2 (u2 J3 (x + 169) 1 (nI (hsN n))) (x + 169) 0 (nI (hsC c))
theorem exV_cle {c : Nat → Nat} {L : Nat} : ∀ (f p n : Nat) (w : Nat → Int32), (exV c L f p n w).2.1 ≤ n + f
  | 0, p, n, w => Nat.le_refl _
  | f + 1, p, n, w => by
    rw [exV]
    split
    · split
      · have := exV_cle (c := c) (L := L) f ((cmV c L p).2.1 + 1) (n + 1) (chW w (cmV c L p).2.2.1 (cmx (cmV c L p).2.2.2))
        omega
      · show n + 1 ≤ n + (f + 1)
        omega
    · show n ≤ n + (f + 1)
      omega
set_option maxHeartbeats 1000000 in
theorem q_run__x1 {g : GG} {X : va_W} {T : TT} {I : II} {x : Nat} (hcl : isCl T x) {L v0 : Nat} {c : Nat → Nat} (hL : L ≤ 60) (hc : ∀ j, j < L → I (x + 510) j = nI (c j)) (hc2 : ∀ j, j < L → c j < 128) (hv0 : v0 < 9) (hv1 : I (x + 507) 1 = nI v0) (hb8 : I x 8 = nI L) (hok0 : ¬ (prV c L 61 0 0).1 = true) : Mx g yX9_run cX9_run 4 (some .int) 12 1 6 [.ref x] X T I No (RXa I x L (prV c L 61 0 0) X T) := by
  have hd := hcl.2.1
  refine Mx.of (by decide) (Nat.le_of_ble_eq_true rfl) (fun k hfl hxt C => ?_)
  refine r_lo (lo' := [(0, _)]) rfl ?_
  refine r_aload_n (pc := 0) C 0 dX9_run_0 rfl rfl ?_
  refine r_getI (pc := 1) C f_X9_50 hcl.1 rfl dX9_run_1 ?_
  refine r_t (y := nI L) hb8 ?_
  refine r_istore_n (pc := 4) (lo' := [(1, _), (0, _)]) C dX9_run_4 rfl (by decide) rfl ?_
  refine r_aload_n (pc := 5) C 1 dX9_run_5 rfl rfl ?_
  refine r_iconst (pc := 6) (v := 0) C dX9_run_6 rfl ?_
  refine r_putI (pc := 7) C f_X9_50 hcl.1 rfl rfl rfl dX9_run_7 ?_
  refine r_aload_n (pc := 10) C 1 dX9_run_10 rfl rfl ?_
  refine r_iload_n (pc := 11) C 0 dX9_run_11 rfl rfl ?_
  refine r_callV (pc := 12) C hfl k_X9_390 (q_countCommands (I := (u2 I x 8 (nI 0))) hcl hL (fun j hj => (congrFun (u2_r (by omega)) j).trans (hc j hj)) hc2 hv0 ((congrFun (u2_r (by omega)) 1).trans hv1)) hcl.1 ca_X9 rfl rfl (Nat.le_of_ble_eq_true rfl) (by decide) (by decide) dX9_run_12 (fun r1 X1 T1 J0 h1 => ?_)
  obtain ⟨e1, e2, v2, nm2, hv2, e4, e5⟩ := h1
  subst X1
  subst T1
  rw [if_neg hok0] at e5
  subst r1
  replace e4 : J0 = rnI I x L (prV c L 61 0 0) v2 nm2 := e4
  subst J0
  refine r_st (st' := [.int _]) rfl ?_
  refine r_istore_n (pc := 15) (lo' := [(2, _), (1, _), (0, _)]) C dX9_run_15 rfl (by decide) rfl ?_
  refine r_iload_n (pc := 16) C 0 dX9_run_16 rfl rfl ?_
  refine r_iconstm (pc := 17) C dX9_run_17 rfl ?_
  refine r_cne (pc := 18) (tgt := 43) C dX9_run_18 rfl (fun c_18 => False.elim (by exact c_18 rfl)) (fun c_18 => ?_)
  refine r_aload_n (pc := 21) C 2 dX9_run_21 rfl rfl ?_
  refine r_aload_n (pc := 22) C 2 dX9_run_22 rfl rfl ?_
  refine r_getR (pc := 23) (x := x + 507) C f_X9_35 hcl.1 rfl rfl dX9_run_23 ?_
  refine r_get9I (pc := 26) C f_X9_393 hcl.2.2.2.2.2.2.1.1 (Or.inl rfl) dX9_run_26 ?_
  refine r_t (y := nI (prV c L 61 0 0).2.1) rI_0 ?_
  refine r_putI (pc := 29) C f_X9_58 hcl.1 rfl rfl rfl dX9_run_29 ?_
  exact r_thrW (pc := 32) (tx := "the program is malformed") (sa := 696) C hfl hxt ex_137 (by decide) (Nat.le_of_ble_eq_true rfl) (by decide) dX9_run_32 dX9_run_35 dX9_run_36 dX9_run_39 dX9_run_42 ⟨rfl, rfl, rfl, v2, nm2, hv2, rfl⟩

set_option maxHeartbeats 1000000 in
theorem q_run__x2 {g : GG} {X : va_W} {T : TT} {I : II} {x : Nat} (hcl : isCl T x) {L v0 : Nat} {c : Nat → Nat} (hL : L ≤ 60) (hc : ∀ j, j < L → I (x + 510) j = nI (c j)) (hc2 : ∀ j, j < L → c j < 128) (hv0 : v0 < 9) (hv1 : I (x + 507) 1 = nI v0) (hb8 : I x 8 = nI L) {w : Nat → Int32} {B N E : Nat} {pm : Nat → Nat} (hV : DV I (x + 1) w B N E pm) {D U : Nat} (hG : Gd w B N E D U) (hS : Sd w N) (hDD : D + 6000 ≤ 100000) (hUU : U + 100 ≤ 10000) {p43 : Nat → Nat} (hp43 : PmOk I (x + 43) p43) (hok0 : (prV c L 61 0 0).1 = true) (hev : (exV c L 61 0 0 w).1 = false) : Mx g yX9_run cX9_run 4 (some .int) 12 1 6 [.ref x] X T I No (RXb I x L (prV c L 61 0 0) (exV c L 61 0 0 w) w B N E p43 X T) := by
  have hd := hcl.2.1
  have hB := hG.B.1
  have hN := hG.N.1
  have hB6 := hG.B.2
  have hN10 := hG.N.2
  refine Mx.of (by decide) (Nat.le_of_ble_eq_true rfl) (fun k hfl hxt C => ?_)
  refine r_lo (lo' := [(0, _)]) rfl ?_
  refine r_aload_n (pc := 0) C 0 dX9_run_0 rfl rfl ?_
  refine r_getI (pc := 1) C f_X9_50 hcl.1 rfl dX9_run_1 ?_
  refine r_t (y := nI L) hb8 ?_
  refine r_istore_n (pc := 4) (lo' := [(1, _), (0, _)]) C dX9_run_4 rfl (by decide) rfl ?_
  refine r_aload_n (pc := 5) C 1 dX9_run_5 rfl rfl ?_
  refine r_iconst (pc := 6) (v := 0) C dX9_run_6 rfl ?_
  refine r_putI (pc := 7) C f_X9_50 hcl.1 rfl rfl rfl dX9_run_7 ?_
  refine r_aload_n (pc := 10) C 1 dX9_run_10 rfl rfl ?_
  refine r_iload_n (pc := 11) C 0 dX9_run_11 rfl rfl ?_
  refine r_callV (pc := 12) C hfl k_X9_390 (q_countCommands (I := (u2 I x 8 (nI 0))) hcl hL (fun j hj => (congrFun (u2_r (by omega)) j).trans (hc j hj)) hc2 hv0 ((congrFun (u2_r (by omega)) 1).trans hv1)) hcl.1 ca_X9 rfl rfl (Nat.le_of_ble_eq_true rfl) (by decide) (by decide) dX9_run_12 (fun r1 X1 T1 J0 h1 => ?_)
  obtain ⟨e1, e2, v2, nm2, hv2, e4, e5⟩ := h1
  subst X1
  subst T1
  rw [if_pos hok0] at e5
  subst r1
  replace e4 : J0 = rnI I x L (prV c L 61 0 0) v2 nm2 := e4
  subst J0
  refine r_st (st' := [.int _]) rfl ?_
  refine r_istore_n (pc := 15) (lo' := [(2, _), (1, _), (0, _)]) C dX9_run_15 rfl (by decide) rfl ?_
  refine r_iload_n (pc := 16) C 0 dX9_run_16 rfl rfl ?_
  refine r_iconstm (pc := 17) C dX9_run_17 rfl ?_
  refine r_cne (pc := 18) (tgt := 43) C dX9_run_18 rfl (fun c_18 => ?_) (fun c_18 => False.elim (by exact absurd (show nI (prV c L 61 0 0).2.2 < 0 by rw [c_18]; decide) (nI_pos (by have := prV_cle (c := c) (L := L) 61 0 0; omega))))
  refine r_aload_n (pc := 43) C 2 dX9_run_43 rfl rfl ?_
  refine r_getR (pc := 44) (x := x + 43) C f_X9_16 hcl.1 rfl rfl dX9_run_44 ?_
  refine r_aload_n (pc := 47) C 2 dX9_run_47 rfl rfl ?_
  refine r_getR (pc := 48) (x := x + 1) C f_X9_10 hcl.1 rfl rfl dX9_run_48 ?_
  have hF0 : ∀ y, y ≠ x → y ≠ x + 507 → y ≠ x + 507 + 1 → y ≠ x + 507 + 2 → rnI I x L (prV c L 61 0 0) v2 nm2 y = I y := fun y a1 a2 a3 a4 => (rI_o a2 a3).trans ((opI_o a2 a4).trans (u2_r a1))
  have hV0 := hV.mv (I := rnI I x L (prV c L 61 0 0) v2 nm2) (fun y hy => hF0 y (by omega) (by omega) (by omega) (by omega))
  refine r_callV (pc := 51) C hfl k_X9_64 (c_X3_copyFrom hcl.2.2.1 hd hV0 (hp43.mv (hF0 _ (by omega) (by omega) (by omega) (by omega))) (by omega) hB hN) (Dk_0 hcl.2.2.1) ca_X3 rfl rfl (Nat.le_of_ble_eq_true rfl) (by decide) (by decide) dX9_run_51 (fun r3 X3 T3 J1 h3 => ?_)
  obtain ⟨e1, e2, e3, hW1⟩ := h3
  subst r3
  subst X3
  subst T3
  refine r_st (st' := []) rfl ?_
  have hF1 : ∀ y, ¬ (x + 43 ≤ y ∧ y < x + 85) → y ≠ x → y ≠ x + 507 → y ≠ x + 507 + 1 → y ≠ x + 507 + 2 → J1 y = I y := fun y a0 a1 a2 a3 a4 => (hW1.1 y (by omega)).trans (hF0 y a1 a2 a3 a4)
  refine r_aload_n (pc := 54) C 2 dX9_run_54 rfl rfl ?_
  refine r_iload_n (pc := 55) C 1 dX9_run_55 rfl rfl ?_
  refine r_iload_n (pc := 56) C 0 dX9_run_56 rfl rfl ?_
  refine r_callV (pc := 57) C hfl k_X9_398 (q_executeCommands (I := J1) (v0 := v2) hcl hL (fun j hj => (congrFun (hF1 (x + 510) (by omega) (by omega) (by omega) (by omega) (by omega)) j).trans (hc j hj)) hc2 hv2 ((congrFun (hW1.1 (x + 507) (by omega)) 1).trans rI_1) (hV0.mv (fun y hy => hW1.1 y (by omega))) hG hS hDD hUU hok0 rfl (by have := prV_cle (c := c) (L := L) 61 0 0; omega)) hcl.1 ca_X9 rfl rfl (Nat.le_of_ble_eq_true rfl) (by decide) (by decide) dX9_run_57 (fun r4 X4 T4 J2 h4 => ?_)
  obtain ⟨e1, e2, hF2, ⟨vb, hvb, hvb1⟩, ⟨e6, -, -⟩ | ⟨-, e5, pm2, hP2⟩⟩ := h4
  · exact absurd (hev.symm.trans e6) (by decide)
  subst X4
  subst T4
  subst r4
  refine r_st (st' := [.int _]) rfl ?_
  refine r_istore_n (pc := 60) (lo' := [(3, _), (2, _), (1, _), (0, _)]) C dX9_run_60 rfl (by decide) rfl ?_
  refine r_iload_n (pc := 61) C 0 dX9_run_61 rfl rfl ?_
  refine r_iconstm (pc := 62) C dX9_run_62 rfl ?_
  refine r_ceq (pc := 63) (tgt := 93) C dX9_run_63 rfl (fun c_63 => False.elim (by exact absurd (show nI (exV c L 61 0 0 w).2.1 < 0 by rw [c_63]; decide) (nI_pos (by have := exV_cle (c := c) (L := L) 61 0 0 w; omega)))) (fun c_63 => ?_)
  refine r_aload_n (pc := 66) C 3 dX9_run_66 rfl rfl ?_
  refine r_getR (pc := 67) (x := x + 1) C f_X9_10 hcl.1 rfl rfl dX9_run_67 ?_
  refine r_aload_n (pc := 70) C 3 dX9_run_70 rfl rfl ?_
  refine r_getR (pc := 71) (x := x + 43) C f_X9_16 hcl.1 rfl rfl dX9_run_71 ?_
  refine r_callV (pc := 74) C hfl k_X9_64 (c_X3_copyFrom hd hcl.2.2.1 (hW1.toV.mv (fun y hy => hF2 y (by omega) (by omega) (by omega) (by omega))) hP2 (by omega) hB hN) (Dk_0 hd) ca_X3 rfl rfl (Nat.le_of_ble_eq_true rfl) (by decide) (by decide) dX9_run_74 (fun r5 X5 T5 J3 h5 => ?_)
  obtain ⟨e1, e2, e3, hW3⟩ := h5
  subst r5
  subst X5
  subst T5
  refine r_st (st' := []) rfl ?_
  refine r_aload_n (pc := 77) C 3 dX9_run_77 rfl rfl ?_
  refine r_iload_n (pc := 78) C 0 dX9_run_78 rfl rfl ?_
  refine r_putI (pc := 79) C f_X9_61 hcl.1 rfl rfl rfl dX9_run_79 ?_
  exact r_thrW (pc := 82) (tx := "a command failed") (sa := 701) C hfl hxt ex_145 (by decide) (Nat.le_of_ble_eq_true rfl) (by decide) dX9_run_82 dX9_run_85 dX9_run_86 dX9_run_89 dX9_run_92 ⟨rfl, rfl, rfl, v2, nm2, vb, J1, J2, J3, pm2, hv2, hvb, hW1, hF2, hvb1, hW3, rfl⟩

set_option maxHeartbeats 1000000 in
theorem q_run__o {g : GG} {X : va_W} {T : TT} {I : II} {x : Nat} (hcl : isCl T x) {L v0 : Nat} {c : Nat → Nat} (hL : L ≤ 60) (hc : ∀ j, j < L → I (x + 510) j = nI (c j)) (hc2 : ∀ j, j < L → c j < 128) (hv0 : v0 < 9) (hv1 : I (x + 507) 1 = nI v0) (hb8 : I x 8 = nI L) {w : Nat → Int32} {B N E : Nat} {pm : Nat → Nat} (hV : DV I (x + 1) w B N E pm) {D U : Nat} (hG : Gd w B N E D U) (hS : Sd w N) (hDD : D + 6000 ≤ 100000) (hUU : U + 100 ≤ 10000) {p43 : Nat → Nat} (hp43 : PmOk I (x + 43) p43) {n cc_ : Nat} (hn : n < 8) (hcc : cc_ ≤ 8) (hn1 : I (x + 169) 1 = nI n) (hc1 : I (x + 169) 0 = nI cc_) {ph : Nat → Nat} (hph : PmOk I (x + 169 + 2 + 42 * n) ph) (hok0 : (prV c L 61 0 0).1 = true) (hev : (exV c L 61 0 0 w).1 = true) : Mx g yX9_run cX9_run 4 (some .int) 12 0 0 [.ref x] X T I (RO I x L n cc_ (prV c L 61 0 0) (exV c L 61 0 0 w) w B N E D U p43 ph X T) NoX := by
  have hd := hcl.2.1
  have hB := hG.B.1
  have hN := hG.N.1
  have hB6 := hG.B.2
  have hN10 := hG.N.2
  refine Mx.of (by decide) (Nat.le_of_ble_eq_true rfl) (fun k hfl hxt C => ?_)
  refine r_lo (lo' := [(0, _)]) rfl ?_
  refine r_aload_n (pc := 0) C 0 dX9_run_0 rfl rfl ?_
  refine r_getI (pc := 1) C f_X9_50 hcl.1 rfl dX9_run_1 ?_
  refine r_t (y := nI L) hb8 ?_
  refine r_istore_n (pc := 4) (lo' := [(1, _), (0, _)]) C dX9_run_4 rfl (by decide) rfl ?_
  refine r_aload_n (pc := 5) C 1 dX9_run_5 rfl rfl ?_
  refine r_iconst (pc := 6) (v := 0) C dX9_run_6 rfl ?_
  refine r_putI (pc := 7) C f_X9_50 hcl.1 rfl rfl rfl dX9_run_7 ?_
  refine r_aload_n (pc := 10) C 1 dX9_run_10 rfl rfl ?_
  refine r_iload_n (pc := 11) C 0 dX9_run_11 rfl rfl ?_
  refine r_callV (pc := 12) C hfl k_X9_390 (q_countCommands (I := (u2 I x 8 (nI 0))) hcl hL (fun j hj => (congrFun (u2_r (by omega)) j).trans (hc j hj)) hc2 hv0 ((congrFun (u2_r (by omega)) 1).trans hv1)) hcl.1 ca_X9 rfl rfl (Nat.le_of_ble_eq_true rfl) (by decide) (by decide) dX9_run_12 (fun r1 X1 T1 J0 h1 => ?_)
  obtain ⟨e1, e2, v2, nm2, hv2, e4, e5⟩ := h1
  subst X1
  subst T1
  rw [if_pos hok0] at e5
  subst r1
  replace e4 : J0 = rnI I x L (prV c L 61 0 0) v2 nm2 := e4
  subst J0
  refine r_st (st' := [.int _]) rfl ?_
  refine r_istore_n (pc := 15) (lo' := [(2, _), (1, _), (0, _)]) C dX9_run_15 rfl (by decide) rfl ?_
  refine r_iload_n (pc := 16) C 0 dX9_run_16 rfl rfl ?_
  refine r_iconstm (pc := 17) C dX9_run_17 rfl ?_
  refine r_cne (pc := 18) (tgt := 43) C dX9_run_18 rfl (fun c_18 => ?_) (fun c_18 => False.elim (by exact absurd (show nI (prV c L 61 0 0).2.2 < 0 by rw [c_18]; decide) (nI_pos (by have := prV_cle (c := c) (L := L) 61 0 0; omega))))
  refine r_aload_n (pc := 43) C 2 dX9_run_43 rfl rfl ?_
  refine r_getR (pc := 44) (x := x + 43) C f_X9_16 hcl.1 rfl rfl dX9_run_44 ?_
  refine r_aload_n (pc := 47) C 2 dX9_run_47 rfl rfl ?_
  refine r_getR (pc := 48) (x := x + 1) C f_X9_10 hcl.1 rfl rfl dX9_run_48 ?_
  have hF0 : ∀ y, y ≠ x → y ≠ x + 507 → y ≠ x + 507 + 1 → y ≠ x + 507 + 2 → rnI I x L (prV c L 61 0 0) v2 nm2 y = I y := fun y a1 a2 a3 a4 => (rI_o a2 a3).trans ((opI_o a2 a4).trans (u2_r a1))
  have hV0 := hV.mv (I := rnI I x L (prV c L 61 0 0) v2 nm2) (fun y hy => hF0 y (by omega) (by omega) (by omega) (by omega))
  refine r_callV (pc := 51) C hfl k_X9_64 (c_X3_copyFrom hcl.2.2.1 hd hV0 (hp43.mv (hF0 _ (by omega) (by omega) (by omega) (by omega))) (by omega) hB hN) (Dk_0 hcl.2.2.1) ca_X3 rfl rfl (Nat.le_of_ble_eq_true rfl) (by decide) (by decide) dX9_run_51 (fun r3 X3 T3 J1 h3 => ?_)
  obtain ⟨e1, e2, e3, hW1⟩ := h3
  subst r3
  subst X3
  subst T3
  refine r_st (st' := []) rfl ?_
  have hF1 : ∀ y, ¬ (x + 43 ≤ y ∧ y < x + 85) → y ≠ x → y ≠ x + 507 → y ≠ x + 507 + 1 → y ≠ x + 507 + 2 → J1 y = I y := fun y a0 a1 a2 a3 a4 => (hW1.1 y (by omega)).trans (hF0 y a1 a2 a3 a4)
  refine r_aload_n (pc := 54) C 2 dX9_run_54 rfl rfl ?_
  refine r_iload_n (pc := 55) C 1 dX9_run_55 rfl rfl ?_
  refine r_iload_n (pc := 56) C 0 dX9_run_56 rfl rfl ?_
  refine r_callV (pc := 57) C hfl k_X9_398 (q_executeCommands (I := J1) (v0 := v2) hcl hL (fun j hj => (congrFun (hF1 (x + 510) (by omega) (by omega) (by omega) (by omega) (by omega)) j).trans (hc j hj)) hc2 hv2 ((congrFun (hW1.1 (x + 507) (by omega)) 1).trans rI_1) (hV0.mv (fun y hy => hW1.1 y (by omega))) hG hS hDD hUU hok0 rfl (by have := prV_cle (c := c) (L := L) 61 0 0; omega)) hcl.1 ca_X9 rfl rfl (Nat.le_of_ble_eq_true rfl) (by decide) (by decide) dX9_run_57 (fun r4 X4 T4 J2 h4 => ?_)
  obtain ⟨e1, e2, hF2, ⟨vb, hvb, hvb1⟩, h6⟩ := h4
  obtain ⟨-, e5, B2, N2, E2, pm2, hV2, hG2, hS2⟩ := h6.resolve_right (fun z => absurd (hev.symm.trans z.1) (by decide))
  subst X4
  subst T4
  subst r4
  refine r_st (st' := [.int (-1)]) rfl ?_
  refine r_istore_n (pc := 60) (lo' := [(3, _), (2, _), (1, _), (0, _)]) C dX9_run_60 rfl (by decide) rfl ?_
  refine r_iload_n (pc := 61) C 0 dX9_run_61 rfl rfl ?_
  refine r_iconstm (pc := 62) C dX9_run_62 rfl ?_
  refine r_ceq (pc := 63) (tgt := 93) C dX9_run_63 rfl (fun c_63 => ?_) (fun c_63 => False.elim (by exact c_63 rfl))
  refine r_aload_n (pc := 93) C 3 dX9_run_93 rfl rfl ?_
  refine r_getR (pc := 94) (x := x + 169) C f_X9_28 hcl.1 rfl rfl dX9_run_94 ?_
  refine r_aload_n (pc := 97) C 3 dX9_run_97 rfl rfl ?_
  refine r_getR (pc := 98) (x := x + 43) C f_X9_16 hcl.1 rfl rfl dX9_run_98 ?_
  refine r_callV (pc := 101) C hfl k_X9_107 (c_X5_remember (n := n) (c := cc_) hcl.2.2.2.2.2.1 hn hcc (((congrFun (hF2 (x + 169) (by omega) (by omega) (by omega) (by omega)) 1).trans (congrFun (hF1 (x + 169) (by omega) (by omega) (by omega) (by omega) (by omega)) 1)).trans hn1) (((congrFun (hF2 (x + 169) (by omega) (by omega) (by omega) (by omega)) 0).trans (congrFun (hF1 (x + 169) (by omega) (by omega) (by omega) (by omega) (by omega)) 0)).trans hc1) hcl.2.2.1 (hW1.toV.mv (fun y hy => hF2 y (by omega) (by omega) (by omega) (by omega))) (hph.mv ((hF2 _ (by omega) (by omega) (by omega) (by omega)).trans (hF1 _ (by omega) (by omega) (by omega) (by omega) (by omega)))) (by omega) hB hN) hcl.2.2.2.2.2.1.1 ca_X5 rfl rfl (Nat.le_of_ble_eq_true rfl) (by decide) (by decide) dX9_run_101 (fun r5 X5 T5 I5 h5 => ?_)
  obtain ⟨e1, e2, e3, J3, hW3, e4⟩ := h5
  subst r5
  subst X5
  subst T5
  subst I5
  refine r_st (st' := []) rfl ?_
  refine r_iload_n (pc := 104) C 1 dX9_run_104 rfl rfl ?_
  refine r_xret ?_
  exact r_iret (pc := 105) C dX9_run_105 ⟨rfl, rfl, rfl, v2, nm2, vb, J1, J2, J3, B2, N2, E2, pm2, hv2, hvb, hW1, hF2, hvb1, hV2, hG2, hS2, hW3, rfl⟩ (by decide)
