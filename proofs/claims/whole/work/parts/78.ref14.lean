def rnF (I : II) (M p1 n p : Nat) (s1 s : Int32) (nm1 nm w : Nat → Int32) : II := u2 (psI (exI (cpI (psI (u2 I M 0 (nI 0)) M p1 s1 nm1) M) M n w) M p s nm) M 11 (nI 0)
theorem cpI_f {I : II} {M j : Nat} : cpI I M M j = I M j := congrFun (sr_n (by omega)) j
theorem exI_f {I : II} {M n j : Nat} {w : Nat → Int32} (h : j ≠ 17) : exI I M n w M j = I M j := by rw [exI, sr_n (show M ≠ M + 1 by omega), u2_o h]
theorem rnF_f {I : II} {M p1 n p j : Nat} {s1 s : Int32} {nm1 nm w : Nat → Int32} (h0 : j ≠ 0) (h1 : j ≠ 11) (h2 : j ≠ 12) (h3 : j ≠ 16) (h4 : j ≠ 17) : rnF I M p1 n p s1 s nm1 nm w M j = I M j := by
  rw [rnF, u2_o h1, psI_f h2 h3, exI_f h4, cpI_f, psI_f h2 h3, u2_o h0]
theorem rnF_17 {I : II} {M p1 n p : Nat} {s1 s : Int32} {nm1 nm w : Nat → Int32} : rnF I M p1 n p s1 s nm1 nm w M 17 = nI n := by
  rw [rnF, u2_o (by decide), psI_f (by decide) (by decide), exI, sr_n (show M ≠ M + 1 by omega), u2_g]
theorem kpI_17 {I : II} {M c f : Nat} : kpI I M c f M 17 = I M 17 := by
  unfold kpI
  split
  · rw [sr_n (show M ≠ M + 2 by omega), u2_o (by decide), u2_o (by decide)]
  · rw [sr_n (show M ≠ M + 2 by omega), u2_o (by decide)]
theorem row_c {I : II} {M p1 : Nat} {s1 z : Int32} {nm1 : Nat → Int32} : cpI (psI (u2 I M 0 z) M p1 s1 nm1) M (M + 1) = I (M + 1) := by
  rw [cpI, sr_n (show M + 1 ≠ M + 4 by omega), psI_o (by omega) (by omega), u2_r (by omega)]
def gbI (J : II) (M : Nat) : II := sr J (M + 1) (ins (J (M + 1)) 0 (J (M + 4)) 218)
def MX1 (I : II) (M : Nat) (X : va_W) (T : TT) (R : Bool × Nat × Nat) : PhiT := fun r X' T' I' => r = some (.int (nI 0)) ∧ X' = X ∧ T' = T ∧ ∃ s nm, I' = u2 (u2 (u2 (psI (u2 I M 0 (nI 0)) M R.2.1 s nm) M 13 (nI R.2.1)) M 11 (nI 0)) M 0 (nI 1)
def MXb (I : II) (M : Nat) (X : va_W) (T : TT) (R : Bool × Nat × Nat) (EV : Bool × Nat × (Nat → Int32)) : PhiT := fun r X' T' I' => r = some (.int (nI 0)) ∧ X' = X ∧ T' = T ∧ ∃ p s1 s nm1 nm, I' = u2 (u2 (gbI (rnF I M R.2.1 EV.2.1 p s1 s nm1 nm EV.2.2) M) M 14 (nI EV.2.1)) M 0 (nI 2)
def MO (I : II) (M c f : Nat) (X : va_W) (T : TT) (R : Bool × Nat × Nat) (EV : Bool × Nat × (Nat → Int32)) : PhiT := fun r X' T' I' => r = some (.int (nI EV.2.1)) ∧ X' = X ∧ T' = T ∧ ∃ p s1 s nm1 nm, I' = kpI (rnF I M R.2.1 EV.2.1 p s1 s nm1 nm EV.2.2) M c f
set_option maxHeartbeats 1000000 in
theorem c_run__x1 {g : GG} {X : va_W} {T : TT} {I : II} {M : Nat} (hm : isMd T M) {c : Nat → Nat} {L : Nat} (hI : Inp I M L c) (hok0 : ¬ (prV c L 61 0 0).1 = true) : Mc g yX10_run cX10_run 2 (some .int) 9 0 0 [.ref M] X T I (MX1 I M X T (prV c L 61 0 0)) := by
  have hL := hI.2.1
  refine Mc.of (by decide) (Nat.le_of_ble_eq_true rfl) (fun k hfl C => ?_)
  refine r_lo (lo' := [(0, _)]) rfl ?_
  refine r_aload_n (pc := 0) C 0 dX10_run_0 rfl rfl ?_
  refine r_iconst (pc := 1) (v := 0) C dX10_run_1 rfl ?_
  refine r_putI (pc := 2) C f_X10_1 hm.1 rfl rfl rfl dX10_run_2 ?_
  refine r_aload_n (pc := 5) C 0 dX10_run_5 rfl rfl ?_
  have hI0 : Inp (u2 I M 0 (nI 0)) M L c := hI.v (u2_o (by decide)) (u2_r (by omega))
  refine r_callV (pc := 6) C hfl k_X10_282 (c_readsAll hm hI0) hm.1 ca_X10 rfl rfl (Nat.le_of_ble_eq_true rfl) (by decide) (by decide) dX10_run_6 (fun r2 X2 T2 I2 h2 => ?_)
  obtain ⟨e1, e2, e3, s1, nm1, e4⟩ := h2
  subst r2
  subst X2
  subst T2
  subst I2
  refine r_st (st' := [.int _]) rfl ?_
  refine r_ifneB (pc := 9) (tgt := 31) C dX10_run_9 rfl (fun c_9 => False.elim (by exact hok0 c_9)) (fun c_9 => ?_)
  refine r_aload_n (pc := 12) C 0 dX10_run_12 rfl rfl ?_
  refine r_aload_n (pc := 13) C 0 dX10_run_13 rfl rfl ?_
  refine r_getI (pc := 14) C f_X10_236 hm.1 rfl dX10_run_14 ?_
  refine r_t (y := nI ((prV c L 61 0 0).2.1)) psI_12 ?_
  refine r_putI (pc := 17) C f_X10_33 hm.1 rfl rfl rfl dX10_run_17 ?_
  refine r_aload_n (pc := 20) C 0 dX10_run_20 rfl rfl ?_
  refine r_iconst (pc := 21) (v := 0) C dX10_run_21 rfl ?_
  refine r_putI (pc := 22) C f_X10_233 hm.1 rfl rfl rfl dX10_run_22 ?_
  refine r_aload_n (pc := 25) C 0 dX10_run_25 rfl rfl ?_
  refine r_iconst (pc := 26) (v := 1) C dX10_run_26 rfl ?_
  refine r_cVi (pc := 27) C hfl k_X10_79 (c_failsI hm) hm.1 ca_X10 rfl rfl (Nat.le_of_ble_eq_true rfl) (by decide) (by decide) dX10_run_27 ?_
  exact r_iret (pc := 30) C dX10_run_30 ⟨rfl, rfl, rfl, s1, nm1, rfl⟩ (by decide)

set_option maxHeartbeats 1000000 in
theorem c_run__x2 {g : GG} {X : va_W} {T : TT} {I : II} {M : Nat} (hm : isMd T M) {c : Nat → Nat} {L : Nat} (hI : Inp I M L c) {B N E D U : Nat} (hG : Gd (I (M + 1)) B N E D U) (hS : Sd (I (M + 1)) N) (hDD : D + 6000 ≤ 100000) (hUU : U + 100 ≤ 10000) (hok0 : (prV c L 61 0 0).1 = true) (hev : (exV c L 61 0 0 (I (M + 1))).1 = false) : Mc g yX10_run cX10_run 2 (some .int) 9 0 0 [.ref M] X T I (MXb I M X T (prV c L 61 0 0) (exV c L 61 0 0 (I (M + 1)))) := by
  have hL := hI.2.1
  refine Mc.of (by decide) (Nat.le_of_ble_eq_true rfl) (fun k hfl C => ?_)
  refine r_lo (lo' := [(0, _)]) rfl ?_
  refine r_aload_n (pc := 0) C 0 dX10_run_0 rfl rfl ?_
  refine r_iconst (pc := 1) (v := 0) C dX10_run_1 rfl ?_
  refine r_putI (pc := 2) C f_X10_1 hm.1 rfl rfl rfl dX10_run_2 ?_
  refine r_aload_n (pc := 5) C 0 dX10_run_5 rfl rfl ?_
  have hI0 : Inp (u2 I M 0 (nI 0)) M L c := hI.v (u2_o (by decide)) (u2_r (by omega))
  refine r_callV (pc := 6) C hfl k_X10_282 (c_readsAll hm hI0) hm.1 ca_X10 rfl rfl (Nat.le_of_ble_eq_true rfl) (by decide) (by decide) dX10_run_6 (fun r2 X2 T2 I2 h2 => ?_)
  obtain ⟨e1, e2, e3, s1, nm1, e4⟩ := h2
  subst r2
  subst X2
  subst T2
  subst I2
  refine r_st (st' := [.int _]) rfl ?_
  refine r_ifneB (pc := 9) (tgt := 31) C dX10_run_9 rfl (fun c_9 => ?_) (fun c_9 => False.elim (by exact c_9 hok0))
  refine r_aload_n (pc := 31) C 0 dX10_run_31 rfl rfl ?_
  refine r_cVv (pc := 32) C hfl k_X10_48 (c_copies hm) hm.1 ca_X10 rfl rfl (Nat.le_of_ble_eq_true rfl) (by decide) (by decide) dX10_run_32 ?_
  refine r_aload_n (pc := 35) C 0 dX10_run_35 rfl rfl ?_
  have hI1 : Inp (cpI (psI (u2 I M 0 (nI 0)) M (prV c L 61 0 0).2.1 s1 nm1) M) M L c := hI0.v (cpI_f.trans (psI_f (by decide) (by decide))) ((sr_n (by omega)).trans (psI_o (by omega) (by omega)))
  refine r_callV (pc := 36) C hfl k_X10_285 (c_doesAll hm hI1 (by rw [row_c]; exact hG) (by rw [row_c]; exact hS) hDD hUU hok0) hm.1 ca_X10 rfl rfl (Nat.le_of_ble_eq_true rfl) (by decide) (by decide) dX10_run_36 (fun r3 X3 T3 I3 h3 => ?_)
  rw [row_c] at h3
  obtain ⟨e1, e2, e3, p, s, nm, e4⟩ := h3
  subst r3
  subst X3
  subst T3
  subst I3
  refine r_st (st' := [.int _]) rfl ?_
  refine r_istore_n (pc := 39) (lo' := [(1, _), (0, _)]) C dX10_run_39 rfl (by decide) rfl ?_
  refine r_aload_n (pc := 40) C 1 dX10_run_40 rfl rfl ?_
  refine r_iconst (pc := 41) (v := 0) C dX10_run_41 rfl ?_
  refine r_putI (pc := 42) C f_X10_233 hm.1 rfl rfl rfl dX10_run_42 ?_
  refine r_iload_n (pc := 45) C 0 dX10_run_45 rfl rfl ?_
  refine r_ifeqB (pc := 46) (tgt := 58) C dX10_run_46 rfl (fun c_46 => ?_) (fun c_46 => False.elim (by exact absurd (hev.symm.trans c_46) (by decide)))
  refine r_aload_n (pc := 58) C 1 dX10_run_58 rfl rfl ?_
  refine r_cVv (pc := 59) C hfl k_X10_288 (c_goesBack (I := (rnF I M (prV c L 61 0 0).2.1 (exV c L 61 0 0 (I (M + 1))).2.1 p s1 s nm1 nm (exV c L 61 0 0 (I (M + 1))).2.2)) hm) hm.1 ca_X10 rfl rfl (Nat.le_of_ble_eq_true rfl) (by decide) (by decide) dX10_run_59 ?_
  refine r_aload_n (pc := 62) C 1 dX10_run_62 rfl rfl ?_
  refine r_aload_n (pc := 63) C 1 dX10_run_63 rfl rfl ?_
  refine r_getI (pc := 64) C f_X10_273 hm.1 rfl dX10_run_64 ?_
  refine r_t (y := nI ((exV c L 61 0 0 (I (M + 1))).2.1)) ((congrFun (sr_n (by omega)) 17).trans rnF_17) ?_
  refine r_putI (pc := 67) C f_X10_36 hm.1 rfl rfl rfl dX10_run_67 ?_
  refine r_aload_n (pc := 70) C 1 dX10_run_70 rfl rfl ?_
  refine r_iconst (pc := 71) (v := 2) C dX10_run_71 rfl ?_
  refine r_cVi (pc := 72) C hfl k_X10_79 (c_failsI hm) hm.1 ca_X10 rfl rfl (Nat.le_of_ble_eq_true rfl) (by decide) (by decide) dX10_run_72 ?_
  exact r_iret (pc := 75) C dX10_run_75 ⟨rfl, rfl, rfl, p, s1, s, nm1, nm, rfl⟩ (by decide)

set_option maxHeartbeats 1000000 in
theorem c_run__o {g : GG} {X : va_W} {T : TT} {I : II} {M : Nat} (hm : isMd T M) {c : Nat → Nat} {L : Nat} (hI : Inp I M L c) {B N E D U : Nat} (hG : Gd (I (M + 1)) B N E D U) (hS : Sd (I (M + 1)) N) (hDD : D + 6000 ≤ 100000) (hUU : U + 100 ≤ 10000) (hok0 : (prV c L 61 0 0).1 = true) (hev : (exV c L 61 0 0 (I (M + 1))).1 = true) {c_ f_ : Nat} (hc : I M 5 = nI c_) (hf : I M 6 = nI f_) (hf8 : f_ < 8) (hc8 : c_ ≤ 8) : Mc g yX10_run cX10_run 2 (some .int) 9 0 0 [.ref M] X T I (MO I M c_ f_ X T (prV c L 61 0 0) (exV c L 61 0 0 (I (M + 1)))) := by
  have hL := hI.2.1
  refine Mc.of (by decide) (Nat.le_of_ble_eq_true rfl) (fun k hfl C => ?_)
  refine r_lo (lo' := [(0, _)]) rfl ?_
  refine r_aload_n (pc := 0) C 0 dX10_run_0 rfl rfl ?_
  refine r_iconst (pc := 1) (v := 0) C dX10_run_1 rfl ?_
  refine r_putI (pc := 2) C f_X10_1 hm.1 rfl rfl rfl dX10_run_2 ?_
  refine r_aload_n (pc := 5) C 0 dX10_run_5 rfl rfl ?_
  have hI0 : Inp (u2 I M 0 (nI 0)) M L c := hI.v (u2_o (by decide)) (u2_r (by omega))
  refine r_callV (pc := 6) C hfl k_X10_282 (c_readsAll hm hI0) hm.1 ca_X10 rfl rfl (Nat.le_of_ble_eq_true rfl) (by decide) (by decide) dX10_run_6 (fun r2 X2 T2 I2 h2 => ?_)
  obtain ⟨e1, e2, e3, s1, nm1, e4⟩ := h2
  subst r2
  subst X2
  subst T2
  subst I2
  refine r_st (st' := [.int _]) rfl ?_
  refine r_ifneB (pc := 9) (tgt := 31) C dX10_run_9 rfl (fun c_9 => ?_) (fun c_9 => False.elim (by exact c_9 hok0))
  refine r_aload_n (pc := 31) C 0 dX10_run_31 rfl rfl ?_
  refine r_cVv (pc := 32) C hfl k_X10_48 (c_copies hm) hm.1 ca_X10 rfl rfl (Nat.le_of_ble_eq_true rfl) (by decide) (by decide) dX10_run_32 ?_
  refine r_aload_n (pc := 35) C 0 dX10_run_35 rfl rfl ?_
  have hI1 : Inp (cpI (psI (u2 I M 0 (nI 0)) M (prV c L 61 0 0).2.1 s1 nm1) M) M L c := hI0.v (cpI_f.trans (psI_f (by decide) (by decide))) ((sr_n (by omega)).trans (psI_o (by omega) (by omega)))
  refine r_callV (pc := 36) C hfl k_X10_285 (c_doesAll hm hI1 (by rw [row_c]; exact hG) (by rw [row_c]; exact hS) hDD hUU hok0) hm.1 ca_X10 rfl rfl (Nat.le_of_ble_eq_true rfl) (by decide) (by decide) dX10_run_36 (fun r3 X3 T3 I3 h3 => ?_)
  rw [row_c] at h3
  obtain ⟨e1, e2, e3, p, s, nm, e4⟩ := h3
  subst r3
  subst X3
  subst T3
  subst I3
  refine r_st (st' := [.int _]) rfl ?_
  refine r_istore_n (pc := 39) (lo' := [(1, _), (0, _)]) C dX10_run_39 rfl (by decide) rfl ?_
  refine r_aload_n (pc := 40) C 1 dX10_run_40 rfl rfl ?_
  refine r_iconst (pc := 41) (v := 0) C dX10_run_41 rfl ?_
  refine r_putI (pc := 42) C f_X10_233 hm.1 rfl rfl rfl dX10_run_42 ?_
  refine r_iload_n (pc := 45) C 0 dX10_run_45 rfl rfl ?_
  refine r_ifeqB (pc := 46) (tgt := 58) C dX10_run_46 rfl (fun c_46 => False.elim (by exact c_46 hev)) (fun c_46 => ?_)
  refine r_aload_n (pc := 49) C 1 dX10_run_49 rfl rfl ?_
  refine r_cVv (pc := 50) C hfl k_X10_51 (c_keeps (I := (rnF I M (prV c L 61 0 0).2.1 (exV c L 61 0 0 (I (M + 1))).2.1 p s1 s nm1 nm (exV c L 61 0 0 (I (M + 1))).2.2)) hm ((rnF_f (by decide) (by decide) (by decide) (by decide) (by decide)).trans hc) ((rnF_f (by decide) (by decide) (by decide) (by decide) (by decide)).trans hf) hf8 hc8) hm.1 ca_X10 rfl rfl (Nat.le_of_ble_eq_true rfl) (by decide) (by decide) dX10_run_50 ?_
  refine r_aload_n (pc := 53) C 1 dX10_run_53 rfl rfl ?_
  refine r_getI (pc := 54) C f_X10_273 hm.1 rfl dX10_run_54 ?_
  refine r_t (y := nI ((exV c L 61 0 0 (I (M + 1))).2.1)) (kpI_17.trans rnF_17) ?_
  exact r_iret (pc := 57) C dX10_run_57 ⟨rfl, rfl, rfl, p, s1, s, nm1, nm, rfl⟩ (by decide)
