/-- a change finished: the history has the copy -/
def FC (I0 : II) (x n c : Nat) (X : va_W) (T : TT) (w : Nat → Int32) (B N E : Nat) (ph : Nat → Nat) : PhiT := fun r X' T' I' => r = some (.int (I0 (x + 1) 9)) ∧ X' = X ∧ T' = T ∧ ∃ I1, DW I0 I1 (x + 169 + 2 + 42 * n) w B N E ph (I0 (x + 169 + 2 + 42 * n) 9) ∧ I' = u2 (u2 I1 (x + 169) 1 (nI (hsN n))) (x + 169) 0 (nI (hsC c))
/-- a change done: the copy, the change, the history -/
def KO (I0 : II) (x n c i : Nat) (X : va_W) (T : TT) (w : Nat → Int32) (B N E : Nat) (xx : Nat → Int32) (p43 ph : Nat → Nat) : PhiT := fun r X' T' I' => r = some (.int (chA w B N E i xx)) ∧ X' = X ∧ T' = T ∧ ∃ J1 J2 J3 pm', DW I0 J1 (x + 43) w B N E p43 (I0 (x + 43) 9) ∧ DW J1 J2 (x + 1) (chR w B N E i xx) (chB B i) (chN w B N E i xx) (chE w N E i xx) pm' (chA w B N E i xx) ∧ DW J2 J3 (x + 169 + 2 + 42 * n) w B N E ph (J2 (x + 169 + 2 + 42 * n) 9) ∧ I' = u2 (u2 J3 (x + 169) 1 (nI (hsN n))) (x + 169) 0 (nI (hsC c))
def KX (I0 : II) (x i f : Nat) (X : va_W) (T : TT) (w : Nat → Int32) (B N E : Nat) (p43 : Nat → Nat) : String → va_W → TT → II → Prop := fun c' X' T' I' => c' = exc (ftV i f) ∧ X' = X ∧ T' = T ∧ DW I0 I' (x + 43) w B N E p43 (I0 (x + 43) 9)
theorem ftV_in {i f : Nat} (hi : i < 9) (h0 : f ≠ 0) (hf : f ≤ 4) (h4 : i ≠ 0 → (i = 4 ∨ i = 5 ∨ f ≤ 3)) (h2 : i = 0 → f ≤ 2) : 1 ≤ ftV i f ∧ ftV i f ≤ 4 := by
  unfold ftV
  rw [if_neg h0]
  match i, hi with
  | 0, _ => simp only; omega
  | 1, _ => simp only; omega
  | 2, _ => simp only; omega
  | 3, _ => simp only; omega
  | 4, _ => simp only; omega
  | 5, _ => simp only; omega
  | 6, _ => simp only; split <;> omega
  | 7, _ => simp only; omega
  | 8, _ => simp only; omega
theorem ft_0 {w x : Nat → Int32} {B N : Nat} (h0 : cdV w B N 0 x ≠ 0) : 1 ≤ ftV 0 (cdV w B N 0 x) ∧ ftV 0 (cdV w B N 0 x) ≤ 4 := by
  refine ftV_in (by decide) h0 ?_ ?_ ?_ <;> (simp only [cdV, fBorrower, fBring, fPrice, fLend, fPledge, fRelease, fRepay, fBuy, fPass]; repeat' split) <;> omega
theorem ft_1 {w x : Nat → Int32} {B N : Nat} (h0 : cdV w B N 1 x ≠ 0) : 1 ≤ ftV 1 (cdV w B N 1 x) ∧ ftV 1 (cdV w B N 1 x) ≤ 4 := by
  refine ftV_in (by decide) h0 ?_ ?_ ?_ <;> (simp only [cdV, fBorrower, fBring, fPrice, fLend, fPledge, fRelease, fRepay, fBuy, fPass]; repeat' split) <;> omega
theorem ft_2 {w x : Nat → Int32} {B N : Nat} (h0 : cdV w B N 2 x ≠ 0) : 1 ≤ ftV 2 (cdV w B N 2 x) ∧ ftV 2 (cdV w B N 2 x) ≤ 4 := by
  refine ftV_in (by decide) h0 ?_ ?_ ?_ <;> (simp only [cdV, fBorrower, fBring, fPrice, fLend, fPledge, fRelease, fRepay, fBuy, fPass]; repeat' split) <;> omega
theorem ft_3 {w x : Nat → Int32} {B N : Nat} (h0 : cdV w B N 3 x ≠ 0) : 1 ≤ ftV 3 (cdV w B N 3 x) ∧ ftV 3 (cdV w B N 3 x) ≤ 4 := by
  refine ftV_in (by decide) h0 ?_ ?_ ?_ <;> (simp only [cdV, fBorrower, fBring, fPrice, fLend, fPledge, fRelease, fRepay, fBuy, fPass]; repeat' split) <;> omega
theorem ft_4 {w x : Nat → Int32} {B N : Nat} (h0 : cdV w B N 4 x ≠ 0) : 1 ≤ ftV 4 (cdV w B N 4 x) ∧ ftV 4 (cdV w B N 4 x) ≤ 4 := by
  refine ftV_in (by decide) h0 ?_ (fun _ => Or.inl rfl) ?_ <;> (simp only [cdV, fBorrower, fBring, fPrice, fLend, fPledge, fRelease, fRepay, fBuy, fPass]; repeat' split) <;> omega
theorem ft_5 {w x : Nat → Int32} {B N : Nat} (h0 : cdV w B N 5 x ≠ 0) : 1 ≤ ftV 5 (cdV w B N 5 x) ∧ ftV 5 (cdV w B N 5 x) ≤ 4 := by
  refine ftV_in (by decide) h0 ?_ (fun _ => Or.inr (Or.inl rfl)) ?_ <;> (simp only [cdV, fBorrower, fBring, fPrice, fLend, fPledge, fRelease, fRepay, fBuy, fPass]; repeat' split) <;> omega
theorem ft_6 {w x : Nat → Int32} {B N : Nat} (h0 : cdV w B N 6 x ≠ 0) : 1 ≤ ftV 6 (cdV w B N 6 x) ∧ ftV 6 (cdV w B N 6 x) ≤ 4 := by
  refine ftV_in (by decide) h0 ?_ ?_ ?_ <;> (simp only [cdV, fBorrower, fBring, fPrice, fLend, fPledge, fRelease, fRepay, fBuy, fPass]; repeat' split) <;> omega
theorem ft_7 {w x : Nat → Int32} {B N : Nat} (h0 : cdV w B N 7 x ≠ 0) : 1 ≤ ftV 7 (cdV w B N 7 x) ∧ ftV 7 (cdV w B N 7 x) ≤ 4 := by
  refine ftV_in (by decide) h0 ?_ ?_ ?_ <;> (simp only [cdV, fBorrower, fBring, fPrice, fLend, fPledge, fRelease, fRepay, fBuy, fPass]; repeat' split) <;> omega
theorem ft_8 {w x : Nat → Int32} {B N : Nat} (h0 : cdV w B N 8 x ≠ 0) : 1 ≤ ftV 8 (cdV w B N 8 x) ∧ ftV 8 (cdV w B N 8 x) ≤ 4 := by
  refine ftV_in (by decide) h0 ?_ ?_ ?_ <;> (simp only [cdV, fBorrower, fBring, fPrice, fLend, fPledge, fRelease, fRepay, fBuy, fPass]; repeat' split) <;> omega
set_option maxHeartbeats 1000000 in
theorem q_refuse__o {g : GG} {X : va_W} {T : TT} {I : II}  : Mx g yX9_refuse cX9_refuse 1 none 1 0 0 [.ref (ga g 0)] X T I (Ex none X T I) NoX := by
  refine Mx.of (by decide) (Nat.le_of_ble_eq_true rfl) (fun k hfl hxt C => ?_)
  refine r_lo (lo' := [(0, _)]) rfl ?_
  refine r_aload_n (pc := 0) C 0 dX9_refuse_0 rfl rfl ?_
  refine r_flt (pc := 1) C (by decide) kf_X9_113 dX9_refuse_1 ?_
  refine r_ane (pc := 4) (tgt := 17) C dX9_refuse_4 rfl (fun c_4 => ?_) (fun c_4 => False.elim (by exact absurd (C.Z.2.2.2.2.2.2.1 0 1 (by decide) (by decide) c_4) (by decide)))
  refine r_aload_n (pc := 17) C 0 dX9_refuse_17 rfl rfl ?_
  refine r_flt (pc := 18) C (by decide) kf_X9_126 dX9_refuse_18 ?_
  refine r_ane (pc := 21) (tgt := 34) C dX9_refuse_21 rfl (fun c_21 => ?_) (fun c_21 => False.elim (by exact absurd (C.Z.2.2.2.2.2.2.1 0 2 (by decide) (by decide) c_21) (by decide)))
  refine r_aload_n (pc := 34) C 0 dX9_refuse_34 rfl rfl ?_
  refine r_flt (pc := 35) C (by decide) kf_X9_134 dX9_refuse_35 ?_
  refine r_ane (pc := 38) (tgt := 51) C dX9_refuse_38 rfl (fun c_38 => ?_) (fun c_38 => False.elim (by exact absurd (C.Z.2.2.2.2.2.2.1 0 3 (by decide) (by decide) c_38) (by decide)))
  refine r_aload_n (pc := 51) C 0 dX9_refuse_51 rfl rfl ?_
  refine r_flt (pc := 52) C (by decide) kf_X9_142 dX9_refuse_52 ?_
  refine r_ane (pc := 55) (tgt := 68) C dX9_refuse_55 rfl (fun c_55 => ?_) (fun c_55 => False.elim (by exact absurd (C.Z.2.2.2.2.2.2.1 0 4 (by decide) (by decide) c_55) (by decide)))
  refine r_xret ?_
  exact r_vret (pc := 68) C dX9_refuse_68 ⟨rfl, rfl, rfl, rfl⟩ (by decide)

set_option maxHeartbeats 1000000 in
theorem q_refuse__1 {g : GG} {X : va_W} {T : TT} {I : II}  : Mx g yX9_refuse cX9_refuse 1 none 1 1 6 [.ref (ga g 1)] X T I No (Th (exc 1) X T I) := by
  refine Mx.of (by decide) (Nat.le_of_ble_eq_true rfl) (fun k hfl hxt C => ?_)
  refine r_lo (lo' := [(0, _)]) rfl ?_
  refine r_aload_n (pc := 0) C 0 dX9_refuse_0 rfl rfl ?_
  refine r_flt (pc := 1) C (by decide) kf_X9_113 dX9_refuse_1 ?_
  refine r_ane (pc := 4) (tgt := 17) C dX9_refuse_4 rfl (fun c_4 => False.elim (by exact c_4 rfl)) (fun c_4 => ?_)
  exact r_thr (pc := 7) (tx := "no such loan") (sa := 421) C hfl hxt ex_119 (by decide) (Nat.le_of_ble_eq_true rfl) (by decide) dX9_refuse_7 dX9_refuse_10 dX9_refuse_11 dX9_refuse_13 dX9_refuse_16 ⟨rfl, rfl, rfl, rfl⟩

set_option maxHeartbeats 1000000 in
theorem q_refuse__2 {g : GG} {X : va_W} {T : TT} {I : II}  : Mx g yX9_refuse cX9_refuse 1 none 1 1 6 [.ref (ga g 2)] X T I No (Th (exc 2) X T I) := by
  refine Mx.of (by decide) (Nat.le_of_ble_eq_true rfl) (fun k hfl hxt C => ?_)
  refine r_lo (lo' := [(0, _)]) rfl ?_
  refine r_aload_n (pc := 0) C 0 dX9_refuse_0 rfl rfl ?_
  refine r_flt (pc := 1) C (by decide) kf_X9_113 dX9_refuse_1 ?_
  refine r_ane (pc := 4) (tgt := 17) C dX9_refuse_4 rfl (fun c_4 => ?_) (fun c_4 => False.elim (by exact absurd (C.Z.2.2.2.2.2.2.1 2 1 (by decide) (by decide) c_4) (by decide)))
  refine r_aload_n (pc := 17) C 0 dX9_refuse_17 rfl rfl ?_
  refine r_flt (pc := 18) C (by decide) kf_X9_126 dX9_refuse_18 ?_
  refine r_ane (pc := 21) (tgt := 34) C dX9_refuse_21 rfl (fun c_21 => False.elim (by exact c_21 rfl)) (fun c_21 => ?_)
  exact r_thr (pc := 24) (tx := "no such borrower or kind") (sa := 431) C hfl hxt ex_129 (by decide) (Nat.le_of_ble_eq_true rfl) (by decide) dX9_refuse_24 dX9_refuse_27 dX9_refuse_28 dX9_refuse_30 dX9_refuse_33 ⟨rfl, rfl, rfl, rfl⟩

set_option maxHeartbeats 1000000 in
theorem q_refuse__3 {g : GG} {X : va_W} {T : TT} {I : II}  : Mx g yX9_refuse cX9_refuse 1 none 1 1 6 [.ref (ga g 3)] X T I No (Th (exc 3) X T I) := by
  refine Mx.of (by decide) (Nat.le_of_ble_eq_true rfl) (fun k hfl hxt C => ?_)
  refine r_lo (lo' := [(0, _)]) rfl ?_
  refine r_aload_n (pc := 0) C 0 dX9_refuse_0 rfl rfl ?_
  refine r_flt (pc := 1) C (by decide) kf_X9_113 dX9_refuse_1 ?_
  refine r_ane (pc := 4) (tgt := 17) C dX9_refuse_4 rfl (fun c_4 => ?_) (fun c_4 => False.elim (by exact absurd (C.Z.2.2.2.2.2.2.1 3 1 (by decide) (by decide) c_4) (by decide)))
  refine r_aload_n (pc := 17) C 0 dX9_refuse_17 rfl rfl ?_
  refine r_flt (pc := 18) C (by decide) kf_X9_126 dX9_refuse_18 ?_
  refine r_ane (pc := 21) (tgt := 34) C dX9_refuse_21 rfl (fun c_21 => ?_) (fun c_21 => False.elim (by exact absurd (C.Z.2.2.2.2.2.2.1 3 2 (by decide) (by decide) c_21) (by decide)))
  refine r_aload_n (pc := 34) C 0 dX9_refuse_34 rfl rfl ?_
  refine r_flt (pc := 35) C (by decide) kf_X9_134 dX9_refuse_35 ?_
  refine r_ane (pc := 38) (tgt := 51) C dX9_refuse_38 rfl (fun c_38 => False.elim (by exact c_38 rfl)) (fun c_38 => ?_)
  exact r_thr (pc := 41) (tx := "an argument is out of range") (sa := 439) C hfl hxt ex_137 (by decide) (Nat.le_of_ble_eq_true rfl) (by decide) dX9_refuse_41 dX9_refuse_44 dX9_refuse_45 dX9_refuse_47 dX9_refuse_50 ⟨rfl, rfl, rfl, rfl⟩

set_option maxHeartbeats 1000000 in
theorem q_refuse__4 {g : GG} {X : va_W} {T : TT} {I : II}  : Mx g yX9_refuse cX9_refuse 1 none 1 1 6 [.ref (ga g 4)] X T I No (Th (exc 4) X T I) := by
  refine Mx.of (by decide) (Nat.le_of_ble_eq_true rfl) (fun k hfl hxt C => ?_)
  refine r_lo (lo' := [(0, _)]) rfl ?_
  refine r_aload_n (pc := 0) C 0 dX9_refuse_0 rfl rfl ?_
  refine r_flt (pc := 1) C (by decide) kf_X9_113 dX9_refuse_1 ?_
  refine r_ane (pc := 4) (tgt := 17) C dX9_refuse_4 rfl (fun c_4 => ?_) (fun c_4 => False.elim (by exact absurd (C.Z.2.2.2.2.2.2.1 4 1 (by decide) (by decide) c_4) (by decide)))
  refine r_aload_n (pc := 17) C 0 dX9_refuse_17 rfl rfl ?_
  refine r_flt (pc := 18) C (by decide) kf_X9_126 dX9_refuse_18 ?_
  refine r_ane (pc := 21) (tgt := 34) C dX9_refuse_21 rfl (fun c_21 => ?_) (fun c_21 => False.elim (by exact absurd (C.Z.2.2.2.2.2.2.1 4 2 (by decide) (by decide) c_21) (by decide)))
  refine r_aload_n (pc := 34) C 0 dX9_refuse_34 rfl rfl ?_
  refine r_flt (pc := 35) C (by decide) kf_X9_134 dX9_refuse_35 ?_
  refine r_ane (pc := 38) (tgt := 51) C dX9_refuse_38 rfl (fun c_38 => ?_) (fun c_38 => False.elim (by exact absurd (C.Z.2.2.2.2.2.2.1 4 3 (by decide) (by decide) c_38) (by decide)))
  refine r_aload_n (pc := 51) C 0 dX9_refuse_51 rfl rfl ?_
  refine r_flt (pc := 52) C (by decide) kf_X9_142 dX9_refuse_52 ?_
  refine r_ane (pc := 55) (tgt := 68) C dX9_refuse_55 rfl (fun c_55 => False.elim (by exact c_55 rfl)) (fun c_55 => ?_)
  exact r_thr (pc := 58) (tx := "the desk does not allow this now") (sa := 447) C hfl hxt ex_145 (by decide) (Nat.le_of_ble_eq_true rfl) (by decide) dX9_refuse_58 dX9_refuse_61 dX9_refuse_62 dX9_refuse_64 dX9_refuse_67 ⟨rfl, rfl, rfl, rfl⟩

theorem q_refuse__x {g : GG} {X : va_W} {T : TT} {I : II} {i : Nat} (h1 : 1 ≤ i) (h4 : i ≤ 4) : Mx g yX9_refuse cX9_refuse 1 none 1 1 6 [.ref (ga g i)] X T I No (Th (exc i) X T I) := by
  match i, h1, h4 with
  | 1, _, _ => exact q_refuse__1
  | 2, _, _ => exact q_refuse__2
  | 3, _, _ => exact q_refuse__3
  | 4, _, _ => exact q_refuse__4

set_option maxHeartbeats 1000000 in
theorem q_finishChange__o {g : GG} {X : va_W} {T : TT} {I : II} {x : Nat} (hcl : isCl T x) {w : Nat → Int32} {B N E : Nat}  {n c : Nat} (hn : n < 8) (hc : c ≤ 8) (hn1 : I (x + 169) 1 = nI n) (hc1 : I (x + 169) 0 = nI c) {p43 ph : Nat → Nat} (hB : w 1 = nI B) (hN : w 2 = nI N) (hVb : DV I (x + 43) w B N E p43) (hph : PmOk I (x + 169 + 2 + 42 * n) ph) : Mx g yX9_finishChange cX9_finishChange 2 (some .int) 5 0 0 [.ref x, .ref (ga g 0)] X T I (FC I x n c X T w B N E ph) NoX := by
  have hd := hcl.2.1
  refine Mx.of (by decide) (Nat.le_of_ble_eq_true rfl) (fun k hfl hxt C => ?_)
  refine r_lo (lo' := [(0, _), (1, _)]) rfl ?_
  refine r_aload_n (pc := 0) C 1 dX9_finishChange_0 rfl rfl ?_
  refine r_xS (pc := 1) C hfl hxt k_X9_103 q_refuse__o (fun _ _ _ _ h => h.elim) rfl rfl (Nat.le_of_ble_eq_true rfl) (by decide) (by decide) dX9_finishChange_1 (fun r2 X2 T2 I2 h2 => ?_)
  obtain ⟨rfl, rfl, rfl, rfl⟩ := h2
  refine r_aload_n (pc := 4) C 0 dX9_finishChange_4 rfl rfl ?_
  refine r_getR (pc := 5) (x := x + 169) C f_X9_28 hcl.1 rfl rfl dX9_finishChange_5 ?_
  refine r_aload_n (pc := 8) C 0 dX9_finishChange_8 rfl rfl ?_
  refine r_getR (pc := 9) (x := x + 43) C f_X9_16 hcl.1 rfl rfl dX9_finishChange_9 ?_
  refine r_callV (pc := 12) C hfl k_X9_107 (c_X5_remember hcl.2.2.2.2.2.1 hn hc hn1 hc1 hcl.2.2.1 hVb hph (by omega) hB hN) hcl.2.2.2.2.2.1.1 ca_X5 rfl rfl (Nat.le_of_ble_eq_true rfl) (by decide) (by decide) dX9_finishChange_12 (fun r3 X3 T3 I3 h3 => ?_)
  obtain ⟨rfl, rfl, rfl, I1, hW3, rfl⟩ := h3
  refine r_st (st' := _) rfl ?_
  refine r_aload_n (pc := 15) C 0 dX9_finishChange_15 rfl rfl ?_
  refine r_getR (pc := 16) (x := x + 1) C f_X9_10 hcl.1 rfl rfl dX9_finishChange_16 ?_
  refine r_getI (pc := 19) C f_X9_110 ((Dk_0 hd)) rfl dX9_finishChange_19 ?_
  refine r_t (y := I2 (x + 1) 9) ((congrFun (u2_r (by omega)) 9).trans ((congrFun (u2_r (by omega)) 9).trans (congrFun (hW3.1 (x + 1) (by omega)) 9))) ?_
  refine r_xret ?_
  exact r_iret (pc := 22) C dX9_finishChange_22 ⟨rfl, rfl, rfl, I1, hW3, rfl⟩ (by decide)

set_option maxHeartbeats 1000000 in
theorem q_finishChange__x {g : GG} {X : va_W} {T : TT} {I : II} {x : Nat} (hcl : isCl T x) {i : Nat} (h1 : 1 ≤ i) (h4 : i ≤ 4) : Mx g yX9_finishChange cX9_finishChange 2 (some .int) 5 1 6 [.ref x, .ref (ga g i)] X T I No (Th (exc i) X T I) := by
  have hd := hcl.2.1
  refine Mx.of (by decide) (Nat.le_of_ble_eq_true rfl) (fun k hfl hxt C => ?_)
  refine r_lo (lo' := [(0, _), (1, _)]) rfl ?_
  refine r_aload_n (pc := 0) C 1 dX9_finishChange_0 rfl rfl ?_
  refine r_xS (pc := 1) C hfl hxt k_X9_103 (q_refuse__x h1 h4) (fun _ _ _ _ h => h) rfl rfl (Nat.le_of_ble_eq_true rfl) (by decide) (by decide) dX9_finishChange_1 (fun r2 X2 T2 I2 h2 => ?_)
  exact h2.elim

set_option maxHeartbeats 1000000 in
theorem q_addBorrower__o {g : GG} {X : va_W} {T : TT} {I : II} {x : Nat} (hcl : isCl T x) {w : Nat → Int32} {B N E : Nat}  {n c : Nat} (hn : n < 8) (hc : c ≤ 8) (hn1 : I (x + 169) 1 = nI n) (hc1 : I (x + 169) 0 = nI c) {p43 ph : Nat → Nat} (hB : w 1 = nI B) (hN : w 2 = nI N) {pm : Nat → Nat} (hV : DV I (x + 1) w B N E pm) {D U : Nat} (hG : Gd w B N E D U) (hS : Sd w N) (hp43 : PmOk I (x + 43) p43) (hph : PmOk I (x + 169 + 2 + 42 * n) ph) {xx : Nat → Int32} (h0 : cdV w B N 0 xx = 0) : Mx g yX9_addBorrower cX9_addBorrower 2 (some .int) 9 0 0 [.ref x, .int (xx 0)] X T I (KO I x n c 0 X T w B N E xx p43 ph) NoX := by
  have hd := hcl.2.1
  refine Mx.of (by decide) (Nat.le_of_ble_eq_true rfl) (fun k hfl hxt C => ?_)
  refine r_lo (lo' := [(0, _), (1, _)]) rfl ?_
  refine r_aload_n (pc := 0) C 0 dX9_addBorrower_0 rfl rfl ?_
  refine r_getR (pc := 1) (x := x + 43) C f_X9_16 hcl.1 rfl rfl dX9_addBorrower_1 ?_
  refine r_aload_n (pc := 4) C 0 dX9_addBorrower_4 rfl rfl ?_
  refine r_getR (pc := 5) (x := x + 1) C f_X9_10 hcl.1 rfl rfl dX9_addBorrower_5 ?_
  refine r_callV (pc := 8) C hfl k_X9_64 (c_X3_copyFrom hcl.2.2.1 hd hV hp43 (by omega) hB hN) (Dk_0 hcl.2.2.1) ca_X3 rfl rfl (Nat.le_of_ble_eq_true rfl) (by decide) (by decide) dX9_addBorrower_8 (fun r1 X1 T1 J1 h1 => ?_)
  obtain ⟨rfl, rfl, rfl, hW1⟩ := h1
  refine r_st (st' := _) rfl ?_
  refine r_aload_n (pc := 11) C 0 dX9_addBorrower_11 rfl rfl ?_
  refine r_aload_n (pc := 12) C 0 dX9_addBorrower_12 rfl rfl ?_
  refine r_getR (pc := 13) (x := x + 1) C f_X9_10 hcl.1 rfl rfl dX9_addBorrower_13 ?_
  refine r_iload_n (pc := 16) C 1 dX9_addBorrower_16 rfl rfl ?_
  refine r_callV (pc := 17) C hfl k_X9_68 (h_0 hd (hV.mv (fun y hy => hW1.1 y (by omega))) hG hS) (Dk_0 hd) ca_X3 rfl rfl (Nat.le_of_ble_eq_true rfl) (by decide) (by decide) dX9_addBorrower_17 (fun r2 X2 T2 J2 h2 => ?_)
  obtain ⟨rfl, pm', hW2, rfl, rfl⟩ : r2 = some (.ref (ga g 0)) ∧ ∃ pm', DW J1 J2 (x + 1) (chR w B N E 0 xx) (chB B 0) (chN w B N E 0 xx) (chE w N E 0 xx) pm' (chA w B N E 0 xx) ∧ X2 = _ ∧ T2 = _ := by
      obtain ⟨e1, e2, ⟨e3, -, -⟩ | ⟨-, e4, pm', e5⟩⟩ := h2
      · exact absurd h0 e3
      · exact ⟨e4, pm', e5, e1, e2⟩
  refine r_st (st' := .ref _ :: _) rfl ?_
  refine r_xV (pc := 20) C hfl hxt k_X9_72 (q_finishChange__o hcl (w := w) (n := n) (c := c) hn hc ((congrFun (hW2.1 (x + 169) (by omega)) 1).trans ((congrFun (hW1.1 (x + 169) (by omega)) 1).trans hn1)) ((congrFun (hW2.1 (x + 169) (by omega)) 0).trans ((congrFun (hW1.1 (x + 169) (by omega)) 0).trans hc1)) hB hN (hW1.toV.mv (fun y hy => hW2.1 y (by omega))) (hph.mv ((hW2.1 _ (by omega)).trans (hW1.1 _ (by omega))))) (fun _ _ _ _ h => h.elim) hcl.1 ca_X9 rfl rfl (Nat.le_of_ble_eq_true rfl) (by decide) (by decide) dX9_addBorrower_20 (fun r4 X4 T4 J4 h4 => ?_)
  obtain ⟨rfl, rfl, rfl, J3, hW3, rfl⟩ := h4
  refine r_st (st' := .int _ :: _) rfl ?_
  refine r_t (y := chA w B N E 0 xx) hW2.han ?_
  refine r_xret ?_
  exact r_iret (pc := 23) C dX9_addBorrower_23 ⟨rfl, rfl, rfl, J1, J2, J3, pm', hW1, hW2, hW3, rfl⟩ (by decide)

set_option maxHeartbeats 1000000 in
theorem q_addBorrower__x {g : GG} {X : va_W} {T : TT} {I : II} {x : Nat} (hcl : isCl T x) {w : Nat → Int32} {B N E : Nat}  {n c : Nat} (hn : n < 8) (hc : c ≤ 8) (hn1 : I (x + 169) 1 = nI n) (hc1 : I (x + 169) 0 = nI c) {p43 ph : Nat → Nat} (hB : w 1 = nI B) (hN : w 2 = nI N) {pm : Nat → Nat} (hV : DV I (x + 1) w B N E pm) {D U : Nat} (hG : Gd w B N E D U) (hS : Sd w N) (hp43 : PmOk I (x + 43) p43) (hph : PmOk I (x + 169 + 2 + 42 * n) ph) {xx : Nat → Int32} (h0 : cdV w B N 0 xx ≠ 0) : Mx g yX9_addBorrower cX9_addBorrower 2 (some .int) 9 1 6 [.ref x, .int (xx 0)] X T I No (KX I x 0 (cdV w B N 0 xx) X T w B N E p43) := by
  have hd := hcl.2.1
  have hft := ft_0 (w := w) (B := B) (N := N) (x := xx) h0
  refine Mx.of (by decide) (Nat.le_of_ble_eq_true rfl) (fun k hfl hxt C => ?_)
  refine r_lo (lo' := [(0, _), (1, _)]) rfl ?_
  refine r_aload_n (pc := 0) C 0 dX9_addBorrower_0 rfl rfl ?_
  refine r_getR (pc := 1) (x := x + 43) C f_X9_16 hcl.1 rfl rfl dX9_addBorrower_1 ?_
  refine r_aload_n (pc := 4) C 0 dX9_addBorrower_4 rfl rfl ?_
  refine r_getR (pc := 5) (x := x + 1) C f_X9_10 hcl.1 rfl rfl dX9_addBorrower_5 ?_
  refine r_callV (pc := 8) C hfl k_X9_64 (c_X3_copyFrom hcl.2.2.1 hd hV hp43 (by omega) hB hN) (Dk_0 hcl.2.2.1) ca_X3 rfl rfl (Nat.le_of_ble_eq_true rfl) (by decide) (by decide) dX9_addBorrower_8 (fun r1 X1 T1 J1 h1 => ?_)
  obtain ⟨rfl, rfl, rfl, hW1⟩ := h1
  refine r_st (st' := _) rfl ?_
  refine r_aload_n (pc := 11) C 0 dX9_addBorrower_11 rfl rfl ?_
  refine r_aload_n (pc := 12) C 0 dX9_addBorrower_12 rfl rfl ?_
  refine r_getR (pc := 13) (x := x + 1) C f_X9_10 hcl.1 rfl rfl dX9_addBorrower_13 ?_
  refine r_iload_n (pc := 16) C 1 dX9_addBorrower_16 rfl rfl ?_
  refine r_callV (pc := 17) C hfl k_X9_68 (h_0 hd (hV.mv (fun y hy => hW1.1 y (by omega))) hG hS) (Dk_0 hd) ca_X3 rfl rfl (Nat.le_of_ble_eq_true rfl) (by decide) (by decide) dX9_addBorrower_17 (fun r2 X2 T2 J2 h2 => ?_)
  obtain ⟨rfl, rfl, rfl, rfl⟩ : r2 = some (.ref (ga g (ftV 0 (cdV w B N 0 xx)))) ∧ J2 = J1 ∧ X2 = _ ∧ T2 = _ := by
      obtain ⟨e1, e2, ⟨-, e4, e5⟩ | ⟨e3, -, -⟩⟩ := h2
      · exact ⟨e4, e5, e1, e2⟩
      · exact absurd e3 h0
  refine r_st (st' := .ref _ :: _) rfl ?_
  refine r_xV (pc := 20) C hfl hxt k_X9_72 (q_finishChange__x hcl hft.1 hft.2) (fun c' X' T' I' h => by obtain ⟨e1, e2, e3, e4⟩ := h; exact ⟨e1, e2, e3, by rw [e4]; exact hW1⟩) hcl.1 ca_X9 rfl rfl (Nat.le_of_ble_eq_true rfl) (by decide) (by decide) dX9_addBorrower_20 (fun r4 X4 T4 J4 h4 => ?_)
  exact h4.elim

set_option maxHeartbeats 1000000 in
theorem q_bring__o {g : GG} {X : va_W} {T : TT} {I : II} {x : Nat} (hcl : isCl T x) {w : Nat → Int32} {B N E : Nat}  {n c : Nat} (hn : n < 8) (hc : c ≤ 8) (hn1 : I (x + 169) 1 = nI n) (hc1 : I (x + 169) 0 = nI c) {p43 ph : Nat → Nat} (hB : w 1 = nI B) (hN : w 2 = nI N) {pm : Nat → Nat} (hV : DV I (x + 1) w B N E pm) {D U : Nat} (hG : Gd w B N E D U) (hS : Sd w N) (hp43 : PmOk I (x + 43) p43) (hph : PmOk I (x + 169 + 2 + 42 * n) ph) {xx : Nat → Int32} (h0 : cdV w B N 1 xx = 0) : Mx g yX9_bring cX9_bring 4 (some .int) 9 0 0 [.ref x, .int (xx 0), .int (xx 1), .int (xx 2)] X T I (KO I x n c 1 X T w B N E xx p43 ph) NoX := by
  have hd := hcl.2.1
  refine Mx.of (by decide) (Nat.le_of_ble_eq_true rfl) (fun k hfl hxt C => ?_)
  refine r_lo (lo' := [(0, _), (1, _), (2, _), (3, _)]) rfl ?_
  refine r_aload_n (pc := 0) C 0 dX9_bring_0 rfl rfl ?_
  refine r_getR (pc := 1) (x := x + 43) C f_X9_16 hcl.1 rfl rfl dX9_bring_1 ?_
  refine r_aload_n (pc := 4) C 0 dX9_bring_4 rfl rfl ?_
  refine r_getR (pc := 5) (x := x + 1) C f_X9_10 hcl.1 rfl rfl dX9_bring_5 ?_
  refine r_callV (pc := 8) C hfl k_X9_64 (c_X3_copyFrom hcl.2.2.1 hd hV hp43 (by omega) hB hN) (Dk_0 hcl.2.2.1) ca_X3 rfl rfl (Nat.le_of_ble_eq_true rfl) (by decide) (by decide) dX9_bring_8 (fun r1 X1 T1 J1 h1 => ?_)
  obtain ⟨rfl, rfl, rfl, hW1⟩ := h1
  refine r_st (st' := _) rfl ?_
  refine r_aload_n (pc := 11) C 0 dX9_bring_11 rfl rfl ?_
  refine r_aload_n (pc := 12) C 0 dX9_bring_12 rfl rfl ?_
  refine r_getR (pc := 13) (x := x + 1) C f_X9_10 hcl.1 rfl rfl dX9_bring_13 ?_
  refine r_iload_n (pc := 16) C 1 dX9_bring_16 rfl rfl ?_
  refine r_iload_n (pc := 17) C 2 dX9_bring_17 rfl rfl ?_
  refine r_iload_n (pc := 18) C 3 dX9_bring_18 rfl rfl ?_
  refine r_callV (pc := 19) C hfl k_X9_76 (h_1 hd (hV.mv (fun y hy => hW1.1 y (by omega))) hG hS) (Dk_0 hd) ca_X3 rfl rfl (Nat.le_of_ble_eq_true rfl) (by decide) (by decide) dX9_bring_19 (fun r2 X2 T2 J2 h2 => ?_)
  obtain ⟨rfl, pm', hW2, rfl, rfl⟩ : r2 = some (.ref (ga g 0)) ∧ ∃ pm', DW J1 J2 (x + 1) (chR w B N E 1 xx) (chB B 1) (chN w B N E 1 xx) (chE w N E 1 xx) pm' (chA w B N E 1 xx) ∧ X2 = _ ∧ T2 = _ := by
      obtain ⟨e1, e2, ⟨e3, -, -⟩ | ⟨-, e4, pm', e5⟩⟩ := h2
      · exact absurd h0 e3
      · exact ⟨e4, pm', e5, e1, e2⟩
  refine r_st (st' := .ref _ :: _) rfl ?_
  refine r_xV (pc := 22) C hfl hxt k_X9_72 (q_finishChange__o hcl (w := w) (n := n) (c := c) hn hc ((congrFun (hW2.1 (x + 169) (by omega)) 1).trans ((congrFun (hW1.1 (x + 169) (by omega)) 1).trans hn1)) ((congrFun (hW2.1 (x + 169) (by omega)) 0).trans ((congrFun (hW1.1 (x + 169) (by omega)) 0).trans hc1)) hB hN (hW1.toV.mv (fun y hy => hW2.1 y (by omega))) (hph.mv ((hW2.1 _ (by omega)).trans (hW1.1 _ (by omega))))) (fun _ _ _ _ h => h.elim) hcl.1 ca_X9 rfl rfl (Nat.le_of_ble_eq_true rfl) (by decide) (by decide) dX9_bring_22 (fun r4 X4 T4 J4 h4 => ?_)
  obtain ⟨rfl, rfl, rfl, J3, hW3, rfl⟩ := h4
  refine r_st (st' := .int _ :: _) rfl ?_
  refine r_t (y := chA w B N E 1 xx) hW2.han ?_
  refine r_xret ?_
  exact r_iret (pc := 25) C dX9_bring_25 ⟨rfl, rfl, rfl, J1, J2, J3, pm', hW1, hW2, hW3, rfl⟩ (by decide)

set_option maxHeartbeats 1000000 in
theorem q_bring__x {g : GG} {X : va_W} {T : TT} {I : II} {x : Nat} (hcl : isCl T x) {w : Nat → Int32} {B N E : Nat}  {n c : Nat} (hn : n < 8) (hc : c ≤ 8) (hn1 : I (x + 169) 1 = nI n) (hc1 : I (x + 169) 0 = nI c) {p43 ph : Nat → Nat} (hB : w 1 = nI B) (hN : w 2 = nI N) {pm : Nat → Nat} (hV : DV I (x + 1) w B N E pm) {D U : Nat} (hG : Gd w B N E D U) (hS : Sd w N) (hp43 : PmOk I (x + 43) p43) (hph : PmOk I (x + 169 + 2 + 42 * n) ph) {xx : Nat → Int32} (h0 : cdV w B N 1 xx ≠ 0) : Mx g yX9_bring cX9_bring 4 (some .int) 9 1 6 [.ref x, .int (xx 0), .int (xx 1), .int (xx 2)] X T I No (KX I x 1 (cdV w B N 1 xx) X T w B N E p43) := by
  have hd := hcl.2.1
  have hft := ft_1 (w := w) (B := B) (N := N) (x := xx) h0
  refine Mx.of (by decide) (Nat.le_of_ble_eq_true rfl) (fun k hfl hxt C => ?_)
  refine r_lo (lo' := [(0, _), (1, _), (2, _), (3, _)]) rfl ?_
  refine r_aload_n (pc := 0) C 0 dX9_bring_0 rfl rfl ?_
  refine r_getR (pc := 1) (x := x + 43) C f_X9_16 hcl.1 rfl rfl dX9_bring_1 ?_
  refine r_aload_n (pc := 4) C 0 dX9_bring_4 rfl rfl ?_
  refine r_getR (pc := 5) (x := x + 1) C f_X9_10 hcl.1 rfl rfl dX9_bring_5 ?_
  refine r_callV (pc := 8) C hfl k_X9_64 (c_X3_copyFrom hcl.2.2.1 hd hV hp43 (by omega) hB hN) (Dk_0 hcl.2.2.1) ca_X3 rfl rfl (Nat.le_of_ble_eq_true rfl) (by decide) (by decide) dX9_bring_8 (fun r1 X1 T1 J1 h1 => ?_)
  obtain ⟨rfl, rfl, rfl, hW1⟩ := h1
  refine r_st (st' := _) rfl ?_
  refine r_aload_n (pc := 11) C 0 dX9_bring_11 rfl rfl ?_
  refine r_aload_n (pc := 12) C 0 dX9_bring_12 rfl rfl ?_
  refine r_getR (pc := 13) (x := x + 1) C f_X9_10 hcl.1 rfl rfl dX9_bring_13 ?_
  refine r_iload_n (pc := 16) C 1 dX9_bring_16 rfl rfl ?_
  refine r_iload_n (pc := 17) C 2 dX9_bring_17 rfl rfl ?_
  refine r_iload_n (pc := 18) C 3 dX9_bring_18 rfl rfl ?_
  refine r_callV (pc := 19) C hfl k_X9_76 (h_1 hd (hV.mv (fun y hy => hW1.1 y (by omega))) hG hS) (Dk_0 hd) ca_X3 rfl rfl (Nat.le_of_ble_eq_true rfl) (by decide) (by decide) dX9_bring_19 (fun r2 X2 T2 J2 h2 => ?_)
  obtain ⟨rfl, rfl, rfl, rfl⟩ : r2 = some (.ref (ga g (ftV 1 (cdV w B N 1 xx)))) ∧ J2 = J1 ∧ X2 = _ ∧ T2 = _ := by
      obtain ⟨e1, e2, ⟨-, e4, e5⟩ | ⟨e3, -, -⟩⟩ := h2
      · exact ⟨e4, e5, e1, e2⟩
      · exact absurd e3 h0
  refine r_st (st' := .ref _ :: _) rfl ?_
  refine r_xV (pc := 22) C hfl hxt k_X9_72 (q_finishChange__x hcl hft.1 hft.2) (fun c' X' T' I' h => by obtain ⟨e1, e2, e3, e4⟩ := h; exact ⟨e1, e2, e3, by rw [e4]; exact hW1⟩) hcl.1 ca_X9 rfl rfl (Nat.le_of_ble_eq_true rfl) (by decide) (by decide) dX9_bring_22 (fun r4 X4 T4 J4 h4 => ?_)
  exact h4.elim

set_option maxHeartbeats 1000000 in
theorem q_setPrice__o {g : GG} {X : va_W} {T : TT} {I : II} {x : Nat} (hcl : isCl T x) {w : Nat → Int32} {B N E : Nat}  {n c : Nat} (hn : n < 8) (hc : c ≤ 8) (hn1 : I (x + 169) 1 = nI n) (hc1 : I (x + 169) 0 = nI c) {p43 ph : Nat → Nat} (hB : w 1 = nI B) (hN : w 2 = nI N) {pm : Nat → Nat} (hV : DV I (x + 1) w B N E pm) {D U : Nat} (hG : Gd w B N E D U) (hS : Sd w N) (hp43 : PmOk I (x + 43) p43) (hph : PmOk I (x + 169 + 2 + 42 * n) ph) {xx : Nat → Int32} (h0 : cdV w B N 2 xx = 0) : Mx g yX9_setPrice cX9_setPrice 3 (some .int) 9 0 0 [.ref x, .int (xx 0), .int (xx 1)] X T I (KO I x n c 2 X T w B N E xx p43 ph) NoX := by
  have hd := hcl.2.1
  refine Mx.of (by decide) (Nat.le_of_ble_eq_true rfl) (fun k hfl hxt C => ?_)
  refine r_lo (lo' := [(0, _), (1, _), (2, _)]) rfl ?_
  refine r_aload_n (pc := 0) C 0 dX9_setPrice_0 rfl rfl ?_
  refine r_getR (pc := 1) (x := x + 43) C f_X9_16 hcl.1 rfl rfl dX9_setPrice_1 ?_
  refine r_aload_n (pc := 4) C 0 dX9_setPrice_4 rfl rfl ?_
  refine r_getR (pc := 5) (x := x + 1) C f_X9_10 hcl.1 rfl rfl dX9_setPrice_5 ?_
  refine r_callV (pc := 8) C hfl k_X9_64 (c_X3_copyFrom hcl.2.2.1 hd hV hp43 (by omega) hB hN) (Dk_0 hcl.2.2.1) ca_X3 rfl rfl (Nat.le_of_ble_eq_true rfl) (by decide) (by decide) dX9_setPrice_8 (fun r1 X1 T1 J1 h1 => ?_)
  obtain ⟨rfl, rfl, rfl, hW1⟩ := h1
  refine r_st (st' := _) rfl ?_
  refine r_aload_n (pc := 11) C 0 dX9_setPrice_11 rfl rfl ?_
  refine r_aload_n (pc := 12) C 0 dX9_setPrice_12 rfl rfl ?_
  refine r_getR (pc := 13) (x := x + 1) C f_X9_10 hcl.1 rfl rfl dX9_setPrice_13 ?_
  refine r_iload_n (pc := 16) C 1 dX9_setPrice_16 rfl rfl ?_
  refine r_iload_n (pc := 17) C 2 dX9_setPrice_17 rfl rfl ?_
  refine r_callV (pc := 18) C hfl k_X9_80 (h_2 hd (hV.mv (fun y hy => hW1.1 y (by omega))) hG hS) (Dk_0 hd) ca_X3 rfl rfl (Nat.le_of_ble_eq_true rfl) (by decide) (by decide) dX9_setPrice_18 (fun r2 X2 T2 J2 h2 => ?_)
  obtain ⟨rfl, pm', hW2, rfl, rfl⟩ : r2 = some (.ref (ga g 0)) ∧ ∃ pm', DW J1 J2 (x + 1) (chR w B N E 2 xx) (chB B 2) (chN w B N E 2 xx) (chE w N E 2 xx) pm' (chA w B N E 2 xx) ∧ X2 = _ ∧ T2 = _ := by
      obtain ⟨e1, e2, ⟨e3, -, -⟩ | ⟨-, e4, pm', e5⟩⟩ := h2
      · exact absurd h0 e3
      · exact ⟨e4, pm', e5, e1, e2⟩
  refine r_st (st' := .ref _ :: _) rfl ?_
  refine r_xV (pc := 21) C hfl hxt k_X9_72 (q_finishChange__o hcl (w := w) (n := n) (c := c) hn hc ((congrFun (hW2.1 (x + 169) (by omega)) 1).trans ((congrFun (hW1.1 (x + 169) (by omega)) 1).trans hn1)) ((congrFun (hW2.1 (x + 169) (by omega)) 0).trans ((congrFun (hW1.1 (x + 169) (by omega)) 0).trans hc1)) hB hN (hW1.toV.mv (fun y hy => hW2.1 y (by omega))) (hph.mv ((hW2.1 _ (by omega)).trans (hW1.1 _ (by omega))))) (fun _ _ _ _ h => h.elim) hcl.1 ca_X9 rfl rfl (Nat.le_of_ble_eq_true rfl) (by decide) (by decide) dX9_setPrice_21 (fun r4 X4 T4 J4 h4 => ?_)
  obtain ⟨rfl, rfl, rfl, J3, hW3, rfl⟩ := h4
  refine r_st (st' := .int _ :: _) rfl ?_
  refine r_t (y := chA w B N E 2 xx) hW2.han ?_
  refine r_xret ?_
  exact r_iret (pc := 24) C dX9_setPrice_24 ⟨rfl, rfl, rfl, J1, J2, J3, pm', hW1, hW2, hW3, rfl⟩ (by decide)

set_option maxHeartbeats 1000000 in
theorem q_setPrice__x {g : GG} {X : va_W} {T : TT} {I : II} {x : Nat} (hcl : isCl T x) {w : Nat → Int32} {B N E : Nat}  {n c : Nat} (hn : n < 8) (hc : c ≤ 8) (hn1 : I (x + 169) 1 = nI n) (hc1 : I (x + 169) 0 = nI c) {p43 ph : Nat → Nat} (hB : w 1 = nI B) (hN : w 2 = nI N) {pm : Nat → Nat} (hV : DV I (x + 1) w B N E pm) {D U : Nat} (hG : Gd w B N E D U) (hS : Sd w N) (hp43 : PmOk I (x + 43) p43) (hph : PmOk I (x + 169 + 2 + 42 * n) ph) {xx : Nat → Int32} (h0 : cdV w B N 2 xx ≠ 0) : Mx g yX9_setPrice cX9_setPrice 3 (some .int) 9 1 6 [.ref x, .int (xx 0), .int (xx 1)] X T I No (KX I x 2 (cdV w B N 2 xx) X T w B N E p43) := by
  have hd := hcl.2.1
  have hft := ft_2 (w := w) (B := B) (N := N) (x := xx) h0
  refine Mx.of (by decide) (Nat.le_of_ble_eq_true rfl) (fun k hfl hxt C => ?_)
  refine r_lo (lo' := [(0, _), (1, _), (2, _)]) rfl ?_
  refine r_aload_n (pc := 0) C 0 dX9_setPrice_0 rfl rfl ?_
  refine r_getR (pc := 1) (x := x + 43) C f_X9_16 hcl.1 rfl rfl dX9_setPrice_1 ?_
  refine r_aload_n (pc := 4) C 0 dX9_setPrice_4 rfl rfl ?_
  refine r_getR (pc := 5) (x := x + 1) C f_X9_10 hcl.1 rfl rfl dX9_setPrice_5 ?_
  refine r_callV (pc := 8) C hfl k_X9_64 (c_X3_copyFrom hcl.2.2.1 hd hV hp43 (by omega) hB hN) (Dk_0 hcl.2.2.1) ca_X3 rfl rfl (Nat.le_of_ble_eq_true rfl) (by decide) (by decide) dX9_setPrice_8 (fun r1 X1 T1 J1 h1 => ?_)
  obtain ⟨rfl, rfl, rfl, hW1⟩ := h1
  refine r_st (st' := _) rfl ?_
  refine r_aload_n (pc := 11) C 0 dX9_setPrice_11 rfl rfl ?_
  refine r_aload_n (pc := 12) C 0 dX9_setPrice_12 rfl rfl ?_
  refine r_getR (pc := 13) (x := x + 1) C f_X9_10 hcl.1 rfl rfl dX9_setPrice_13 ?_
  refine r_iload_n (pc := 16) C 1 dX9_setPrice_16 rfl rfl ?_
  refine r_iload_n (pc := 17) C 2 dX9_setPrice_17 rfl rfl ?_
  refine r_callV (pc := 18) C hfl k_X9_80 (h_2 hd (hV.mv (fun y hy => hW1.1 y (by omega))) hG hS) (Dk_0 hd) ca_X3 rfl rfl (Nat.le_of_ble_eq_true rfl) (by decide) (by decide) dX9_setPrice_18 (fun r2 X2 T2 J2 h2 => ?_)
  obtain ⟨rfl, rfl, rfl, rfl⟩ : r2 = some (.ref (ga g (ftV 2 (cdV w B N 2 xx)))) ∧ J2 = J1 ∧ X2 = _ ∧ T2 = _ := by
      obtain ⟨e1, e2, ⟨-, e4, e5⟩ | ⟨e3, -, -⟩⟩ := h2
      · exact ⟨e4, e5, e1, e2⟩
      · exact absurd e3 h0
  refine r_st (st' := .ref _ :: _) rfl ?_
  refine r_xV (pc := 21) C hfl hxt k_X9_72 (q_finishChange__x hcl hft.1 hft.2) (fun c' X' T' I' h => by obtain ⟨e1, e2, e3, e4⟩ := h; exact ⟨e1, e2, e3, by rw [e4]; exact hW1⟩) hcl.1 ca_X9 rfl rfl (Nat.le_of_ble_eq_true rfl) (by decide) (by decide) dX9_setPrice_21 (fun r4 X4 T4 J4 h4 => ?_)
  exact h4.elim

set_option maxHeartbeats 1000000 in
theorem q_lend__o {g : GG} {X : va_W} {T : TT} {I : II} {x : Nat} (hcl : isCl T x) {w : Nat → Int32} {B N E : Nat}  {n c : Nat} (hn : n < 8) (hc : c ≤ 8) (hn1 : I (x + 169) 1 = nI n) (hc1 : I (x + 169) 0 = nI c) {p43 ph : Nat → Nat} (hB : w 1 = nI B) (hN : w 2 = nI N) {pm : Nat → Nat} (hV : DV I (x + 1) w B N E pm) {D U : Nat} (hG : Gd w B N E D U) (hS : Sd w N) (hp43 : PmOk I (x + 43) p43) (hph : PmOk I (x + 169 + 2 + 42 * n) ph) {xx : Nat → Int32} (h0 : cdV w B N 3 xx = 0) : Mx g yX9_lend cX9_lend 6 (some .int) 9 0 0 [.ref x, .int (xx 0), .int (xx 1), .int (xx 2), .int (xx 3), .int (xx 4)] X T I (KO I x n c 3 X T w B N E xx p43 ph) NoX := by
  have hd := hcl.2.1
  refine Mx.of (by decide) (Nat.le_of_ble_eq_true rfl) (fun k hfl hxt C => ?_)
  refine r_lo (lo' := [(0, _), (1, _), (2, _), (3, _), (4, _), (5, _)]) rfl ?_
  refine r_aload_n (pc := 0) C 0 dX9_lend_0 rfl rfl ?_
  refine r_getR (pc := 1) (x := x + 43) C f_X9_16 hcl.1 rfl rfl dX9_lend_1 ?_
  refine r_aload_n (pc := 4) C 0 dX9_lend_4 rfl rfl ?_
  refine r_getR (pc := 5) (x := x + 1) C f_X9_10 hcl.1 rfl rfl dX9_lend_5 ?_
  refine r_callV (pc := 8) C hfl k_X9_64 (c_X3_copyFrom hcl.2.2.1 hd hV hp43 (by omega) hB hN) (Dk_0 hcl.2.2.1) ca_X3 rfl rfl (Nat.le_of_ble_eq_true rfl) (by decide) (by decide) dX9_lend_8 (fun r1 X1 T1 J1 h1 => ?_)
  obtain ⟨rfl, rfl, rfl, hW1⟩ := h1
  refine r_st (st' := _) rfl ?_
  refine r_aload_n (pc := 11) C 0 dX9_lend_11 rfl rfl ?_
  refine r_aload_n (pc := 12) C 0 dX9_lend_12 rfl rfl ?_
  refine r_getR (pc := 13) (x := x + 1) C f_X9_10 hcl.1 rfl rfl dX9_lend_13 ?_
  refine r_iload_n (pc := 16) C 1 dX9_lend_16 rfl rfl ?_
  refine r_iload_n (pc := 17) C 2 dX9_lend_17 rfl rfl ?_
  refine r_iload_n (pc := 18) C 3 dX9_lend_18 rfl rfl ?_
  refine r_iload (pc := 19) C 4 dX9_lend_19 rfl ?_
  refine r_iload (pc := 21) C 5 dX9_lend_21 rfl ?_
  refine r_callV (pc := 23) C hfl k_X9_84 (h_3 hd (hV.mv (fun y hy => hW1.1 y (by omega))) hG hS) (Dk_0 hd) ca_X3 rfl rfl (Nat.le_of_ble_eq_true rfl) (by decide) (by decide) dX9_lend_23 (fun r2 X2 T2 J2 h2 => ?_)
  obtain ⟨rfl, pm', hW2, rfl, rfl⟩ : r2 = some (.ref (ga g 0)) ∧ ∃ pm', DW J1 J2 (x + 1) (chR w B N E 3 xx) (chB B 3) (chN w B N E 3 xx) (chE w N E 3 xx) pm' (chA w B N E 3 xx) ∧ X2 = _ ∧ T2 = _ := by
      obtain ⟨e1, e2, ⟨e3, -, -⟩ | ⟨-, e4, pm', e5⟩⟩ := h2
      · exact absurd h0 e3
      · exact ⟨e4, pm', e5, e1, e2⟩
  refine r_st (st' := .ref _ :: _) rfl ?_
  refine r_xV (pc := 26) C hfl hxt k_X9_72 (q_finishChange__o hcl (w := w) (n := n) (c := c) hn hc ((congrFun (hW2.1 (x + 169) (by omega)) 1).trans ((congrFun (hW1.1 (x + 169) (by omega)) 1).trans hn1)) ((congrFun (hW2.1 (x + 169) (by omega)) 0).trans ((congrFun (hW1.1 (x + 169) (by omega)) 0).trans hc1)) hB hN (hW1.toV.mv (fun y hy => hW2.1 y (by omega))) (hph.mv ((hW2.1 _ (by omega)).trans (hW1.1 _ (by omega))))) (fun _ _ _ _ h => h.elim) hcl.1 ca_X9 rfl rfl (Nat.le_of_ble_eq_true rfl) (by decide) (by decide) dX9_lend_26 (fun r4 X4 T4 J4 h4 => ?_)
  obtain ⟨rfl, rfl, rfl, J3, hW3, rfl⟩ := h4
  refine r_st (st' := .int _ :: _) rfl ?_
  refine r_t (y := chA w B N E 3 xx) hW2.han ?_
  refine r_xret ?_
  exact r_iret (pc := 29) C dX9_lend_29 ⟨rfl, rfl, rfl, J1, J2, J3, pm', hW1, hW2, hW3, rfl⟩ (by decide)

set_option maxHeartbeats 1000000 in
theorem q_lend__x {g : GG} {X : va_W} {T : TT} {I : II} {x : Nat} (hcl : isCl T x) {w : Nat → Int32} {B N E : Nat}  {n c : Nat} (hn : n < 8) (hc : c ≤ 8) (hn1 : I (x + 169) 1 = nI n) (hc1 : I (x + 169) 0 = nI c) {p43 ph : Nat → Nat} (hB : w 1 = nI B) (hN : w 2 = nI N) {pm : Nat → Nat} (hV : DV I (x + 1) w B N E pm) {D U : Nat} (hG : Gd w B N E D U) (hS : Sd w N) (hp43 : PmOk I (x + 43) p43) (hph : PmOk I (x + 169 + 2 + 42 * n) ph) {xx : Nat → Int32} (h0 : cdV w B N 3 xx ≠ 0) : Mx g yX9_lend cX9_lend 6 (some .int) 9 1 6 [.ref x, .int (xx 0), .int (xx 1), .int (xx 2), .int (xx 3), .int (xx 4)] X T I No (KX I x 3 (cdV w B N 3 xx) X T w B N E p43) := by
  have hd := hcl.2.1
  have hft := ft_3 (w := w) (B := B) (N := N) (x := xx) h0
  refine Mx.of (by decide) (Nat.le_of_ble_eq_true rfl) (fun k hfl hxt C => ?_)
  refine r_lo (lo' := [(0, _), (1, _), (2, _), (3, _), (4, _), (5, _)]) rfl ?_
  refine r_aload_n (pc := 0) C 0 dX9_lend_0 rfl rfl ?_
  refine r_getR (pc := 1) (x := x + 43) C f_X9_16 hcl.1 rfl rfl dX9_lend_1 ?_
  refine r_aload_n (pc := 4) C 0 dX9_lend_4 rfl rfl ?_
  refine r_getR (pc := 5) (x := x + 1) C f_X9_10 hcl.1 rfl rfl dX9_lend_5 ?_
  refine r_callV (pc := 8) C hfl k_X9_64 (c_X3_copyFrom hcl.2.2.1 hd hV hp43 (by omega) hB hN) (Dk_0 hcl.2.2.1) ca_X3 rfl rfl (Nat.le_of_ble_eq_true rfl) (by decide) (by decide) dX9_lend_8 (fun r1 X1 T1 J1 h1 => ?_)
  obtain ⟨rfl, rfl, rfl, hW1⟩ := h1
  refine r_st (st' := _) rfl ?_
  refine r_aload_n (pc := 11) C 0 dX9_lend_11 rfl rfl ?_
  refine r_aload_n (pc := 12) C 0 dX9_lend_12 rfl rfl ?_
  refine r_getR (pc := 13) (x := x + 1) C f_X9_10 hcl.1 rfl rfl dX9_lend_13 ?_
  refine r_iload_n (pc := 16) C 1 dX9_lend_16 rfl rfl ?_
  refine r_iload_n (pc := 17) C 2 dX9_lend_17 rfl rfl ?_
  refine r_iload_n (pc := 18) C 3 dX9_lend_18 rfl rfl ?_
  refine r_iload (pc := 19) C 4 dX9_lend_19 rfl ?_
  refine r_iload (pc := 21) C 5 dX9_lend_21 rfl ?_
  refine r_callV (pc := 23) C hfl k_X9_84 (h_3 hd (hV.mv (fun y hy => hW1.1 y (by omega))) hG hS) (Dk_0 hd) ca_X3 rfl rfl (Nat.le_of_ble_eq_true rfl) (by decide) (by decide) dX9_lend_23 (fun r2 X2 T2 J2 h2 => ?_)
  obtain ⟨rfl, rfl, rfl, rfl⟩ : r2 = some (.ref (ga g (ftV 3 (cdV w B N 3 xx)))) ∧ J2 = J1 ∧ X2 = _ ∧ T2 = _ := by
      obtain ⟨e1, e2, ⟨-, e4, e5⟩ | ⟨e3, -, -⟩⟩ := h2
      · exact ⟨e4, e5, e1, e2⟩
      · exact absurd e3 h0
  refine r_st (st' := .ref _ :: _) rfl ?_
  refine r_xV (pc := 26) C hfl hxt k_X9_72 (q_finishChange__x hcl hft.1 hft.2) (fun c' X' T' I' h => by obtain ⟨e1, e2, e3, e4⟩ := h; exact ⟨e1, e2, e3, by rw [e4]; exact hW1⟩) hcl.1 ca_X9 rfl rfl (Nat.le_of_ble_eq_true rfl) (by decide) (by decide) dX9_lend_26 (fun r4 X4 T4 J4 h4 => ?_)
  exact h4.elim

set_option maxHeartbeats 1000000 in
theorem q_pledge__o {g : GG} {X : va_W} {T : TT} {I : II} {x : Nat} (hcl : isCl T x) {w : Nat → Int32} {B N E : Nat}  {n c : Nat} (hn : n < 8) (hc : c ≤ 8) (hn1 : I (x + 169) 1 = nI n) (hc1 : I (x + 169) 0 = nI c) {p43 ph : Nat → Nat} (hB : w 1 = nI B) (hN : w 2 = nI N) {pm : Nat → Nat} (hV : DV I (x + 1) w B N E pm) {D U : Nat} (hG : Gd w B N E D U) (hS : Sd w N) (hp43 : PmOk I (x + 43) p43) (hph : PmOk I (x + 169 + 2 + 42 * n) ph) {xx : Nat → Int32} (h0 : cdV w B N 4 xx = 0) : Mx g yX9_pledge cX9_pledge 4 (some .int) 9 0 0 [.ref x, .int (xx 0), .int (xx 1), .int (xx 2)] X T I (KO I x n c 4 X T w B N E xx p43 ph) NoX := by
  have hd := hcl.2.1
  refine Mx.of (by decide) (Nat.le_of_ble_eq_true rfl) (fun k hfl hxt C => ?_)
  refine r_lo (lo' := [(0, _), (1, _), (2, _), (3, _)]) rfl ?_
  refine r_aload_n (pc := 0) C 0 dX9_pledge_0 rfl rfl ?_
  refine r_getR (pc := 1) (x := x + 43) C f_X9_16 hcl.1 rfl rfl dX9_pledge_1 ?_
  refine r_aload_n (pc := 4) C 0 dX9_pledge_4 rfl rfl ?_
  refine r_getR (pc := 5) (x := x + 1) C f_X9_10 hcl.1 rfl rfl dX9_pledge_5 ?_
  refine r_callV (pc := 8) C hfl k_X9_64 (c_X3_copyFrom hcl.2.2.1 hd hV hp43 (by omega) hB hN) (Dk_0 hcl.2.2.1) ca_X3 rfl rfl (Nat.le_of_ble_eq_true rfl) (by decide) (by decide) dX9_pledge_8 (fun r1 X1 T1 J1 h1 => ?_)
  obtain ⟨rfl, rfl, rfl, hW1⟩ := h1
  refine r_st (st' := _) rfl ?_
  refine r_aload_n (pc := 11) C 0 dX9_pledge_11 rfl rfl ?_
  refine r_aload_n (pc := 12) C 0 dX9_pledge_12 rfl rfl ?_
  refine r_getR (pc := 13) (x := x + 1) C f_X9_10 hcl.1 rfl rfl dX9_pledge_13 ?_
  refine r_iload_n (pc := 16) C 1 dX9_pledge_16 rfl rfl ?_
  refine r_iload_n (pc := 17) C 2 dX9_pledge_17 rfl rfl ?_
  refine r_iload_n (pc := 18) C 3 dX9_pledge_18 rfl rfl ?_
  refine r_callV (pc := 19) C hfl k_X9_88 (h_4 hd (hV.mv (fun y hy => hW1.1 y (by omega))) hG hS) (Dk_0 hd) ca_X3 rfl rfl (Nat.le_of_ble_eq_true rfl) (by decide) (by decide) dX9_pledge_19 (fun r2 X2 T2 J2 h2 => ?_)
  obtain ⟨rfl, pm', hW2, rfl, rfl⟩ : r2 = some (.ref (ga g 0)) ∧ ∃ pm', DW J1 J2 (x + 1) (chR w B N E 4 xx) (chB B 4) (chN w B N E 4 xx) (chE w N E 4 xx) pm' (chA w B N E 4 xx) ∧ X2 = _ ∧ T2 = _ := by
      obtain ⟨e1, e2, ⟨e3, -, -⟩ | ⟨-, e4, pm', e5⟩⟩ := h2
      · exact absurd h0 e3
      · exact ⟨e4, pm', e5, e1, e2⟩
  refine r_st (st' := .ref _ :: _) rfl ?_
  refine r_xV (pc := 22) C hfl hxt k_X9_72 (q_finishChange__o hcl (w := w) (n := n) (c := c) hn hc ((congrFun (hW2.1 (x + 169) (by omega)) 1).trans ((congrFun (hW1.1 (x + 169) (by omega)) 1).trans hn1)) ((congrFun (hW2.1 (x + 169) (by omega)) 0).trans ((congrFun (hW1.1 (x + 169) (by omega)) 0).trans hc1)) hB hN (hW1.toV.mv (fun y hy => hW2.1 y (by omega))) (hph.mv ((hW2.1 _ (by omega)).trans (hW1.1 _ (by omega))))) (fun _ _ _ _ h => h.elim) hcl.1 ca_X9 rfl rfl (Nat.le_of_ble_eq_true rfl) (by decide) (by decide) dX9_pledge_22 (fun r4 X4 T4 J4 h4 => ?_)
  obtain ⟨rfl, rfl, rfl, J3, hW3, rfl⟩ := h4
  refine r_st (st' := .int _ :: _) rfl ?_
  refine r_t (y := chA w B N E 4 xx) hW2.han ?_
  refine r_xret ?_
  exact r_iret (pc := 25) C dX9_pledge_25 ⟨rfl, rfl, rfl, J1, J2, J3, pm', hW1, hW2, hW3, rfl⟩ (by decide)

set_option maxHeartbeats 1000000 in
theorem q_pledge__x {g : GG} {X : va_W} {T : TT} {I : II} {x : Nat} (hcl : isCl T x) {w : Nat → Int32} {B N E : Nat}  {n c : Nat} (hn : n < 8) (hc : c ≤ 8) (hn1 : I (x + 169) 1 = nI n) (hc1 : I (x + 169) 0 = nI c) {p43 ph : Nat → Nat} (hB : w 1 = nI B) (hN : w 2 = nI N) {pm : Nat → Nat} (hV : DV I (x + 1) w B N E pm) {D U : Nat} (hG : Gd w B N E D U) (hS : Sd w N) (hp43 : PmOk I (x + 43) p43) (hph : PmOk I (x + 169 + 2 + 42 * n) ph) {xx : Nat → Int32} (h0 : cdV w B N 4 xx ≠ 0) : Mx g yX9_pledge cX9_pledge 4 (some .int) 9 1 6 [.ref x, .int (xx 0), .int (xx 1), .int (xx 2)] X T I No (KX I x 4 (cdV w B N 4 xx) X T w B N E p43) := by
  have hd := hcl.2.1
  have hft := ft_4 (w := w) (B := B) (N := N) (x := xx) h0
  refine Mx.of (by decide) (Nat.le_of_ble_eq_true rfl) (fun k hfl hxt C => ?_)
  refine r_lo (lo' := [(0, _), (1, _), (2, _), (3, _)]) rfl ?_
  refine r_aload_n (pc := 0) C 0 dX9_pledge_0 rfl rfl ?_
  refine r_getR (pc := 1) (x := x + 43) C f_X9_16 hcl.1 rfl rfl dX9_pledge_1 ?_
  refine r_aload_n (pc := 4) C 0 dX9_pledge_4 rfl rfl ?_
  refine r_getR (pc := 5) (x := x + 1) C f_X9_10 hcl.1 rfl rfl dX9_pledge_5 ?_
  refine r_callV (pc := 8) C hfl k_X9_64 (c_X3_copyFrom hcl.2.2.1 hd hV hp43 (by omega) hB hN) (Dk_0 hcl.2.2.1) ca_X3 rfl rfl (Nat.le_of_ble_eq_true rfl) (by decide) (by decide) dX9_pledge_8 (fun r1 X1 T1 J1 h1 => ?_)
  obtain ⟨rfl, rfl, rfl, hW1⟩ := h1
  refine r_st (st' := _) rfl ?_
  refine r_aload_n (pc := 11) C 0 dX9_pledge_11 rfl rfl ?_
  refine r_aload_n (pc := 12) C 0 dX9_pledge_12 rfl rfl ?_
  refine r_getR (pc := 13) (x := x + 1) C f_X9_10 hcl.1 rfl rfl dX9_pledge_13 ?_
  refine r_iload_n (pc := 16) C 1 dX9_pledge_16 rfl rfl ?_
  refine r_iload_n (pc := 17) C 2 dX9_pledge_17 rfl rfl ?_
  refine r_iload_n (pc := 18) C 3 dX9_pledge_18 rfl rfl ?_
  refine r_callV (pc := 19) C hfl k_X9_88 (h_4 hd (hV.mv (fun y hy => hW1.1 y (by omega))) hG hS) (Dk_0 hd) ca_X3 rfl rfl (Nat.le_of_ble_eq_true rfl) (by decide) (by decide) dX9_pledge_19 (fun r2 X2 T2 J2 h2 => ?_)
  obtain ⟨rfl, rfl, rfl, rfl⟩ : r2 = some (.ref (ga g (ftV 4 (cdV w B N 4 xx)))) ∧ J2 = J1 ∧ X2 = _ ∧ T2 = _ := by
      obtain ⟨e1, e2, ⟨-, e4, e5⟩ | ⟨e3, -, -⟩⟩ := h2
      · exact ⟨e4, e5, e1, e2⟩
      · exact absurd e3 h0
  refine r_st (st' := .ref _ :: _) rfl ?_
  refine r_xV (pc := 22) C hfl hxt k_X9_72 (q_finishChange__x hcl hft.1 hft.2) (fun c' X' T' I' h => by obtain ⟨e1, e2, e3, e4⟩ := h; exact ⟨e1, e2, e3, by rw [e4]; exact hW1⟩) hcl.1 ca_X9 rfl rfl (Nat.le_of_ble_eq_true rfl) (by decide) (by decide) dX9_pledge_22 (fun r4 X4 T4 J4 h4 => ?_)
  exact h4.elim

set_option maxHeartbeats 1000000 in
theorem q_release__o {g : GG} {X : va_W} {T : TT} {I : II} {x : Nat} (hcl : isCl T x) {w : Nat → Int32} {B N E : Nat}  {n c : Nat} (hn : n < 8) (hc : c ≤ 8) (hn1 : I (x + 169) 1 = nI n) (hc1 : I (x + 169) 0 = nI c) {p43 ph : Nat → Nat} (hB : w 1 = nI B) (hN : w 2 = nI N) {pm : Nat → Nat} (hV : DV I (x + 1) w B N E pm) {D U : Nat} (hG : Gd w B N E D U) (hS : Sd w N) (hp43 : PmOk I (x + 43) p43) (hph : PmOk I (x + 169 + 2 + 42 * n) ph) {xx : Nat → Int32} (h0 : cdV w B N 5 xx = 0) : Mx g yX9_release cX9_release 4 (some .int) 9 0 0 [.ref x, .int (xx 0), .int (xx 1), .int (xx 2)] X T I (KO I x n c 5 X T w B N E xx p43 ph) NoX := by
  have hd := hcl.2.1
  refine Mx.of (by decide) (Nat.le_of_ble_eq_true rfl) (fun k hfl hxt C => ?_)
  refine r_lo (lo' := [(0, _), (1, _), (2, _), (3, _)]) rfl ?_
  refine r_aload_n (pc := 0) C 0 dX9_release_0 rfl rfl ?_
  refine r_getR (pc := 1) (x := x + 43) C f_X9_16 hcl.1 rfl rfl dX9_release_1 ?_
  refine r_aload_n (pc := 4) C 0 dX9_release_4 rfl rfl ?_
  refine r_getR (pc := 5) (x := x + 1) C f_X9_10 hcl.1 rfl rfl dX9_release_5 ?_
  refine r_callV (pc := 8) C hfl k_X9_64 (c_X3_copyFrom hcl.2.2.1 hd hV hp43 (by omega) hB hN) (Dk_0 hcl.2.2.1) ca_X3 rfl rfl (Nat.le_of_ble_eq_true rfl) (by decide) (by decide) dX9_release_8 (fun r1 X1 T1 J1 h1 => ?_)
  obtain ⟨rfl, rfl, rfl, hW1⟩ := h1
  refine r_st (st' := _) rfl ?_
  refine r_aload_n (pc := 11) C 0 dX9_release_11 rfl rfl ?_
  refine r_aload_n (pc := 12) C 0 dX9_release_12 rfl rfl ?_
  refine r_getR (pc := 13) (x := x + 1) C f_X9_10 hcl.1 rfl rfl dX9_release_13 ?_
  refine r_iload_n (pc := 16) C 1 dX9_release_16 rfl rfl ?_
  refine r_iload_n (pc := 17) C 2 dX9_release_17 rfl rfl ?_
  refine r_iload_n (pc := 18) C 3 dX9_release_18 rfl rfl ?_
  refine r_callV (pc := 19) C hfl k_X9_91 (h_5 hd (hV.mv (fun y hy => hW1.1 y (by omega))) hG hS) (Dk_0 hd) ca_X3 rfl rfl (Nat.le_of_ble_eq_true rfl) (by decide) (by decide) dX9_release_19 (fun r2 X2 T2 J2 h2 => ?_)
  obtain ⟨rfl, pm', hW2, rfl, rfl⟩ : r2 = some (.ref (ga g 0)) ∧ ∃ pm', DW J1 J2 (x + 1) (chR w B N E 5 xx) (chB B 5) (chN w B N E 5 xx) (chE w N E 5 xx) pm' (chA w B N E 5 xx) ∧ X2 = _ ∧ T2 = _ := by
      obtain ⟨e1, e2, ⟨e3, -, -⟩ | ⟨-, e4, pm', e5⟩⟩ := h2
      · exact absurd h0 e3
      · exact ⟨e4, pm', e5, e1, e2⟩
  refine r_st (st' := .ref _ :: _) rfl ?_
  refine r_xV (pc := 22) C hfl hxt k_X9_72 (q_finishChange__o hcl (w := w) (n := n) (c := c) hn hc ((congrFun (hW2.1 (x + 169) (by omega)) 1).trans ((congrFun (hW1.1 (x + 169) (by omega)) 1).trans hn1)) ((congrFun (hW2.1 (x + 169) (by omega)) 0).trans ((congrFun (hW1.1 (x + 169) (by omega)) 0).trans hc1)) hB hN (hW1.toV.mv (fun y hy => hW2.1 y (by omega))) (hph.mv ((hW2.1 _ (by omega)).trans (hW1.1 _ (by omega))))) (fun _ _ _ _ h => h.elim) hcl.1 ca_X9 rfl rfl (Nat.le_of_ble_eq_true rfl) (by decide) (by decide) dX9_release_22 (fun r4 X4 T4 J4 h4 => ?_)
  obtain ⟨rfl, rfl, rfl, J3, hW3, rfl⟩ := h4
  refine r_st (st' := .int _ :: _) rfl ?_
  refine r_t (y := chA w B N E 5 xx) hW2.han ?_
  refine r_xret ?_
  exact r_iret (pc := 25) C dX9_release_25 ⟨rfl, rfl, rfl, J1, J2, J3, pm', hW1, hW2, hW3, rfl⟩ (by decide)

set_option maxHeartbeats 1000000 in
theorem q_release__x {g : GG} {X : va_W} {T : TT} {I : II} {x : Nat} (hcl : isCl T x) {w : Nat → Int32} {B N E : Nat}  {n c : Nat} (hn : n < 8) (hc : c ≤ 8) (hn1 : I (x + 169) 1 = nI n) (hc1 : I (x + 169) 0 = nI c) {p43 ph : Nat → Nat} (hB : w 1 = nI B) (hN : w 2 = nI N) {pm : Nat → Nat} (hV : DV I (x + 1) w B N E pm) {D U : Nat} (hG : Gd w B N E D U) (hS : Sd w N) (hp43 : PmOk I (x + 43) p43) (hph : PmOk I (x + 169 + 2 + 42 * n) ph) {xx : Nat → Int32} (h0 : cdV w B N 5 xx ≠ 0) : Mx g yX9_release cX9_release 4 (some .int) 9 1 6 [.ref x, .int (xx 0), .int (xx 1), .int (xx 2)] X T I No (KX I x 5 (cdV w B N 5 xx) X T w B N E p43) := by
  have hd := hcl.2.1
  have hft := ft_5 (w := w) (B := B) (N := N) (x := xx) h0
  refine Mx.of (by decide) (Nat.le_of_ble_eq_true rfl) (fun k hfl hxt C => ?_)
  refine r_lo (lo' := [(0, _), (1, _), (2, _), (3, _)]) rfl ?_
  refine r_aload_n (pc := 0) C 0 dX9_release_0 rfl rfl ?_
  refine r_getR (pc := 1) (x := x + 43) C f_X9_16 hcl.1 rfl rfl dX9_release_1 ?_
  refine r_aload_n (pc := 4) C 0 dX9_release_4 rfl rfl ?_
  refine r_getR (pc := 5) (x := x + 1) C f_X9_10 hcl.1 rfl rfl dX9_release_5 ?_
  refine r_callV (pc := 8) C hfl k_X9_64 (c_X3_copyFrom hcl.2.2.1 hd hV hp43 (by omega) hB hN) (Dk_0 hcl.2.2.1) ca_X3 rfl rfl (Nat.le_of_ble_eq_true rfl) (by decide) (by decide) dX9_release_8 (fun r1 X1 T1 J1 h1 => ?_)
  obtain ⟨rfl, rfl, rfl, hW1⟩ := h1
  refine r_st (st' := _) rfl ?_
  refine r_aload_n (pc := 11) C 0 dX9_release_11 rfl rfl ?_
  refine r_aload_n (pc := 12) C 0 dX9_release_12 rfl rfl ?_
  refine r_getR (pc := 13) (x := x + 1) C f_X9_10 hcl.1 rfl rfl dX9_release_13 ?_
  refine r_iload_n (pc := 16) C 1 dX9_release_16 rfl rfl ?_
  refine r_iload_n (pc := 17) C 2 dX9_release_17 rfl rfl ?_
  refine r_iload_n (pc := 18) C 3 dX9_release_18 rfl rfl ?_
  refine r_callV (pc := 19) C hfl k_X9_91 (h_5 hd (hV.mv (fun y hy => hW1.1 y (by omega))) hG hS) (Dk_0 hd) ca_X3 rfl rfl (Nat.le_of_ble_eq_true rfl) (by decide) (by decide) dX9_release_19 (fun r2 X2 T2 J2 h2 => ?_)
  obtain ⟨rfl, rfl, rfl, rfl⟩ : r2 = some (.ref (ga g (ftV 5 (cdV w B N 5 xx)))) ∧ J2 = J1 ∧ X2 = _ ∧ T2 = _ := by
      obtain ⟨e1, e2, ⟨-, e4, e5⟩ | ⟨e3, -, -⟩⟩ := h2
      · exact ⟨e4, e5, e1, e2⟩
      · exact absurd e3 h0
  refine r_st (st' := .ref _ :: _) rfl ?_
  refine r_xV (pc := 22) C hfl hxt k_X9_72 (q_finishChange__x hcl hft.1 hft.2) (fun c' X' T' I' h => by obtain ⟨e1, e2, e3, e4⟩ := h; exact ⟨e1, e2, e3, by rw [e4]; exact hW1⟩) hcl.1 ca_X9 rfl rfl (Nat.le_of_ble_eq_true rfl) (by decide) (by decide) dX9_release_22 (fun r4 X4 T4 J4 h4 => ?_)
  exact h4.elim

set_option maxHeartbeats 1000000 in
theorem q_repay__o {g : GG} {X : va_W} {T : TT} {I : II} {x : Nat} (hcl : isCl T x) {w : Nat → Int32} {B N E : Nat}  {n c : Nat} (hn : n < 8) (hc : c ≤ 8) (hn1 : I (x + 169) 1 = nI n) (hc1 : I (x + 169) 0 = nI c) {p43 ph : Nat → Nat} (hB : w 1 = nI B) (hN : w 2 = nI N) {pm : Nat → Nat} (hV : DV I (x + 1) w B N E pm) {D U : Nat} (hG : Gd w B N E D U) (hS : Sd w N) (hp43 : PmOk I (x + 43) p43) (hph : PmOk I (x + 169 + 2 + 42 * n) ph) {xx : Nat → Int32} (h0 : cdV w B N 6 xx = 0) : Mx g yX9_repay cX9_repay 3 (some .int) 9 0 0 [.ref x, .int (xx 0), .int (xx 1)] X T I (KO I x n c 6 X T w B N E xx p43 ph) NoX := by
  have hd := hcl.2.1
  refine Mx.of (by decide) (Nat.le_of_ble_eq_true rfl) (fun k hfl hxt C => ?_)
  refine r_lo (lo' := [(0, _), (1, _), (2, _)]) rfl ?_
  refine r_aload_n (pc := 0) C 0 dX9_repay_0 rfl rfl ?_
  refine r_getR (pc := 1) (x := x + 43) C f_X9_16 hcl.1 rfl rfl dX9_repay_1 ?_
  refine r_aload_n (pc := 4) C 0 dX9_repay_4 rfl rfl ?_
  refine r_getR (pc := 5) (x := x + 1) C f_X9_10 hcl.1 rfl rfl dX9_repay_5 ?_
  refine r_callV (pc := 8) C hfl k_X9_64 (c_X3_copyFrom hcl.2.2.1 hd hV hp43 (by omega) hB hN) (Dk_0 hcl.2.2.1) ca_X3 rfl rfl (Nat.le_of_ble_eq_true rfl) (by decide) (by decide) dX9_repay_8 (fun r1 X1 T1 J1 h1 => ?_)
  obtain ⟨rfl, rfl, rfl, hW1⟩ := h1
  refine r_st (st' := _) rfl ?_
  refine r_aload_n (pc := 11) C 0 dX9_repay_11 rfl rfl ?_
  refine r_aload_n (pc := 12) C 0 dX9_repay_12 rfl rfl ?_
  refine r_getR (pc := 13) (x := x + 1) C f_X9_10 hcl.1 rfl rfl dX9_repay_13 ?_
  refine r_iload_n (pc := 16) C 1 dX9_repay_16 rfl rfl ?_
  refine r_iload_n (pc := 17) C 2 dX9_repay_17 rfl rfl ?_
  refine r_callV (pc := 18) C hfl k_X9_94 (h_6 hd (hV.mv (fun y hy => hW1.1 y (by omega))) hG hS) (Dk_0 hd) ca_X3 rfl rfl (Nat.le_of_ble_eq_true rfl) (by decide) (by decide) dX9_repay_18 (fun r2 X2 T2 J2 h2 => ?_)
  obtain ⟨rfl, pm', hW2, rfl, rfl⟩ : r2 = some (.ref (ga g 0)) ∧ ∃ pm', DW J1 J2 (x + 1) (chR w B N E 6 xx) (chB B 6) (chN w B N E 6 xx) (chE w N E 6 xx) pm' (chA w B N E 6 xx) ∧ X2 = _ ∧ T2 = _ := by
      obtain ⟨e1, e2, ⟨e3, -, -⟩ | ⟨-, e4, pm', e5⟩⟩ := h2
      · exact absurd h0 e3
      · exact ⟨e4, pm', e5, e1, e2⟩
  refine r_st (st' := .ref _ :: _) rfl ?_
  refine r_xV (pc := 21) C hfl hxt k_X9_72 (q_finishChange__o hcl (w := w) (n := n) (c := c) hn hc ((congrFun (hW2.1 (x + 169) (by omega)) 1).trans ((congrFun (hW1.1 (x + 169) (by omega)) 1).trans hn1)) ((congrFun (hW2.1 (x + 169) (by omega)) 0).trans ((congrFun (hW1.1 (x + 169) (by omega)) 0).trans hc1)) hB hN (hW1.toV.mv (fun y hy => hW2.1 y (by omega))) (hph.mv ((hW2.1 _ (by omega)).trans (hW1.1 _ (by omega))))) (fun _ _ _ _ h => h.elim) hcl.1 ca_X9 rfl rfl (Nat.le_of_ble_eq_true rfl) (by decide) (by decide) dX9_repay_21 (fun r4 X4 T4 J4 h4 => ?_)
  obtain ⟨rfl, rfl, rfl, J3, hW3, rfl⟩ := h4
  refine r_st (st' := .int _ :: _) rfl ?_
  refine r_t (y := chA w B N E 6 xx) hW2.han ?_
  refine r_xret ?_
  exact r_iret (pc := 24) C dX9_repay_24 ⟨rfl, rfl, rfl, J1, J2, J3, pm', hW1, hW2, hW3, rfl⟩ (by decide)

set_option maxHeartbeats 1000000 in
theorem q_repay__x {g : GG} {X : va_W} {T : TT} {I : II} {x : Nat} (hcl : isCl T x) {w : Nat → Int32} {B N E : Nat}  {n c : Nat} (hn : n < 8) (hc : c ≤ 8) (hn1 : I (x + 169) 1 = nI n) (hc1 : I (x + 169) 0 = nI c) {p43 ph : Nat → Nat} (hB : w 1 = nI B) (hN : w 2 = nI N) {pm : Nat → Nat} (hV : DV I (x + 1) w B N E pm) {D U : Nat} (hG : Gd w B N E D U) (hS : Sd w N) (hp43 : PmOk I (x + 43) p43) (hph : PmOk I (x + 169 + 2 + 42 * n) ph) {xx : Nat → Int32} (h0 : cdV w B N 6 xx ≠ 0) : Mx g yX9_repay cX9_repay 3 (some .int) 9 1 6 [.ref x, .int (xx 0), .int (xx 1)] X T I No (KX I x 6 (cdV w B N 6 xx) X T w B N E p43) := by
  have hd := hcl.2.1
  have hft := ft_6 (w := w) (B := B) (N := N) (x := xx) h0
  refine Mx.of (by decide) (Nat.le_of_ble_eq_true rfl) (fun k hfl hxt C => ?_)
  refine r_lo (lo' := [(0, _), (1, _), (2, _)]) rfl ?_
  refine r_aload_n (pc := 0) C 0 dX9_repay_0 rfl rfl ?_
  refine r_getR (pc := 1) (x := x + 43) C f_X9_16 hcl.1 rfl rfl dX9_repay_1 ?_
  refine r_aload_n (pc := 4) C 0 dX9_repay_4 rfl rfl ?_
  refine r_getR (pc := 5) (x := x + 1) C f_X9_10 hcl.1 rfl rfl dX9_repay_5 ?_
  refine r_callV (pc := 8) C hfl k_X9_64 (c_X3_copyFrom hcl.2.2.1 hd hV hp43 (by omega) hB hN) (Dk_0 hcl.2.2.1) ca_X3 rfl rfl (Nat.le_of_ble_eq_true rfl) (by decide) (by decide) dX9_repay_8 (fun r1 X1 T1 J1 h1 => ?_)
  obtain ⟨rfl, rfl, rfl, hW1⟩ := h1
  refine r_st (st' := _) rfl ?_
  refine r_aload_n (pc := 11) C 0 dX9_repay_11 rfl rfl ?_
  refine r_aload_n (pc := 12) C 0 dX9_repay_12 rfl rfl ?_
  refine r_getR (pc := 13) (x := x + 1) C f_X9_10 hcl.1 rfl rfl dX9_repay_13 ?_
  refine r_iload_n (pc := 16) C 1 dX9_repay_16 rfl rfl ?_
  refine r_iload_n (pc := 17) C 2 dX9_repay_17 rfl rfl ?_
  refine r_callV (pc := 18) C hfl k_X9_94 (h_6 hd (hV.mv (fun y hy => hW1.1 y (by omega))) hG hS) (Dk_0 hd) ca_X3 rfl rfl (Nat.le_of_ble_eq_true rfl) (by decide) (by decide) dX9_repay_18 (fun r2 X2 T2 J2 h2 => ?_)
  obtain ⟨rfl, rfl, rfl, rfl⟩ : r2 = some (.ref (ga g (ftV 6 (cdV w B N 6 xx)))) ∧ J2 = J1 ∧ X2 = _ ∧ T2 = _ := by
      obtain ⟨e1, e2, ⟨-, e4, e5⟩ | ⟨e3, -, -⟩⟩ := h2
      · exact ⟨e4, e5, e1, e2⟩
      · exact absurd e3 h0
  refine r_st (st' := .ref _ :: _) rfl ?_
  refine r_xV (pc := 21) C hfl hxt k_X9_72 (q_finishChange__x hcl hft.1 hft.2) (fun c' X' T' I' h => by obtain ⟨e1, e2, e3, e4⟩ := h; exact ⟨e1, e2, e3, by rw [e4]; exact hW1⟩) hcl.1 ca_X9 rfl rfl (Nat.le_of_ble_eq_true rfl) (by decide) (by decide) dX9_repay_21 (fun r4 X4 T4 J4 h4 => ?_)
  exact h4.elim

set_option maxHeartbeats 1000000 in
theorem q_buy__o {g : GG} {X : va_W} {T : TT} {I : II} {x : Nat} (hcl : isCl T x) {w : Nat → Int32} {B N E : Nat}  {n c : Nat} (hn : n < 8) (hc : c ≤ 8) (hn1 : I (x + 169) 1 = nI n) (hc1 : I (x + 169) 0 = nI c) {p43 ph : Nat → Nat} (hB : w 1 = nI B) (hN : w 2 = nI N) {pm : Nat → Nat} (hV : DV I (x + 1) w B N E pm) {D U : Nat} (hG : Gd w B N E D U) (hS : Sd w N) (hp43 : PmOk I (x + 43) p43) (hph : PmOk I (x + 169 + 2 + 42 * n) ph) {xx : Nat → Int32} (h0 : cdV w B N 7 xx = 0) : Mx g yX9_buy cX9_buy 4 (some .int) 9 0 0 [.ref x, .int (xx 0), .int (xx 1), .int (xx 2)] X T I (KO I x n c 7 X T w B N E xx p43 ph) NoX := by
  have hd := hcl.2.1
  refine Mx.of (by decide) (Nat.le_of_ble_eq_true rfl) (fun k hfl hxt C => ?_)
  refine r_lo (lo' := [(0, _), (1, _), (2, _), (3, _)]) rfl ?_
  refine r_aload_n (pc := 0) C 0 dX9_buy_0 rfl rfl ?_
  refine r_getR (pc := 1) (x := x + 43) C f_X9_16 hcl.1 rfl rfl dX9_buy_1 ?_
  refine r_aload_n (pc := 4) C 0 dX9_buy_4 rfl rfl ?_
  refine r_getR (pc := 5) (x := x + 1) C f_X9_10 hcl.1 rfl rfl dX9_buy_5 ?_
  refine r_callV (pc := 8) C hfl k_X9_64 (c_X3_copyFrom hcl.2.2.1 hd hV hp43 (by omega) hB hN) (Dk_0 hcl.2.2.1) ca_X3 rfl rfl (Nat.le_of_ble_eq_true rfl) (by decide) (by decide) dX9_buy_8 (fun r1 X1 T1 J1 h1 => ?_)
  obtain ⟨rfl, rfl, rfl, hW1⟩ := h1
  refine r_st (st' := _) rfl ?_
  refine r_aload_n (pc := 11) C 0 dX9_buy_11 rfl rfl ?_
  refine r_aload_n (pc := 12) C 0 dX9_buy_12 rfl rfl ?_
  refine r_getR (pc := 13) (x := x + 1) C f_X9_10 hcl.1 rfl rfl dX9_buy_13 ?_
  refine r_iload_n (pc := 16) C 1 dX9_buy_16 rfl rfl ?_
  refine r_iload_n (pc := 17) C 2 dX9_buy_17 rfl rfl ?_
  refine r_iload_n (pc := 18) C 3 dX9_buy_18 rfl rfl ?_
  refine r_callV (pc := 19) C hfl k_X9_97 (h_7 hd (hV.mv (fun y hy => hW1.1 y (by omega))) hG hS) (Dk_0 hd) ca_X3 rfl rfl (Nat.le_of_ble_eq_true rfl) (by decide) (by decide) dX9_buy_19 (fun r2 X2 T2 J2 h2 => ?_)
  obtain ⟨rfl, pm', hW2, rfl, rfl⟩ : r2 = some (.ref (ga g 0)) ∧ ∃ pm', DW J1 J2 (x + 1) (chR w B N E 7 xx) (chB B 7) (chN w B N E 7 xx) (chE w N E 7 xx) pm' (chA w B N E 7 xx) ∧ X2 = _ ∧ T2 = _ := by
      obtain ⟨e1, e2, ⟨e3, -, -⟩ | ⟨-, e4, pm', e5⟩⟩ := h2
      · exact absurd h0 e3
      · exact ⟨e4, pm', e5, e1, e2⟩
  refine r_st (st' := .ref _ :: _) rfl ?_
  refine r_xV (pc := 22) C hfl hxt k_X9_72 (q_finishChange__o hcl (w := w) (n := n) (c := c) hn hc ((congrFun (hW2.1 (x + 169) (by omega)) 1).trans ((congrFun (hW1.1 (x + 169) (by omega)) 1).trans hn1)) ((congrFun (hW2.1 (x + 169) (by omega)) 0).trans ((congrFun (hW1.1 (x + 169) (by omega)) 0).trans hc1)) hB hN (hW1.toV.mv (fun y hy => hW2.1 y (by omega))) (hph.mv ((hW2.1 _ (by omega)).trans (hW1.1 _ (by omega))))) (fun _ _ _ _ h => h.elim) hcl.1 ca_X9 rfl rfl (Nat.le_of_ble_eq_true rfl) (by decide) (by decide) dX9_buy_22 (fun r4 X4 T4 J4 h4 => ?_)
  obtain ⟨rfl, rfl, rfl, J3, hW3, rfl⟩ := h4
  refine r_st (st' := .int _ :: _) rfl ?_
  refine r_t (y := chA w B N E 7 xx) hW2.han ?_
  refine r_xret ?_
  exact r_iret (pc := 25) C dX9_buy_25 ⟨rfl, rfl, rfl, J1, J2, J3, pm', hW1, hW2, hW3, rfl⟩ (by decide)

set_option maxHeartbeats 1000000 in
theorem q_buy__x {g : GG} {X : va_W} {T : TT} {I : II} {x : Nat} (hcl : isCl T x) {w : Nat → Int32} {B N E : Nat}  {n c : Nat} (hn : n < 8) (hc : c ≤ 8) (hn1 : I (x + 169) 1 = nI n) (hc1 : I (x + 169) 0 = nI c) {p43 ph : Nat → Nat} (hB : w 1 = nI B) (hN : w 2 = nI N) {pm : Nat → Nat} (hV : DV I (x + 1) w B N E pm) {D U : Nat} (hG : Gd w B N E D U) (hS : Sd w N) (hp43 : PmOk I (x + 43) p43) (hph : PmOk I (x + 169 + 2 + 42 * n) ph) {xx : Nat → Int32} (h0 : cdV w B N 7 xx ≠ 0) : Mx g yX9_buy cX9_buy 4 (some .int) 9 1 6 [.ref x, .int (xx 0), .int (xx 1), .int (xx 2)] X T I No (KX I x 7 (cdV w B N 7 xx) X T w B N E p43) := by
  have hd := hcl.2.1
  have hft := ft_7 (w := w) (B := B) (N := N) (x := xx) h0
  refine Mx.of (by decide) (Nat.le_of_ble_eq_true rfl) (fun k hfl hxt C => ?_)
  refine r_lo (lo' := [(0, _), (1, _), (2, _), (3, _)]) rfl ?_
  refine r_aload_n (pc := 0) C 0 dX9_buy_0 rfl rfl ?_
  refine r_getR (pc := 1) (x := x + 43) C f_X9_16 hcl.1 rfl rfl dX9_buy_1 ?_
  refine r_aload_n (pc := 4) C 0 dX9_buy_4 rfl rfl ?_
  refine r_getR (pc := 5) (x := x + 1) C f_X9_10 hcl.1 rfl rfl dX9_buy_5 ?_
  refine r_callV (pc := 8) C hfl k_X9_64 (c_X3_copyFrom hcl.2.2.1 hd hV hp43 (by omega) hB hN) (Dk_0 hcl.2.2.1) ca_X3 rfl rfl (Nat.le_of_ble_eq_true rfl) (by decide) (by decide) dX9_buy_8 (fun r1 X1 T1 J1 h1 => ?_)
  obtain ⟨rfl, rfl, rfl, hW1⟩ := h1
  refine r_st (st' := _) rfl ?_
  refine r_aload_n (pc := 11) C 0 dX9_buy_11 rfl rfl ?_
  refine r_aload_n (pc := 12) C 0 dX9_buy_12 rfl rfl ?_
  refine r_getR (pc := 13) (x := x + 1) C f_X9_10 hcl.1 rfl rfl dX9_buy_13 ?_
  refine r_iload_n (pc := 16) C 1 dX9_buy_16 rfl rfl ?_
  refine r_iload_n (pc := 17) C 2 dX9_buy_17 rfl rfl ?_
  refine r_iload_n (pc := 18) C 3 dX9_buy_18 rfl rfl ?_
  refine r_callV (pc := 19) C hfl k_X9_97 (h_7 hd (hV.mv (fun y hy => hW1.1 y (by omega))) hG hS) (Dk_0 hd) ca_X3 rfl rfl (Nat.le_of_ble_eq_true rfl) (by decide) (by decide) dX9_buy_19 (fun r2 X2 T2 J2 h2 => ?_)
  obtain ⟨rfl, rfl, rfl, rfl⟩ : r2 = some (.ref (ga g (ftV 7 (cdV w B N 7 xx)))) ∧ J2 = J1 ∧ X2 = _ ∧ T2 = _ := by
      obtain ⟨e1, e2, ⟨-, e4, e5⟩ | ⟨e3, -, -⟩⟩ := h2
      · exact ⟨e4, e5, e1, e2⟩
      · exact absurd e3 h0
  refine r_st (st' := .ref _ :: _) rfl ?_
  refine r_xV (pc := 22) C hfl hxt k_X9_72 (q_finishChange__x hcl hft.1 hft.2) (fun c' X' T' I' h => by obtain ⟨e1, e2, e3, e4⟩ := h; exact ⟨e1, e2, e3, by rw [e4]; exact hW1⟩) hcl.1 ca_X9 rfl rfl (Nat.le_of_ble_eq_true rfl) (by decide) (by decide) dX9_buy_22 (fun r4 X4 T4 J4 h4 => ?_)
  exact h4.elim

set_option maxHeartbeats 1000000 in
theorem q_pass__o {g : GG} {X : va_W} {T : TT} {I : II} {x : Nat} (hcl : isCl T x) {w : Nat → Int32} {B N E : Nat}  {n c : Nat} (hn : n < 8) (hc : c ≤ 8) (hn1 : I (x + 169) 1 = nI n) (hc1 : I (x + 169) 0 = nI c) {p43 ph : Nat → Nat} (hB : w 1 = nI B) (hN : w 2 = nI N) {pm : Nat → Nat} (hV : DV I (x + 1) w B N E pm) {D U : Nat} (hG : Gd w B N E D U) (hS : Sd w N) (hp43 : PmOk I (x + 43) p43) (hph : PmOk I (x + 169 + 2 + 42 * n) ph) {xx : Nat → Int32} (hDx : D + 60 ≤ 100000) (h0 : cdV w B N 8 xx = 0) : Mx g yX9_pass cX9_pass 2 (some .int) 9 0 0 [.ref x, .int (xx 0)] X T I (KO I x n c 8 X T w B N E xx p43 ph) NoX := by
  have hd := hcl.2.1
  refine Mx.of (by decide) (Nat.le_of_ble_eq_true rfl) (fun k hfl hxt C => ?_)
  refine r_lo (lo' := [(0, _), (1, _)]) rfl ?_
  refine r_aload_n (pc := 0) C 0 dX9_pass_0 rfl rfl ?_
  refine r_getR (pc := 1) (x := x + 43) C f_X9_16 hcl.1 rfl rfl dX9_pass_1 ?_
  refine r_aload_n (pc := 4) C 0 dX9_pass_4 rfl rfl ?_
  refine r_getR (pc := 5) (x := x + 1) C f_X9_10 hcl.1 rfl rfl dX9_pass_5 ?_
  refine r_callV (pc := 8) C hfl k_X9_64 (c_X3_copyFrom hcl.2.2.1 hd hV hp43 (by omega) hB hN) (Dk_0 hcl.2.2.1) ca_X3 rfl rfl (Nat.le_of_ble_eq_true rfl) (by decide) (by decide) dX9_pass_8 (fun r1 X1 T1 J1 h1 => ?_)
  obtain ⟨rfl, rfl, rfl, hW1⟩ := h1
  refine r_st (st' := _) rfl ?_
  refine r_aload_n (pc := 11) C 0 dX9_pass_11 rfl rfl ?_
  refine r_aload_n (pc := 12) C 0 dX9_pass_12 rfl rfl ?_
  refine r_getR (pc := 13) (x := x + 1) C f_X9_10 hcl.1 rfl rfl dX9_pass_13 ?_
  refine r_iload_n (pc := 16) C 1 dX9_pass_16 rfl rfl ?_
  refine r_callV (pc := 17) C hfl k_X9_100 (h_8 hd (hV.mv (fun y hy => hW1.1 y (by omega))) hG hS hDx) (Dk_0 hd) ca_X3 rfl rfl (Nat.le_of_ble_eq_true rfl) (by decide) (by decide) dX9_pass_17 (fun r2 X2 T2 J2 h2 => ?_)
  obtain ⟨rfl, pm', hW2, rfl, rfl⟩ : r2 = some (.ref (ga g 0)) ∧ ∃ pm', DW J1 J2 (x + 1) (chR w B N E 8 xx) (chB B 8) (chN w B N E 8 xx) (chE w N E 8 xx) pm' (chA w B N E 8 xx) ∧ X2 = _ ∧ T2 = _ := by
      obtain ⟨e1, e2, ⟨e3, -, -⟩ | ⟨-, e4, pm', e5⟩⟩ := h2
      · exact absurd h0 e3
      · exact ⟨e4, pm', e5, e1, e2⟩
  refine r_st (st' := .ref _ :: _) rfl ?_
  refine r_xV (pc := 20) C hfl hxt k_X9_72 (q_finishChange__o hcl (w := w) (n := n) (c := c) hn hc ((congrFun (hW2.1 (x + 169) (by omega)) 1).trans ((congrFun (hW1.1 (x + 169) (by omega)) 1).trans hn1)) ((congrFun (hW2.1 (x + 169) (by omega)) 0).trans ((congrFun (hW1.1 (x + 169) (by omega)) 0).trans hc1)) hB hN (hW1.toV.mv (fun y hy => hW2.1 y (by omega))) (hph.mv ((hW2.1 _ (by omega)).trans (hW1.1 _ (by omega))))) (fun _ _ _ _ h => h.elim) hcl.1 ca_X9 rfl rfl (Nat.le_of_ble_eq_true rfl) (by decide) (by decide) dX9_pass_20 (fun r4 X4 T4 J4 h4 => ?_)
  obtain ⟨rfl, rfl, rfl, J3, hW3, rfl⟩ := h4
  refine r_st (st' := .int _ :: _) rfl ?_
  refine r_t (y := chA w B N E 8 xx) hW2.han ?_
  refine r_xret ?_
  exact r_iret (pc := 23) C dX9_pass_23 ⟨rfl, rfl, rfl, J1, J2, J3, pm', hW1, hW2, hW3, rfl⟩ (by decide)

set_option maxHeartbeats 1000000 in
theorem q_pass__x {g : GG} {X : va_W} {T : TT} {I : II} {x : Nat} (hcl : isCl T x) {w : Nat → Int32} {B N E : Nat}  {n c : Nat} (hn : n < 8) (hc : c ≤ 8) (hn1 : I (x + 169) 1 = nI n) (hc1 : I (x + 169) 0 = nI c) {p43 ph : Nat → Nat} (hB : w 1 = nI B) (hN : w 2 = nI N) {pm : Nat → Nat} (hV : DV I (x + 1) w B N E pm) {D U : Nat} (hG : Gd w B N E D U) (hS : Sd w N) (hp43 : PmOk I (x + 43) p43) (hph : PmOk I (x + 169 + 2 + 42 * n) ph) {xx : Nat → Int32} (hDx : D + 60 ≤ 100000) (h0 : cdV w B N 8 xx ≠ 0) : Mx g yX9_pass cX9_pass 2 (some .int) 9 1 6 [.ref x, .int (xx 0)] X T I No (KX I x 8 (cdV w B N 8 xx) X T w B N E p43) := by
  have hd := hcl.2.1
  have hft := ft_8 (w := w) (B := B) (N := N) (x := xx) h0
  refine Mx.of (by decide) (Nat.le_of_ble_eq_true rfl) (fun k hfl hxt C => ?_)
  refine r_lo (lo' := [(0, _), (1, _)]) rfl ?_
  refine r_aload_n (pc := 0) C 0 dX9_pass_0 rfl rfl ?_
  refine r_getR (pc := 1) (x := x + 43) C f_X9_16 hcl.1 rfl rfl dX9_pass_1 ?_
  refine r_aload_n (pc := 4) C 0 dX9_pass_4 rfl rfl ?_
  refine r_getR (pc := 5) (x := x + 1) C f_X9_10 hcl.1 rfl rfl dX9_pass_5 ?_
  refine r_callV (pc := 8) C hfl k_X9_64 (c_X3_copyFrom hcl.2.2.1 hd hV hp43 (by omega) hB hN) (Dk_0 hcl.2.2.1) ca_X3 rfl rfl (Nat.le_of_ble_eq_true rfl) (by decide) (by decide) dX9_pass_8 (fun r1 X1 T1 J1 h1 => ?_)
  obtain ⟨rfl, rfl, rfl, hW1⟩ := h1
  refine r_st (st' := _) rfl ?_
  refine r_aload_n (pc := 11) C 0 dX9_pass_11 rfl rfl ?_
  refine r_aload_n (pc := 12) C 0 dX9_pass_12 rfl rfl ?_
  refine r_getR (pc := 13) (x := x + 1) C f_X9_10 hcl.1 rfl rfl dX9_pass_13 ?_
  refine r_iload_n (pc := 16) C 1 dX9_pass_16 rfl rfl ?_
  refine r_callV (pc := 17) C hfl k_X9_100 (h_8 hd (hV.mv (fun y hy => hW1.1 y (by omega))) hG hS hDx) (Dk_0 hd) ca_X3 rfl rfl (Nat.le_of_ble_eq_true rfl) (by decide) (by decide) dX9_pass_17 (fun r2 X2 T2 J2 h2 => ?_)
  obtain ⟨rfl, rfl, rfl, rfl⟩ : r2 = some (.ref (ga g (ftV 8 (cdV w B N 8 xx)))) ∧ J2 = J1 ∧ X2 = _ ∧ T2 = _ := by
      obtain ⟨e1, e2, ⟨-, e4, e5⟩ | ⟨e3, -, -⟩⟩ := h2
      · exact ⟨e4, e5, e1, e2⟩
      · exact absurd e3 h0
  refine r_st (st' := .ref _ :: _) rfl ?_
  refine r_xV (pc := 20) C hfl hxt k_X9_72 (q_finishChange__x hcl hft.1 hft.2) (fun c' X' T' I' h => by obtain ⟨e1, e2, e3, e4⟩ := h; exact ⟨e1, e2, e3, by rw [e4]; exact hW1⟩) hcl.1 ca_X9 rfl rfl (Nat.le_of_ble_eq_true rfl) (by decide) (by decide) dX9_pass_20 (fun r4 X4 T4 J4 h4 => ?_)
  exact h4.elim
