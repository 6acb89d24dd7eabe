/-- the class's own words for two answers -/
def muC (w : Nat → Int32) (s m : Nat) : Int32 := if 0 < nI 3 * debtV w s - nI 2 * valV w s then qupV (nI 3 * debtV w s - nI 2 * valV w s) (nI 2 * w (10 + m)) else nI 0
def gpM (w : Nat → Int32) (m : Nat) (u : Int32) : Int32 := mnV (mnV (nI 2 * u * w (10 + m) / nI 3) (w 4)) (nI 500)
def mayG (w : Nat → Int32) (N n m : Nat) (u : Int32) : Prop := N < 10 ∧ w (22 + 6 * n + 1) < nI 2 ∧ ¬ w (22 + 6 * n + (2 + m)) < u
set_option maxHeartbeats 1000000 in
theorem q_interestAfter__s {g : GG} {X : va_W} {T : TT} {I : II} {x : Nat} (hcl : isCl T x) {w : Nat → Int32} {B N E : Nat} {pm : Nat → Nat} (hV : DV I (x + 1) w B N E pm) (hN : w 2 = nI N) {id : Int32} {s : Nat} (hs : s < N) (hr : atS w N id (nI s)) {d : Int32} (hd_ : okR 0 60 d) : Mx g yX9_interestAfter cX9_interestAfter 4 (some .int) 8 0 0 [.ref x, .int id, .int d] X T I (Ex (some (.int (w (58 + 10 * s + 3) + d * dayV w s))) X T I) NoX := by
  have hd := hcl.2.1
  have hB6 := hV.hB
  have hN10 := hV.hN
  have hE20 := hV.hE
  refine Mx.of (by decide) (Nat.le_of_ble_eq_true rfl) (fun k hfl hxt C => ?_)
  refine r_lo (lo' := [(0, _), (1, _), (2, _)]) rfl ?_
  refine r_aload_n (pc := 0) C 0 dX9_interestAfter_0 rfl rfl ?_
  refine r_iload_n (pc := 1) C 1 dX9_interestAfter_1 rfl rfl ?_
  refine r_xV (pc := 2) C hfl hxt k_X9_218 (q_requireLoan__s hcl hV hN hs hr) (fun _ _ _ _ h => h.elim) hcl.1 ca_X9 rfl rfl (Nat.le_of_ble_eq_true rfl) (by decide) (by decide) dX9_interestAfter_2 (fun r2 X2 T2 I2 h2 => ?_)
  obtain ⟨rfl, rfl, rfl, rfl⟩ := h2
  refine r_st (st' := .ref _ :: _) rfl ?_
  refine r_astore_n (pc := 5) (lo' := [(3, _), (0, _), (1, _), (2, _)]) C dX9_interestAfter_5 rfl (by decide) rfl ?_
  refine r_iload_n (pc := 6) C 3 dX9_interestAfter_6 rfl rfl ?_
  refine r_iconst (pc := 7) (v := 0) C dX9_interestAfter_7 rfl ?_
  refine r_bipush (pc := 8) (v := 60) C dX9_interestAfter_8 rfl ?_
  refine r_cSi (pc := 10) C hfl k_X9_264 c_X9_isWithin rfl rfl (Nat.le_of_ble_eq_true rfl) (by decide) (by decide) dX9_interestAfter_10 ?_
  refine r_ifneB (pc := 13) (tgt := 27) C dX9_interestAfter_13 rfl (fun c_13 => ?_) (fun c_13 => False.elim (by exact c_13 hd_))
  refine r_aload_n (pc := 27) C 0 dX9_interestAfter_27 rfl rfl ?_
  refine r_getI (pc := 28) C f_X9_227 ((Dk_l hd (hV.l (by omega)))) rfl dX9_interestAfter_28 ?_
  refine r_t (hV.get (at_loan (i := 3) hs (by decide))) ?_
  refine r_iload_n (pc := 31) C 3 dX9_interestAfter_31 rfl rfl ?_
  refine r_aload_n (pc := 32) C 0 dX9_interestAfter_32 rfl rfl ?_
  refine r_cVi (pc := 33) C hfl k_X9_270 (c_X7_dailyInterest hd hV hs) ((Dk_l hd (hV.l (by omega)))) ca_X7 rfl rfl (Nat.le_of_ble_eq_true rfl) (by decide) (by decide) dX9_interestAfter_33 ?_
  refine r_imul (pc := 36) C dX9_interestAfter_36 ?_
  refine r_iadd (pc := 37) C dX9_interestAfter_37 ?_
  refine r_xret ?_
  exact r_iret (pc := 38) C dX9_interestAfter_38 ⟨rfl, rfl, rfl, rfl⟩ (by decide)

set_option maxHeartbeats 1000000 in
theorem q_interestAfter__x {g : GG} {X : va_W} {T : TT} {I : II} {x : Nat} (hcl : isCl T x) {w : Nat → Int32} {B N E : Nat} {pm : Nat → Nat} (hV : DV I (x + 1) w B N E pm) (hN : w 2 = nI N) {id : Int32} {s : Nat} (hs : s < N) (hr : atS w N id (nI s)) {d : Int32} (hd_ : ¬ okR 0 60 d) : Mx g yX9_interestAfter cX9_interestAfter 4 (some .int) 8 1 6 [.ref x, .int id, .int d] X T I No (Th (exc 3) X T I) := by
  have hd := hcl.2.1
  have hB6 := hV.hB
  have hN10 := hV.hN
  have hE20 := hV.hE
  refine Mx.of (by decide) (Nat.le_of_ble_eq_true rfl) (fun k hfl hxt C => ?_)
  refine r_lo (lo' := [(0, _), (1, _), (2, _)]) rfl ?_
  refine r_aload_n (pc := 0) C 0 dX9_interestAfter_0 rfl rfl ?_
  refine r_iload_n (pc := 1) C 1 dX9_interestAfter_1 rfl rfl ?_
  refine r_xV (pc := 2) C hfl hxt k_X9_218 (q_requireLoan__s hcl hV hN hs hr) (fun _ _ _ _ h => h.elim) hcl.1 ca_X9 rfl rfl (Nat.le_of_ble_eq_true rfl) (by decide) (by decide) dX9_interestAfter_2 (fun r2 X2 T2 I2 h2 => ?_)
  obtain ⟨rfl, rfl, rfl, rfl⟩ := h2
  refine r_st (st' := .ref _ :: _) rfl ?_
  refine r_astore_n (pc := 5) (lo' := [(3, _), (0, _), (1, _), (2, _)]) C dX9_interestAfter_5 rfl (by decide) rfl ?_
  refine r_iload_n (pc := 6) C 3 dX9_interestAfter_6 rfl rfl ?_
  refine r_iconst (pc := 7) (v := 0) C dX9_interestAfter_7 rfl ?_
  refine r_bipush (pc := 8) (v := 60) C dX9_interestAfter_8 rfl ?_
  refine r_cSi (pc := 10) C hfl k_X9_264 c_X9_isWithin rfl rfl (Nat.le_of_ble_eq_true rfl) (by decide) (by decide) dX9_interestAfter_10 ?_
  refine r_ifneB (pc := 13) (tgt := 27) C dX9_interestAfter_13 rfl (fun c_13 => False.elim (by exact hd_ c_13)) (fun c_13 => ?_)
  exact r_thrW (pc := 16) (tx := "the number of days is out of range") (sa := 568) C hfl hxt ex_137 (by decide) (Nat.le_of_ble_eq_true rfl) (by decide) dX9_interestAfter_16 dX9_interestAfter_19 dX9_interestAfter_20 dX9_interestAfter_23 dX9_interestAfter_26 ⟨rfl, rfl, rfl, rfl⟩

set_option maxHeartbeats 1000000 in
theorem q_interestAfter__n {g : GG} {X : va_W} {T : TT} {I : II} {x : Nat} (hcl : isCl T x) {w : Nat → Int32} {B N E : Nat} {pm : Nat → Nat} (hV : DV I (x + 1) w B N E pm) (hN : w 2 = nI N) {id : Int32} (hr : atS w N id (-1)) {d : Int32} : Mx g yX9_interestAfter cX9_interestAfter 4 (some .int) 8 1 6 [.ref x, .int id, .int d] X T I No (Th (exc 1) X T I) := by
  have hd := hcl.2.1
  have hB6 := hV.hB
  have hN10 := hV.hN
  have hE20 := hV.hE
  refine Mx.of (by decide) (Nat.le_of_ble_eq_true rfl) (fun k hfl hxt C => ?_)
  refine r_lo (lo' := [(0, _), (1, _), (2, _)]) rfl ?_
  refine r_aload_n (pc := 0) C 0 dX9_interestAfter_0 rfl rfl ?_
  refine r_iload_n (pc := 1) C 1 dX9_interestAfter_1 rfl rfl ?_
  refine r_xV (pc := 2) C hfl hxt k_X9_218 (q_requireLoan__n hcl hV hN hr) (fun _ _ _ _ h => h) hcl.1 ca_X9 rfl rfl (Nat.le_of_ble_eq_true rfl) (by decide) (by decide) dX9_interestAfter_2 (fun r2 X2 T2 I2 h2 => ?_)
  exact h2.elim

set_option maxHeartbeats 1000000 in
theorem q_missingUnits__s {g : GG} {X : va_W} {T : TT} {I : II} {x : Nat} (hcl : isCl T x) {w : Nat → Int32} {B N E : Nat} {pm : Nat → Nat} (hV : DV I (x + 1) w B N E pm) (hN : w 2 = nI N) {id : Int32} {s : Nat} (hs : s < N) (hr : atS w N id (nI s)) {m : Nat} (m1 : m < 4) : Mx g yX9_missingUnits cX9_missingUnits 5 (some .int) 8 0 0 [.ref x, .int id, .int (nI m)] X T I (Ex (some (.int (muC w s m))) X T I) NoX := by
  have hd := hcl.2.1
  have hB6 := hV.hB
  have hN10 := hV.hN
  have hE20 := hV.hE
  refine Mx.of (by decide) (Nat.le_of_ble_eq_true rfl) (fun k hfl hxt C => ?_)
  refine r_lo (lo' := [(0, _), (1, _), (2, _)]) rfl ?_
  refine r_aload_n (pc := 0) C 0 dX9_missingUnits_0 rfl rfl ?_
  refine r_iload_n (pc := 1) C 1 dX9_missingUnits_1 rfl rfl ?_
  refine r_xV (pc := 2) C hfl hxt k_X9_218 (q_requireLoan__s hcl hV hN hs hr) (fun _ _ _ _ h => h.elim) hcl.1 ca_X9 rfl rfl (Nat.le_of_ble_eq_true rfl) (by decide) (by decide) dX9_missingUnits_2 (fun r2 X2 T2 I2 h2 => ?_)
  obtain ⟨rfl, rfl, rfl, rfl⟩ := h2
  refine r_st (st' := .ref _ :: _) rfl ?_
  refine r_astore_n (pc := 5) (lo' := [(3, _), (0, _), (1, _), (2, _)]) C dX9_missingUnits_5 rfl (by decide) rfl ?_
  refine r_iload_n (pc := 6) C 3 dX9_missingUnits_6 rfl rfl ?_
  refine r_xS (pc := 7) C hfl hxt k_X9_153 (q_requireKind__v m1) (fun _ _ _ _ h => h.elim) rfl rfl (Nat.le_of_ble_eq_true rfl) (by decide) (by decide) dX9_missingUnits_7 (fun r2 X2 T2 I2 h2 => ?_)
  obtain ⟨rfl, rfl, rfl, rfl⟩ := h2
  refine r_iconst (pc := 10) (v := 3) C dX9_missingUnits_10 rfl ?_
  refine r_aload_n (pc := 11) C 0 dX9_missingUnits_11 rfl rfl ?_
  refine r_cVi (pc := 12) C hfl k_X9_230 (c_X7_owed hd hV hs) ((Dk_l hd (hV.l (by omega)))) ca_X7 rfl rfl (Nat.le_of_ble_eq_true rfl) (by decide) (by decide) dX9_missingUnits_12 ?_
  refine r_imul (pc := 15) C dX9_missingUnits_15 ?_
  refine r_iconst (pc := 16) (v := 2) C dX9_missingUnits_16 rfl ?_
  refine r_aload_n (pc := 17) C 1 dX9_missingUnits_17 rfl rfl ?_
  refine r_getR (pc := 18) (x := x + 1) C f_X9_10 hcl.1 rfl rfl dX9_missingUnits_18 ?_
  refine r_aload_n (pc := 21) C 0 dX9_missingUnits_21 rfl rfl ?_
  refine r_getR (pc := 22) (x := x + 1 + 5 + 17 + 2 * pm s + 1) C f_X9_240 ((Dk_l hd (hV.l (by omega)))) rfl rfl dX9_missingUnits_22 ?_
  refine r_cVi (pc := 25) C hfl k_X9_243 (c_X3_valueOf hd hV ((Dk_p hd (hV.l (by omega))))) ((Dk_0 hd)) ca_X3 rfl rfl (Nat.le_of_ble_eq_true rfl) (by decide) (by decide) dX9_missingUnits_25 ?_
  refine r_t (hV.val hs) ?_
  refine r_imul (pc := 28) C dX9_missingUnits_28 ?_
  refine r_isub (pc := 29) C dX9_missingUnits_29 ?_
  refine r_istore (pc := 30) (lo' := [(4, _), (3, _), (0, _), (1, _), (2, _)]) C dX9_missingUnits_30 (by decide) rfl ?_
  refine r_iload (pc := 32) C 0 dX9_missingUnits_32 rfl ?_
  refine r_ifgt (pc := 34) (tgt := 41) C dX9_missingUnits_34 rfl (fun c_34 => ?_) (fun c_34 => ?_)
  · skip
    refine r_iload (pc := 41) C 0 dX9_missingUnits_41 rfl ?_
    refine r_iconst (pc := 43) (v := 2) C dX9_missingUnits_43 rfl ?_
    refine r_aload_n (pc := 44) C 2 dX9_missingUnits_44 rfl rfl ?_
    refine r_getR (pc := 45) (x := x + 1) C f_X9_10 hcl.1 rfl rfl dX9_missingUnits_45 ?_
    refine r_getR (pc := 48) (x := x + 1 + 1) C f_X9_157 ((Dk_0 hd)) rfl rfl dX9_missingUnits_48 ?_
    refine r_iload_n (pc := 51) C 4 dX9_missingUnits_51 rfl rfl ?_
    refine r_iald (pc := 52) (x := m) C ((Dk_1 hd)) rfl (by omega) (by decide) dX9_missingUnits_52 ?_
    refine r_t (hV.get (at_pr (by omega))) ?_
    refine r_imul (pc := 53) C dX9_missingUnits_53 ?_
    refine r_cSi (pc := 54) C hfl k_X9_251 c_X9_quotientUp rfl rfl (Nat.le_of_ble_eq_true rfl) (by decide) (by decide) dX9_missingUnits_54 ?_
    refine r_xret ?_
    exact r_iret (pc := 57) C dX9_missingUnits_57 ⟨by rw [muC, if_pos c_34], rfl, rfl, rfl⟩ (by decide)
  · skip
    refine r_iconst (pc := 37) (v := 0) C dX9_missingUnits_37 rfl ?_
    refine r_goto (pc := 38) (tgt := 57) C dX9_missingUnits_38 rfl ?_
    refine r_xret ?_
    exact r_iret (pc := 57) C dX9_missingUnits_57 ⟨by rw [muC, if_neg c_34], rfl, rfl, rfl⟩ (by decide)

set_option maxHeartbeats 1000000 in
theorem q_missingUnits__n {g : GG} {X : va_W} {T : TT} {I : II} {x : Nat} (hcl : isCl T x) {w : Nat → Int32} {B N E : Nat} {pm : Nat → Nat} (hV : DV I (x + 1) w B N E pm) (hN : w 2 = nI N) {id : Int32} (hr : atS w N id (-1)) {k_ : Int32} : Mx g yX9_missingUnits cX9_missingUnits 5 (some .int) 8 1 6 [.ref x, .int id, .int k_] X T I No (Th (exc 1) X T I) := by
  have hd := hcl.2.1
  have hB6 := hV.hB
  have hN10 := hV.hN
  have hE20 := hV.hE
  refine Mx.of (by decide) (Nat.le_of_ble_eq_true rfl) (fun k hfl hxt C => ?_)
  refine r_lo (lo' := [(0, _), (1, _), (2, _)]) rfl ?_
  refine r_aload_n (pc := 0) C 0 dX9_missingUnits_0 rfl rfl ?_
  refine r_iload_n (pc := 1) C 1 dX9_missingUnits_1 rfl rfl ?_
  refine r_xV (pc := 2) C hfl hxt k_X9_218 (q_requireLoan__n hcl hV hN hr) (fun _ _ _ _ h => h) hcl.1 ca_X9 rfl rfl (Nat.le_of_ble_eq_true rfl) (by decide) (by decide) dX9_missingUnits_2 (fun r2 X2 T2 I2 h2 => ?_)
  exact h2.elim

set_option maxHeartbeats 1000000 in
theorem q_missingUnits__x {g : GG} {X : va_W} {T : TT} {I : II} {x : Nat} (hcl : isCl T x) {w : Nat → Int32} {B N E : Nat} {pm : Nat → Nat} (hV : DV I (x + 1) w B N E pm) (hN : w 2 = nI N) {id : Int32} {s : Nat} (hs : s < N) (hr : atS w N id (nI s)) {k_ : Int32} (hk : ¬ okK k_) : Mx g yX9_missingUnits cX9_missingUnits 5 (some .int) 8 1 6 [.ref x, .int id, .int k_] X T I No (Th (exc 2) X T I) := by
  have hd := hcl.2.1
  have hB6 := hV.hB
  have hN10 := hV.hN
  have hE20 := hV.hE
  refine Mx.of (by decide) (Nat.le_of_ble_eq_true rfl) (fun k hfl hxt C => ?_)
  refine r_lo (lo' := [(0, _), (1, _), (2, _)]) rfl ?_
  refine r_aload_n (pc := 0) C 0 dX9_missingUnits_0 rfl rfl ?_
  refine r_iload_n (pc := 1) C 1 dX9_missingUnits_1 rfl rfl ?_
  refine r_xV (pc := 2) C hfl hxt k_X9_218 (q_requireLoan__s hcl hV hN hs hr) (fun _ _ _ _ h => h.elim) hcl.1 ca_X9 rfl rfl (Nat.le_of_ble_eq_true rfl) (by decide) (by decide) dX9_missingUnits_2 (fun r2 X2 T2 I2 h2 => ?_)
  obtain ⟨rfl, rfl, rfl, rfl⟩ := h2
  refine r_st (st' := .ref _ :: _) rfl ?_
  refine r_astore_n (pc := 5) (lo' := [(3, _), (0, _), (1, _), (2, _)]) C dX9_missingUnits_5 rfl (by decide) rfl ?_
  refine r_iload_n (pc := 6) C 3 dX9_missingUnits_6 rfl rfl ?_
  refine r_xS (pc := 7) C hfl hxt k_X9_153 (q_requireKind__x hk) (fun _ _ _ _ h => h) rfl rfl (Nat.le_of_ble_eq_true rfl) (by decide) (by decide) dX9_missingUnits_7 (fun r2 X2 T2 I2 h2 => ?_)
  exact h2.elim

set_option maxHeartbeats 1000000 in
theorem q_greatestPrincipal__v {g : GG} {X : va_W} {T : TT} {I : II} {x : Nat} (hcl : isCl T x) {w : Nat → Int32} {B N E : Nat} {pm : Nat → Nat} (hV : DV I (x + 1) w B N E pm) (hN : w 2 = nI N) (hB : w 1 = nI B) {n : Nat} (n1 : n < B) {m : Nat} (m1 : m < 4) {u : Int32} (hu : okR 1 99 u) (h1 : ¬ gpM w m u < nI 1) (h2 : mayG w N n m u) : Mx g yX9_greatestPrincipal cX9_greatestPrincipal 7 (some .int) 8 0 0 [.ref x, .int (nI n), .int (nI m), .int u] X T I (Ex (some (.int (gpM w m u))) X T I) NoX := by
  have hd := hcl.2.1
  have hB6 := hV.hB
  have hN10 := hV.hN
  have hE20 := hV.hE
  refine Mx.of (by decide) (Nat.le_of_ble_eq_true rfl) (fun k hfl hxt C => ?_)
  refine r_lo (lo' := [(0, _), (1, _), (2, _), (3, _)]) rfl ?_
  refine r_aload_n (pc := 0) C 0 dX9_greatestPrincipal_0 rfl rfl ?_
  refine r_iload_n (pc := 1) C 1 dX9_greatestPrincipal_1 rfl rfl ?_
  refine r_xV (pc := 2) C hfl hxt k_X9_170 (q_requireBorrower__v hcl hV hB n1) (fun _ _ _ _ h => h.elim) hcl.1 ca_X9 rfl rfl (Nat.le_of_ble_eq_true rfl) (by decide) (by decide) dX9_greatestPrincipal_2 (fun r2 X2 T2 I2 h2 => ?_)
  obtain ⟨rfl, rfl, rfl, rfl⟩ := h2
  refine r_st (st' := .ref _ :: _) rfl ?_
  refine r_astore (pc := 5) (lo' := [(4, _), (0, _), (1, _), (2, _), (3, _)]) C dX9_greatestPrincipal_5 (by decide) rfl ?_
  refine r_iload_n (pc := 7) C 3 dX9_greatestPrincipal_7 rfl rfl ?_
  refine r_xS (pc := 8) C hfl hxt k_X9_153 (q_requireKind__v m1) (fun _ _ _ _ h => h.elim) rfl rfl (Nat.le_of_ble_eq_true rfl) (by decide) (by decide) dX9_greatestPrincipal_8 (fun r2 X2 T2 I2 h2 => ?_)
  obtain ⟨rfl, rfl, rfl, rfl⟩ := h2
  refine r_iload_n (pc := 11) C 4 dX9_greatestPrincipal_11 rfl rfl ?_
  refine r_iconst (pc := 12) (v := 1) C dX9_greatestPrincipal_12 rfl ?_
  refine r_bipush (pc := 13) (v := 99) C dX9_greatestPrincipal_13 rfl ?_
  refine r_cSi (pc := 15) C hfl k_X9_264 c_X9_isWithin rfl rfl (Nat.le_of_ble_eq_true rfl) (by decide) (by decide) dX9_greatestPrincipal_15 ?_
  refine r_ifneB (pc := 18) (tgt := 32) C dX9_greatestPrincipal_18 rfl (fun c_18 => ?_) (fun c_18 => False.elim (by exact c_18 hu))
  refine r_iconst (pc := 32) (v := 2) C dX9_greatestPrincipal_32 rfl ?_
  refine r_iload_n (pc := 33) C 4 dX9_greatestPrincipal_33 rfl rfl ?_
  refine r_imul (pc := 34) C dX9_greatestPrincipal_34 ?_
  refine r_aload_n (pc := 35) C 1 dX9_greatestPrincipal_35 rfl rfl ?_
  refine r_getR (pc := 36) (x := x + 1) C f_X9_10 hcl.1 rfl rfl dX9_greatestPrincipal_36 ?_
  refine r_getR (pc := 39) (x := x + 1 + 1) C f_X9_157 ((Dk_0 hd)) rfl rfl dX9_greatestPrincipal_39 ?_
  refine r_iload_n (pc := 42) C 3 dX9_greatestPrincipal_42 rfl rfl ?_
  refine r_iald (pc := 43) (x := m) C ((Dk_1 hd)) rfl (by omega) (by decide) dX9_greatestPrincipal_43 ?_
  refine r_t (hV.get (at_pr (by omega))) ?_
  refine r_imul (pc := 44) C dX9_greatestPrincipal_44 ?_
  refine r_iconst (pc := 45) (v := 3) C dX9_greatestPrincipal_45 rfl ?_
  refine r_idiv (pc := 46) C dX9_greatestPrincipal_46 (by decide) ?_
  refine r_istore (pc := 47) (lo' := [(5, _), (4, _), (0, _), (1, _), (2, _), (3, _)]) C dX9_greatestPrincipal_47 (by decide) rfl ?_
  refine r_iload (pc := 49) C 0 dX9_greatestPrincipal_49 rfl ?_
  refine r_aload_n (pc := 51) C 2 dX9_greatestPrincipal_51 rfl rfl ?_
  refine r_getR (pc := 52) (x := x + 1) C f_X9_10 hcl.1 rfl rfl dX9_greatestPrincipal_52 ?_
  refine r_getI (pc := 55) C f_X9_161 ((Dk_0 hd)) rfl dX9_greatestPrincipal_55 ?_
  refine r_t (hV.get at_funds) ?_
  refine r_min (pc := 58) C k_X9_275 (Nat.le_of_ble_eq_true rfl) (by decide) dX9_greatestPrincipal_58 ?_
  refine r_sipush (pc := 61) (v := 500) C dX9_greatestPrincipal_61 rfl ?_
  refine r_min (pc := 64) C k_X9_275 (Nat.le_of_ble_eq_true rfl) (by decide) dX9_greatestPrincipal_64 ?_
  refine r_istore (pc := 67) (lo' := [(6, _), (5, _), (4, _), (0, _), (1, _), (2, _), (3, _)]) C dX9_greatestPrincipal_67 (by decide) rfl ?_
  refine r_iload (pc := 69) C 0 dX9_greatestPrincipal_69 rfl ?_
  refine r_iconst (pc := 71) (v := 1) C dX9_greatestPrincipal_71 rfl ?_
  refine r_clt (pc := 72) (tgt := 89) C dX9_greatestPrincipal_72 rfl (fun c_72 => False.elim (by exact h1 c_72)) (fun c_72 => ?_)
  refine r_aload_n (pc := 75) C 3 dX9_greatestPrincipal_75 rfl rfl ?_
  refine r_getR (pc := 76) (x := x + 1) C f_X9_10 hcl.1 rfl rfl dX9_greatestPrincipal_76 ?_
  refine r_aload (pc := 79) C 2 dX9_greatestPrincipal_79 rfl ?_
  refine r_iload_n (pc := 81) C 5 dX9_greatestPrincipal_81 rfl rfl ?_
  refine r_iload_n (pc := 82) C 6 dX9_greatestPrincipal_82 rfl rfl ?_
  refine r_cVi (pc := 83) C hfl k_X9_280 (c_X3_mayPledgeForLoan hd hV hN n1 m1) ((Dk_0 hd)) ca_X3 rfl rfl (Nat.le_of_ble_eq_true rfl) (by decide) (by decide) dX9_greatestPrincipal_83 ?_
  refine r_ifneB (pc := 86) (tgt := 100) C dX9_greatestPrincipal_86 rfl (fun c_86 => ?_) (fun c_86 => False.elim (by exact c_86 h2))
  refine r_iload (pc := 100) C 0 dX9_greatestPrincipal_100 rfl ?_
  refine r_xret ?_
  exact r_iret (pc := 102) C dX9_greatestPrincipal_102 ⟨rfl, rfl, rfl, rfl⟩ (by decide)

set_option maxHeartbeats 1000000 in
theorem q_greatestPrincipal__x3a {g : GG} {X : va_W} {T : TT} {I : II} {x : Nat} (hcl : isCl T x) {w : Nat → Int32} {B N E : Nat} {pm : Nat → Nat} (hV : DV I (x + 1) w B N E pm) (hN : w 2 = nI N) (hB : w 1 = nI B) {n : Nat} (n1 : n < B) {m : Nat} (m1 : m < 4) {u : Int32} (hu : okR 1 99 u) (h1 : gpM w m u < nI 1) : Mx g yX9_greatestPrincipal cX9_greatestPrincipal 7 (some .int) 8 1 6 [.ref x, .int (nI n), .int (nI m), .int u] X T I No (Th (exc 1) X T I) := by
  have hd := hcl.2.1
  have hB6 := hV.hB
  have hN10 := hV.hN
  have hE20 := hV.hE
  refine Mx.of (by decide) (Nat.le_of_ble_eq_true rfl) (fun k hfl hxt C => ?_)
  refine r_lo (lo' := [(0, _), (1, _), (2, _), (3, _)]) rfl ?_
  refine r_aload_n (pc := 0) C 0 dX9_greatestPrincipal_0 rfl rfl ?_
  refine r_iload_n (pc := 1) C 1 dX9_greatestPrincipal_1 rfl rfl ?_
  refine r_xV (pc := 2) C hfl hxt k_X9_170 (q_requireBorrower__v hcl hV hB n1) (fun _ _ _ _ h => h.elim) hcl.1 ca_X9 rfl rfl (Nat.le_of_ble_eq_true rfl) (by decide) (by decide) dX9_greatestPrincipal_2 (fun r2 X2 T2 I2 h2 => ?_)
  obtain ⟨rfl, rfl, rfl, rfl⟩ := h2
  refine r_st (st' := .ref _ :: _) rfl ?_
  refine r_astore (pc := 5) (lo' := [(4, _), (0, _), (1, _), (2, _), (3, _)]) C dX9_greatestPrincipal_5 (by decide) rfl ?_
  refine r_iload_n (pc := 7) C 3 dX9_greatestPrincipal_7 rfl rfl ?_
  refine r_xS (pc := 8) C hfl hxt k_X9_153 (q_requireKind__v m1) (fun _ _ _ _ h => h.elim) rfl rfl (Nat.le_of_ble_eq_true rfl) (by decide) (by decide) dX9_greatestPrincipal_8 (fun r2 X2 T2 I2 h2 => ?_)
  obtain ⟨rfl, rfl, rfl, rfl⟩ := h2
  refine r_iload_n (pc := 11) C 4 dX9_greatestPrincipal_11 rfl rfl ?_
  refine r_iconst (pc := 12) (v := 1) C dX9_greatestPrincipal_12 rfl ?_
  refine r_bipush (pc := 13) (v := 99) C dX9_greatestPrincipal_13 rfl ?_
  refine r_cSi (pc := 15) C hfl k_X9_264 c_X9_isWithin rfl rfl (Nat.le_of_ble_eq_true rfl) (by decide) (by decide) dX9_greatestPrincipal_15 ?_
  refine r_ifneB (pc := 18) (tgt := 32) C dX9_greatestPrincipal_18 rfl (fun c_18 => ?_) (fun c_18 => False.elim (by exact c_18 hu))
  refine r_iconst (pc := 32) (v := 2) C dX9_greatestPrincipal_32 rfl ?_
  refine r_iload_n (pc := 33) C 4 dX9_greatestPrincipal_33 rfl rfl ?_
  refine r_imul (pc := 34) C dX9_greatestPrincipal_34 ?_
  refine r_aload_n (pc := 35) C 1 dX9_greatestPrincipal_35 rfl rfl ?_
  refine r_getR (pc := 36) (x := x + 1) C f_X9_10 hcl.1 rfl rfl dX9_greatestPrincipal_36 ?_
  refine r_getR (pc := 39) (x := x + 1 + 1) C f_X9_157 ((Dk_0 hd)) rfl rfl dX9_greatestPrincipal_39 ?_
  refine r_iload_n (pc := 42) C 3 dX9_greatestPrincipal_42 rfl rfl ?_
  refine r_iald (pc := 43) (x := m) C ((Dk_1 hd)) rfl (by omega) (by decide) dX9_greatestPrincipal_43 ?_
  refine r_t (hV.get (at_pr (by omega))) ?_
  refine r_imul (pc := 44) C dX9_greatestPrincipal_44 ?_
  refine r_iconst (pc := 45) (v := 3) C dX9_greatestPrincipal_45 rfl ?_
  refine r_idiv (pc := 46) C dX9_greatestPrincipal_46 (by decide) ?_
  refine r_istore (pc := 47) (lo' := [(5, _), (4, _), (0, _), (1, _), (2, _), (3, _)]) C dX9_greatestPrincipal_47 (by decide) rfl ?_
  refine r_iload (pc := 49) C 0 dX9_greatestPrincipal_49 rfl ?_
  refine r_aload_n (pc := 51) C 2 dX9_greatestPrincipal_51 rfl rfl ?_
  refine r_getR (pc := 52) (x := x + 1) C f_X9_10 hcl.1 rfl rfl dX9_greatestPrincipal_52 ?_
  refine r_getI (pc := 55) C f_X9_161 ((Dk_0 hd)) rfl dX9_greatestPrincipal_55 ?_
  refine r_t (hV.get at_funds) ?_
  refine r_min (pc := 58) C k_X9_275 (Nat.le_of_ble_eq_true rfl) (by decide) dX9_greatestPrincipal_58 ?_
  refine r_sipush (pc := 61) (v := 500) C dX9_greatestPrincipal_61 rfl ?_
  refine r_min (pc := 64) C k_X9_275 (Nat.le_of_ble_eq_true rfl) (by decide) dX9_greatestPrincipal_64 ?_
  refine r_istore (pc := 67) (lo' := [(6, _), (5, _), (4, _), (0, _), (1, _), (2, _), (3, _)]) C dX9_greatestPrincipal_67 (by decide) rfl ?_
  refine r_iload (pc := 69) C 0 dX9_greatestPrincipal_69 rfl ?_
  refine r_iconst (pc := 71) (v := 1) C dX9_greatestPrincipal_71 rfl ?_
  refine r_clt (pc := 72) (tgt := 89) C dX9_greatestPrincipal_72 rfl (fun c_72 => ?_) (fun c_72 => False.elim (by exact c_72 h1))
  exact r_thrW (pc := 89) (tx := "no principal can be lent") (sa := 584) C hfl hxt ex_119 (by decide) (Nat.le_of_ble_eq_true rfl) (by decide) dX9_greatestPrincipal_89 dX9_greatestPrincipal_92 dX9_greatestPrincipal_93 dX9_greatestPrincipal_96 dX9_greatestPrincipal_99 ⟨rfl, rfl, rfl, rfl⟩

set_option maxHeartbeats 1000000 in
theorem q_greatestPrincipal__x3b {g : GG} {X : va_W} {T : TT} {I : II} {x : Nat} (hcl : isCl T x) {w : Nat → Int32} {B N E : Nat} {pm : Nat → Nat} (hV : DV I (x + 1) w B N E pm) (hN : w 2 = nI N) (hB : w 1 = nI B) {n : Nat} (n1 : n < B) {m : Nat} (m1 : m < 4) {u : Int32} (hu : okR 1 99 u) (h1 : ¬ gpM w m u < nI 1) (h2 : ¬ mayG w N n m u) : Mx g yX9_greatestPrincipal cX9_greatestPrincipal 7 (some .int) 8 1 6 [.ref x, .int (nI n), .int (nI m), .int u] X T I No (Th (exc 1) X T I) := by
  have hd := hcl.2.1
  have hB6 := hV.hB
  have hN10 := hV.hN
  have hE20 := hV.hE
  refine Mx.of (by decide) (Nat.le_of_ble_eq_true rfl) (fun k hfl hxt C => ?_)
  refine r_lo (lo' := [(0, _), (1, _), (2, _), (3, _)]) rfl ?_
  refine r_aload_n (pc := 0) C 0 dX9_greatestPrincipal_0 rfl rfl ?_
  refine r_iload_n (pc := 1) C 1 dX9_greatestPrincipal_1 rfl rfl ?_
  refine r_xV (pc := 2) C hfl hxt k_X9_170 (q_requireBorrower__v hcl hV hB n1) (fun _ _ _ _ h => h.elim) hcl.1 ca_X9 rfl rfl (Nat.le_of_ble_eq_true rfl) (by decide) (by decide) dX9_greatestPrincipal_2 (fun r2 X2 T2 I2 h2 => ?_)
  obtain ⟨rfl, rfl, rfl, rfl⟩ := h2
  refine r_st (st' := .ref _ :: _) rfl ?_
  refine r_astore (pc := 5) (lo' := [(4, _), (0, _), (1, _), (2, _), (3, _)]) C dX9_greatestPrincipal_5 (by decide) rfl ?_
  refine r_iload_n (pc := 7) C 3 dX9_greatestPrincipal_7 rfl rfl ?_
  refine r_xS (pc := 8) C hfl hxt k_X9_153 (q_requireKind__v m1) (fun _ _ _ _ h => h.elim) rfl rfl (Nat.le_of_ble_eq_true rfl) (by decide) (by decide) dX9_greatestPrincipal_8 (fun r2 X2 T2 I2 h2 => ?_)
  obtain ⟨rfl, rfl, rfl, rfl⟩ := h2
  refine r_iload_n (pc := 11) C 4 dX9_greatestPrincipal_11 rfl rfl ?_
  refine r_iconst (pc := 12) (v := 1) C dX9_greatestPrincipal_12 rfl ?_
  refine r_bipush (pc := 13) (v := 99) C dX9_greatestPrincipal_13 rfl ?_
  refine r_cSi (pc := 15) C hfl k_X9_264 c_X9_isWithin rfl rfl (Nat.le_of_ble_eq_true rfl) (by decide) (by decide) dX9_greatestPrincipal_15 ?_
  refine r_ifneB (pc := 18) (tgt := 32) C dX9_greatestPrincipal_18 rfl (fun c_18 => ?_) (fun c_18 => False.elim (by exact c_18 hu))
  refine r_iconst (pc := 32) (v := 2) C dX9_greatestPrincipal_32 rfl ?_
  refine r_iload_n (pc := 33) C 4 dX9_greatestPrincipal_33 rfl rfl ?_
  refine r_imul (pc := 34) C dX9_greatestPrincipal_34 ?_
  refine r_aload_n (pc := 35) C 1 dX9_greatestPrincipal_35 rfl rfl ?_
  refine r_getR (pc := 36) (x := x + 1) C f_X9_10 hcl.1 rfl rfl dX9_greatestPrincipal_36 ?_
  refine r_getR (pc := 39) (x := x + 1 + 1) C f_X9_157 ((Dk_0 hd)) rfl rfl dX9_greatestPrincipal_39 ?_
  refine r_iload_n (pc := 42) C 3 dX9_greatestPrincipal_42 rfl rfl ?_
  refine r_iald (pc := 43) (x := m) C ((Dk_1 hd)) rfl (by omega) (by decide) dX9_greatestPrincipal_43 ?_
  refine r_t (hV.get (at_pr (by omega))) ?_
  refine r_imul (pc := 44) C dX9_greatestPrincipal_44 ?_
  refine r_iconst (pc := 45) (v := 3) C dX9_greatestPrincipal_45 rfl ?_
  refine r_idiv (pc := 46) C dX9_greatestPrincipal_46 (by decide) ?_
  refine r_istore (pc := 47) (lo' := [(5, _), (4, _), (0, _), (1, _), (2, _), (3, _)]) C dX9_greatestPrincipal_47 (by decide) rfl ?_
  refine r_iload (pc := 49) C 0 dX9_greatestPrincipal_49 rfl ?_
  refine r_aload_n (pc := 51) C 2 dX9_greatestPrincipal_51 rfl rfl ?_
  refine r_getR (pc := 52) (x := x + 1) C f_X9_10 hcl.1 rfl rfl dX9_greatestPrincipal_52 ?_
  refine r_getI (pc := 55) C f_X9_161 ((Dk_0 hd)) rfl dX9_greatestPrincipal_55 ?_
  refine r_t (hV.get at_funds) ?_
  refine r_min (pc := 58) C k_X9_275 (Nat.le_of_ble_eq_true rfl) (by decide) dX9_greatestPrincipal_58 ?_
  refine r_sipush (pc := 61) (v := 500) C dX9_greatestPrincipal_61 rfl ?_
  refine r_min (pc := 64) C k_X9_275 (Nat.le_of_ble_eq_true rfl) (by decide) dX9_greatestPrincipal_64 ?_
  refine r_istore (pc := 67) (lo' := [(6, _), (5, _), (4, _), (0, _), (1, _), (2, _), (3, _)]) C dX9_greatestPrincipal_67 (by decide) rfl ?_
  refine r_iload (pc := 69) C 0 dX9_greatestPrincipal_69 rfl ?_
  refine r_iconst (pc := 71) (v := 1) C dX9_greatestPrincipal_71 rfl ?_
  refine r_clt (pc := 72) (tgt := 89) C dX9_greatestPrincipal_72 rfl (fun c_72 => False.elim (by exact h1 c_72)) (fun c_72 => ?_)
  refine r_aload_n (pc := 75) C 3 dX9_greatestPrincipal_75 rfl rfl ?_
  refine r_getR (pc := 76) (x := x + 1) C f_X9_10 hcl.1 rfl rfl dX9_greatestPrincipal_76 ?_
  refine r_aload (pc := 79) C 2 dX9_greatestPrincipal_79 rfl ?_
  refine r_iload_n (pc := 81) C 5 dX9_greatestPrincipal_81 rfl rfl ?_
  refine r_iload_n (pc := 82) C 6 dX9_greatestPrincipal_82 rfl rfl ?_
  refine r_cVi (pc := 83) C hfl k_X9_280 (c_X3_mayPledgeForLoan hd hV hN n1 m1) ((Dk_0 hd)) ca_X3 rfl rfl (Nat.le_of_ble_eq_true rfl) (by decide) (by decide) dX9_greatestPrincipal_83 ?_
  refine r_ifneB (pc := 86) (tgt := 100) C dX9_greatestPrincipal_86 rfl (fun c_86 => False.elim (by exact h2 c_86)) (fun c_86 => ?_)
  exact r_thrW (pc := 89) (tx := "no principal can be lent") (sa := 584) C hfl hxt ex_119 (by decide) (Nat.le_of_ble_eq_true rfl) (by decide) dX9_greatestPrincipal_89 dX9_greatestPrincipal_92 dX9_greatestPrincipal_93 dX9_greatestPrincipal_96 dX9_greatestPrincipal_99 ⟨rfl, rfl, rfl, rfl⟩

set_option maxHeartbeats 1000000 in
theorem q_greatestPrincipal__xu {g : GG} {X : va_W} {T : TT} {I : II} {x : Nat} (hcl : isCl T x) {w : Nat → Int32} {B N E : Nat} {pm : Nat → Nat} (hV : DV I (x + 1) w B N E pm) (hB : w 1 = nI B) {n : Nat} (n1 : n < B) {m : Nat} (m1 : m < 4) {u : Int32} (hu : ¬ okR 1 99 u) : Mx g yX9_greatestPrincipal cX9_greatestPrincipal 7 (some .int) 8 1 6 [.ref x, .int (nI n), .int (nI m), .int u] X T I No (Th (exc 3) X T I) := by
  have hd := hcl.2.1
  have hB6 := hV.hB
  have hN10 := hV.hN
  have hE20 := hV.hE
  refine Mx.of (by decide) (Nat.le_of_ble_eq_true rfl) (fun k hfl hxt C => ?_)
  refine r_lo (lo' := [(0, _), (1, _), (2, _), (3, _)]) rfl ?_
  refine r_aload_n (pc := 0) C 0 dX9_greatestPrincipal_0 rfl rfl ?_
  refine r_iload_n (pc := 1) C 1 dX9_greatestPrincipal_1 rfl rfl ?_
  refine r_xV (pc := 2) C hfl hxt k_X9_170 (q_requireBorrower__v hcl hV hB n1) (fun _ _ _ _ h => h.elim) hcl.1 ca_X9 rfl rfl (Nat.le_of_ble_eq_true rfl) (by decide) (by decide) dX9_greatestPrincipal_2 (fun r2 X2 T2 I2 h2 => ?_)
  obtain ⟨rfl, rfl, rfl, rfl⟩ := h2
  refine r_st (st' := .ref _ :: _) rfl ?_
  refine r_astore (pc := 5) (lo' := [(4, _), (0, _), (1, _), (2, _), (3, _)]) C dX9_greatestPrincipal_5 (by decide) rfl ?_
  refine r_iload_n (pc := 7) C 3 dX9_greatestPrincipal_7 rfl rfl ?_
  refine r_xS (pc := 8) C hfl hxt k_X9_153 (q_requireKind__v m1) (fun _ _ _ _ h => h.elim) rfl rfl (Nat.le_of_ble_eq_true rfl) (by decide) (by decide) dX9_greatestPrincipal_8 (fun r2 X2 T2 I2 h2 => ?_)
  obtain ⟨rfl, rfl, rfl, rfl⟩ := h2
  refine r_iload_n (pc := 11) C 4 dX9_greatestPrincipal_11 rfl rfl ?_
  refine r_iconst (pc := 12) (v := 1) C dX9_greatestPrincipal_12 rfl ?_
  refine r_bipush (pc := 13) (v := 99) C dX9_greatestPrincipal_13 rfl ?_
  refine r_cSi (pc := 15) C hfl k_X9_264 c_X9_isWithin rfl rfl (Nat.le_of_ble_eq_true rfl) (by decide) (by decide) dX9_greatestPrincipal_15 ?_
  refine r_ifneB (pc := 18) (tgt := 32) C dX9_greatestPrincipal_18 rfl (fun c_18 => False.elim (by exact hu c_18)) (fun c_18 => ?_)
  exact r_thrW (pc := 21) (tx := "the number of units is out of range") (sa := 573) C hfl hxt ex_137 (by decide) (Nat.le_of_ble_eq_true rfl) (by decide) dX9_greatestPrincipal_21 dX9_greatestPrincipal_24 dX9_greatestPrincipal_25 dX9_greatestPrincipal_28 dX9_greatestPrincipal_31 ⟨rfl, rfl, rfl, rfl⟩

set_option maxHeartbeats 1000000 in
theorem q_greatestPrincipal__xb {g : GG} {X : va_W} {T : TT} {I : II} {x : Nat} (hcl : isCl T x) {w : Nat → Int32} {B N E : Nat} {pm : Nat → Nat} (hV : DV I (x + 1) w B N E pm) (hB : w 1 = nI B) {n_ : Int32} (hx : ¬ okB B n_) {k_ u : Int32} : Mx g yX9_greatestPrincipal cX9_greatestPrincipal 7 (some .int) 8 1 6 [.ref x, .int n_, .int k_, .int u] X T I No (Th (exc 2) X T I) := by
  have hd := hcl.2.1
  have hB6 := hV.hB
  have hN10 := hV.hN
  have hE20 := hV.hE
  refine Mx.of (by decide) (Nat.le_of_ble_eq_true rfl) (fun k hfl hxt C => ?_)
  refine r_lo (lo' := [(0, _), (1, _), (2, _), (3, _)]) rfl ?_
  refine r_aload_n (pc := 0) C 0 dX9_greatestPrincipal_0 rfl rfl ?_
  refine r_iload_n (pc := 1) C 1 dX9_greatestPrincipal_1 rfl rfl ?_
  refine r_xV (pc := 2) C hfl hxt k_X9_170 (q_requireBorrower__x hcl hV hB hx) (fun _ _ _ _ h => h) hcl.1 ca_X9 rfl rfl (Nat.le_of_ble_eq_true rfl) (by decide) (by decide) dX9_greatestPrincipal_2 (fun r2 X2 T2 I2 h2 => ?_)
  exact h2.elim

set_option maxHeartbeats 1000000 in
theorem q_greatestPrincipal__xk {g : GG} {X : va_W} {T : TT} {I : II} {x : Nat} (hcl : isCl T x) {w : Nat → Int32} {B N E : Nat} {pm : Nat → Nat} (hV : DV I (x + 1) w B N E pm) (hB : w 1 = nI B) {n : Nat} (n1 : n < B) {k_ u : Int32} (hk : ¬ okK k_) : Mx g yX9_greatestPrincipal cX9_greatestPrincipal 7 (some .int) 8 1 6 [.ref x, .int (nI n), .int k_, .int u] X T I No (Th (exc 2) X T I) := by
  have hd := hcl.2.1
  have hB6 := hV.hB
  have hN10 := hV.hN
  have hE20 := hV.hE
  refine Mx.of (by decide) (Nat.le_of_ble_eq_true rfl) (fun k hfl hxt C => ?_)
  refine r_lo (lo' := [(0, _), (1, _), (2, _), (3, _)]) rfl ?_
  refine r_aload_n (pc := 0) C 0 dX9_greatestPrincipal_0 rfl rfl ?_
  refine r_iload_n (pc := 1) C 1 dX9_greatestPrincipal_1 rfl rfl ?_
  refine r_xV (pc := 2) C hfl hxt k_X9_170 (q_requireBorrower__v hcl hV hB n1) (fun _ _ _ _ h => h.elim) hcl.1 ca_X9 rfl rfl (Nat.le_of_ble_eq_true rfl) (by decide) (by decide) dX9_greatestPrincipal_2 (fun r2 X2 T2 I2 h2 => ?_)
  obtain ⟨rfl, rfl, rfl, rfl⟩ := h2
  refine r_st (st' := .ref _ :: _) rfl ?_
  refine r_astore (pc := 5) (lo' := [(4, _), (0, _), (1, _), (2, _), (3, _)]) C dX9_greatestPrincipal_5 (by decide) rfl ?_
  refine r_iload_n (pc := 7) C 3 dX9_greatestPrincipal_7 rfl rfl ?_
  refine r_xS (pc := 8) C hfl hxt k_X9_153 (q_requireKind__x hk) (fun _ _ _ _ h => h) rfl rfl (Nat.le_of_ble_eq_true rfl) (by decide) (by decide) dX9_greatestPrincipal_8 (fun r2 X2 T2 I2 h2 => ?_)
  exact h2.elim

set_option maxHeartbeats 1000000 in
theorem q_wealth__v {g : GG} {X : va_W} {T : TT} {I : II} {x : Nat} (hcl : isCl T x) {w : Nat → Int32} {B N E : Nat} {pm : Nat → Nat} (hV : DV I (x + 1) w B N E pm) (hN : w 2 = nI N) (hB : w 1 = nI B) {n : Nat} (n1 : n < B) : Mx g yX9_wealth cX9_wealth 5 (some .int) 8 0 0 [.ref x, .int (nI n)] X T I (Ex (some (.int (wlV w N n))) X T I) NoX := by
  have hd := hcl.2.1
  have hB6 := hV.hB
  have hN10 := hV.hN
  have hE20 := hV.hE
  refine Mx.of (by decide) (Nat.le_of_ble_eq_true rfl) (fun k hfl hxt C => ?_)
  refine r_lo (lo' := [(0, _), (1, _)]) rfl ?_
  refine r_aload_n (pc := 0) C 0 dX9_wealth_0 rfl rfl ?_
  refine r_iload_n (pc := 1) C 1 dX9_wealth_1 rfl rfl ?_
  refine r_xV (pc := 2) C hfl hxt k_X9_170 (q_requireBorrower__v hcl hV hB n1) (fun _ _ _ _ h => h.elim) hcl.1 ca_X9 rfl rfl (Nat.le_of_ble_eq_true rfl) (by decide) (by decide) dX9_wealth_2 (fun r2 X2 T2 I2 h2 => ?_)
  obtain ⟨rfl, rfl, rfl, rfl⟩ := h2
  refine r_st (st' := .ref _ :: _) rfl ?_
  refine r_astore_n (pc := 5) (lo' := [(2, _), (0, _), (1, _)]) C dX9_wealth_5 rfl (by decide) rfl ?_
  refine r_aload_n (pc := 6) C 0 dX9_wealth_6 rfl rfl ?_
  refine r_getI (pc := 7) C f_X9_174 ((Dk_b hd (by omega))) rfl dX9_wealth_7 ?_
  refine r_t (hV.get (at_purse n1)) ?_
  refine r_aload_n (pc := 10) C 1 dX9_wealth_10 rfl rfl ?_
  refine r_getR (pc := 11) (x := x + 1) C f_X9_10 hcl.1 rfl rfl dX9_wealth_11 ?_
  refine r_iload_n (pc := 14) C 2 dX9_wealth_14 rfl rfl ?_
  refine r_cVi (pc := 15) C hfl k_X9_197 (c_X3_owedBy hd hV hN) ((Dk_0 hd)) ca_X3 rfl rfl (Nat.le_of_ble_eq_true rfl) (by decide) (by decide) dX9_wealth_15 ?_
  refine r_isub (pc := 18) C dX9_wealth_18 ?_
  refine r_istore_n (pc := 19) (lo' := [(3, _), (2, _), (0, _), (1, _)]) C dX9_wealth_19 rfl (by decide) rfl ?_
  refine r_iconst (pc := 20) (v := 0) C dX9_wealth_20 rfl ?_
  refine r_istore (pc := 21) (lo' := [(4, _), (3, _), (2, _), (0, _), (1, _)]) C dX9_wealth_21 (by decide) rfl ?_
  refine r_iload (pc := 23) C 0 dX9_wealth_23 rfl ?_
  refine r_iconst (pc := 25) (v := 4) C dX9_wealth_25 rfl ?_
  refine r_cgeN (pc := 26) (tgt := 67) C dX9_wealth_26 rfl (by omega) (by omega) (fun c_26 => False.elim (by omega)) (fun c_26 => ?_)
  refine r_iload_n (pc := 29) C 1 dX9_wealth_29 rfl rfl ?_
  refine r_aload_n (pc := 30) C 2 dX9_wealth_30 rfl rfl ?_
  refine r_getR (pc := 31) (x := x + 1 + 10 + 2 * n + 1) C f_X9_179 ((Dk_b hd (by omega))) rfl rfl dX9_wealth_31 ?_
  refine r_iload (pc := 34) C 0 dX9_wealth_34 rfl ?_
  refine r_iald (pc := 36) (x := 0) C ((Dk_g hd (by omega))) rfl (by omega) (by decide) dX9_wealth_36 ?_
  refine r_t (hV.get (at_goods n1 (by omega))) ?_
  refine r_aload_n (pc := 37) C 3 dX9_wealth_37 rfl rfl ?_
  refine r_getR (pc := 38) (x := x + 1) C f_X9_10 hcl.1 rfl rfl dX9_wealth_38 ?_
  refine r_iload_n (pc := 41) C 4 dX9_wealth_41 rfl rfl ?_
  refine r_iload (pc := 42) C 0 dX9_wealth_42 rfl ?_
  refine r_cVi (pc := 44) C hfl k_X9_182 (c_X3_pledgedBy hd hV (by decide) hN) ((Dk_0 hd)) ca_X3 rfl rfl (Nat.le_of_ble_eq_true rfl) (by decide) (by decide) dX9_wealth_44 ?_
  refine r_iadd (pc := 47) C dX9_wealth_47 ?_
  refine r_aload_n (pc := 48) C 3 dX9_wealth_48 rfl rfl ?_
  refine r_getR (pc := 49) (x := x + 1) C f_X9_10 hcl.1 rfl rfl dX9_wealth_49 ?_
  refine r_getR (pc := 52) (x := x + 1 + 1) C f_X9_157 ((Dk_0 hd)) rfl rfl dX9_wealth_52 ?_
  refine r_iload (pc := 55) C 0 dX9_wealth_55 rfl ?_
  refine r_iald (pc := 57) (x := 0) C ((Dk_1 hd)) rfl (by omega) (by decide) dX9_wealth_57 ?_
  refine r_t (hV.get (at_pr (by omega))) ?_
  refine r_imul (pc := 58) C dX9_wealth_58 ?_
  refine r_iadd (pc := 59) C dX9_wealth_59 ?_
  refine r_istore_n (pc := 60) (lo' := [(3, _), (4, _), (2, _), (0, _), (1, _)]) C dX9_wealth_60 rfl (by decide) rfl ?_
  refine r_iincN (pc := 61) (m := 1) (lo' := [(4, _), (3, _), (2, _), (0, _), (1, _)]) C 1 dX9_wealth_61 rfl rfl (by decide) rfl ?_
  refine r_goto (pc := 64) (tgt := 23) C dX9_wealth_64 rfl ?_
  refine r_iload (pc := 23) C 0 dX9_wealth_23 rfl ?_
  refine r_iconst (pc := 25) (v := 4) C dX9_wealth_25 rfl ?_
  refine r_cgeN (pc := 26) (tgt := 67) C dX9_wealth_26 rfl (by omega) (by omega) (fun c_26 => False.elim (by omega)) (fun c_26 => ?_)
  refine r_iload_n (pc := 29) C 1 dX9_wealth_29 rfl rfl ?_
  refine r_aload_n (pc := 30) C 2 dX9_wealth_30 rfl rfl ?_
  refine r_getR (pc := 31) (x := x + 1 + 10 + 2 * n + 1) C f_X9_179 ((Dk_b hd (by omega))) rfl rfl dX9_wealth_31 ?_
  refine r_iload (pc := 34) C 0 dX9_wealth_34 rfl ?_
  refine r_iald (pc := 36) (x := 0 + 1) C ((Dk_g hd (by omega))) rfl (by omega) (by decide) dX9_wealth_36 ?_
  refine r_t (hV.get (at_goods n1 (by omega))) ?_
  refine r_aload_n (pc := 37) C 3 dX9_wealth_37 rfl rfl ?_
  refine r_getR (pc := 38) (x := x + 1) C f_X9_10 hcl.1 rfl rfl dX9_wealth_38 ?_
  refine r_iload_n (pc := 41) C 4 dX9_wealth_41 rfl rfl ?_
  refine r_iload (pc := 42) C 0 dX9_wealth_42 rfl ?_
  refine r_cVi (pc := 44) C hfl k_X9_182 (c_X3_pledgedBy hd hV (by decide) hN) ((Dk_0 hd)) ca_X3 rfl rfl (Nat.le_of_ble_eq_true rfl) (by decide) (by decide) dX9_wealth_44 ?_
  refine r_iadd (pc := 47) C dX9_wealth_47 ?_
  refine r_aload_n (pc := 48) C 3 dX9_wealth_48 rfl rfl ?_
  refine r_getR (pc := 49) (x := x + 1) C f_X9_10 hcl.1 rfl rfl dX9_wealth_49 ?_
  refine r_getR (pc := 52) (x := x + 1 + 1) C f_X9_157 ((Dk_0 hd)) rfl rfl dX9_wealth_52 ?_
  refine r_iload (pc := 55) C 0 dX9_wealth_55 rfl ?_
  refine r_iald (pc := 57) (x := 0 + 1) C ((Dk_1 hd)) rfl (by omega) (by decide) dX9_wealth_57 ?_
  refine r_t (hV.get (at_pr (by omega))) ?_
  refine r_imul (pc := 58) C dX9_wealth_58 ?_
  refine r_iadd (pc := 59) C dX9_wealth_59 ?_
  refine r_istore_n (pc := 60) (lo' := [(3, _), (4, _), (2, _), (0, _), (1, _)]) C dX9_wealth_60 rfl (by decide) rfl ?_
  refine r_iincN (pc := 61) (m := 1) (lo' := [(4, _), (3, _), (2, _), (0, _), (1, _)]) C 1 dX9_wealth_61 rfl rfl (by decide) rfl ?_
  refine r_goto (pc := 64) (tgt := 23) C dX9_wealth_64 rfl ?_
  refine r_iload (pc := 23) C 0 dX9_wealth_23 rfl ?_
  refine r_iconst (pc := 25) (v := 4) C dX9_wealth_25 rfl ?_
  refine r_cgeN (pc := 26) (tgt := 67) C dX9_wealth_26 rfl (by omega) (by omega) (fun c_26 => False.elim (by omega)) (fun c_26 => ?_)
  refine r_iload_n (pc := 29) C 1 dX9_wealth_29 rfl rfl ?_
  refine r_aload_n (pc := 30) C 2 dX9_wealth_30 rfl rfl ?_
  refine r_getR (pc := 31) (x := x + 1 + 10 + 2 * n + 1) C f_X9_179 ((Dk_b hd (by omega))) rfl rfl dX9_wealth_31 ?_
  refine r_iload (pc := 34) C 0 dX9_wealth_34 rfl ?_
  refine r_iald (pc := 36) (x := 0 + 1 + 1) C ((Dk_g hd (by omega))) rfl (by omega) (by decide) dX9_wealth_36 ?_
  refine r_t (hV.get (at_goods n1 (by omega))) ?_
  refine r_aload_n (pc := 37) C 3 dX9_wealth_37 rfl rfl ?_
  refine r_getR (pc := 38) (x := x + 1) C f_X9_10 hcl.1 rfl rfl dX9_wealth_38 ?_
  refine r_iload_n (pc := 41) C 4 dX9_wealth_41 rfl rfl ?_
  refine r_iload (pc := 42) C 0 dX9_wealth_42 rfl ?_
  refine r_cVi (pc := 44) C hfl k_X9_182 (c_X3_pledgedBy hd hV (by decide) hN) ((Dk_0 hd)) ca_X3 rfl rfl (Nat.le_of_ble_eq_true rfl) (by decide) (by decide) dX9_wealth_44 ?_
  refine r_iadd (pc := 47) C dX9_wealth_47 ?_
  refine r_aload_n (pc := 48) C 3 dX9_wealth_48 rfl rfl ?_
  refine r_getR (pc := 49) (x := x + 1) C f_X9_10 hcl.1 rfl rfl dX9_wealth_49 ?_
  refine r_getR (pc := 52) (x := x + 1 + 1) C f_X9_157 ((Dk_0 hd)) rfl rfl dX9_wealth_52 ?_
  refine r_iload (pc := 55) C 0 dX9_wealth_55 rfl ?_
  refine r_iald (pc := 57) (x := 0 + 1 + 1) C ((Dk_1 hd)) rfl (by omega) (by decide) dX9_wealth_57 ?_
  refine r_t (hV.get (at_pr (by omega))) ?_
  refine r_imul (pc := 58) C dX9_wealth_58 ?_
  refine r_iadd (pc := 59) C dX9_wealth_59 ?_
  refine r_istore_n (pc := 60) (lo' := [(3, _), (4, _), (2, _), (0, _), (1, _)]) C dX9_wealth_60 rfl (by decide) rfl ?_
  refine r_iincN (pc := 61) (m := 1) (lo' := [(4, _), (3, _), (2, _), (0, _), (1, _)]) C 1 dX9_wealth_61 rfl rfl (by decide) rfl ?_
  refine r_goto (pc := 64) (tgt := 23) C dX9_wealth_64 rfl ?_
  refine r_iload (pc := 23) C 0 dX9_wealth_23 rfl ?_
  refine r_iconst (pc := 25) (v := 4) C dX9_wealth_25 rfl ?_
  refine r_cgeN (pc := 26) (tgt := 67) C dX9_wealth_26 rfl (by omega) (by omega) (fun c_26 => False.elim (by omega)) (fun c_26 => ?_)
  refine r_iload_n (pc := 29) C 1 dX9_wealth_29 rfl rfl ?_
  refine r_aload_n (pc := 30) C 2 dX9_wealth_30 rfl rfl ?_
  refine r_getR (pc := 31) (x := x + 1 + 10 + 2 * n + 1) C f_X9_179 ((Dk_b hd (by omega))) rfl rfl dX9_wealth_31 ?_
  refine r_iload (pc := 34) C 0 dX9_wealth_34 rfl ?_
  refine r_iald (pc := 36) (x := 0 + 1 + 1 + 1) C ((Dk_g hd (by omega))) rfl (by omega) (by decide) dX9_wealth_36 ?_
  refine r_t (hV.get (at_goods n1 (by omega))) ?_
  refine r_aload_n (pc := 37) C 3 dX9_wealth_37 rfl rfl ?_
  refine r_getR (pc := 38) (x := x + 1) C f_X9_10 hcl.1 rfl rfl dX9_wealth_38 ?_
  refine r_iload_n (pc := 41) C 4 dX9_wealth_41 rfl rfl ?_
  refine r_iload (pc := 42) C 0 dX9_wealth_42 rfl ?_
  refine r_cVi (pc := 44) C hfl k_X9_182 (c_X3_pledgedBy hd hV (by decide) hN) ((Dk_0 hd)) ca_X3 rfl rfl (Nat.le_of_ble_eq_true rfl) (by decide) (by decide) dX9_wealth_44 ?_
  refine r_iadd (pc := 47) C dX9_wealth_47 ?_
  refine r_aload_n (pc := 48) C 3 dX9_wealth_48 rfl rfl ?_
  refine r_getR (pc := 49) (x := x + 1) C f_X9_10 hcl.1 rfl rfl dX9_wealth_49 ?_
  refine r_getR (pc := 52) (x := x + 1 + 1) C f_X9_157 ((Dk_0 hd)) rfl rfl dX9_wealth_52 ?_
  refine r_iload (pc := 55) C 0 dX9_wealth_55 rfl ?_
  refine r_iald (pc := 57) (x := 0 + 1 + 1 + 1) C ((Dk_1 hd)) rfl (by omega) (by decide) dX9_wealth_57 ?_
  refine r_t (hV.get (at_pr (by omega))) ?_
  refine r_imul (pc := 58) C dX9_wealth_58 ?_
  refine r_iadd (pc := 59) C dX9_wealth_59 ?_
  refine r_istore_n (pc := 60) (lo' := [(3, _), (4, _), (2, _), (0, _), (1, _)]) C dX9_wealth_60 rfl (by decide) rfl ?_
  refine r_iincN (pc := 61) (m := 1) (lo' := [(4, _), (3, _), (2, _), (0, _), (1, _)]) C 1 dX9_wealth_61 rfl rfl (by decide) rfl ?_
  refine r_goto (pc := 64) (tgt := 23) C dX9_wealth_64 rfl ?_
  refine r_iload (pc := 23) C 0 dX9_wealth_23 rfl ?_
  refine r_iconst (pc := 25) (v := 4) C dX9_wealth_25 rfl ?_
  refine r_cgeN (pc := 26) (tgt := 67) C dX9_wealth_26 rfl (by omega) (by omega) (fun c_26 => ?_) (fun c_26 => False.elim (by omega))
  refine r_iload_n (pc := 67) C 1 dX9_wealth_67 rfl rfl ?_
  refine r_xret ?_
  exact r_iret (pc := 68) C dX9_wealth_68 ⟨rfl, rfl, rfl, rfl⟩ (by decide)

set_option maxHeartbeats 1000000 in
theorem q_wealth__x {g : GG} {X : va_W} {T : TT} {I : II} {x : Nat} (hcl : isCl T x) {w : Nat → Int32} {B N E : Nat} {pm : Nat → Nat} (hV : DV I (x + 1) w B N E pm) (hB : w 1 = nI B) {n_ : Int32} (hx : ¬ okB B n_) : Mx g yX9_wealth cX9_wealth 5 (some .int) 8 1 6 [.ref x, .int n_] X T I No (Th (exc 2) X T I) := by
  have hd := hcl.2.1
  have hB6 := hV.hB
  have hN10 := hV.hN
  have hE20 := hV.hE
  refine Mx.of (by decide) (Nat.le_of_ble_eq_true rfl) (fun k hfl hxt C => ?_)
  refine r_lo (lo' := [(0, _), (1, _)]) rfl ?_
  refine r_aload_n (pc := 0) C 0 dX9_wealth_0 rfl rfl ?_
  refine r_iload_n (pc := 1) C 1 dX9_wealth_1 rfl rfl ?_
  refine r_xV (pc := 2) C hfl hxt k_X9_170 (q_requireBorrower__x hcl hV hB hx) (fun _ _ _ _ h => h) hcl.1 ca_X9 rfl rfl (Nat.le_of_ble_eq_true rfl) (by decide) (by decide) dX9_wealth_2 (fun r2 X2 T2 I2 h2 => ?_)
  exact h2.elim

set_option maxHeartbeats 1000000 in
theorem q_meanDebt__v {g : GG} {X : va_W} {T : TT} {I : II} {x : Nat} (hcl : isCl T x) {w : Nat → Int32} {B N E : Nat} {pm : Nat → Nat} (hV : DV I (x + 1) w B N E pm) (hN : w 2 = nI N) (h0 : 0 < N) : Mx g yX9_meanDebt cX9_meanDebt 1 (some .double) 8 0 0 [.ref x] X T I (Ex (some (.double (dqV (debtsAllV w N) (nI N)))) X T I) NoX := by
  have hd := hcl.2.1
  have hB6 := hV.hB
  have hN10 := hV.hN
  have hE20 := hV.hE
  refine Mx.of (by decide) (Nat.le_of_ble_eq_true rfl) (fun k hfl hxt C => ?_)
  refine r_lo (lo' := [(0, _)]) rfl ?_
  refine r_aload_n (pc := 0) C 0 dX9_meanDebt_0 rfl rfl ?_
  refine r_getR (pc := 1) (x := x + 1) C f_X9_10 hcl.1 rfl rfl dX9_meanDebt_1 ?_
  refine r_getI (pc := 4) C f_X9_200 ((Dk_0 hd)) rfl dX9_meanDebt_4 ?_
  refine r_t (hV.get at_loanTotal) ?_
  refine r_t (y := nI N) hN ?_
  refine r_ifneN (pc := 7) (tgt := 21) C dX9_meanDebt_7 rfl (by omega) (fun c_7 => ?_) (fun c_7 => False.elim (by omega))
  refine r_aload_n (pc := 21) C 0 dX9_meanDebt_21 rfl rfl ?_
  refine r_getR (pc := 22) (x := x + 1) C f_X9_10 hcl.1 rfl rfl dX9_meanDebt_22 ?_
  refine r_cVi (pc := 25) C hfl k_X9_344 (c_X3_allDebts hd hV hN) ((Dk_0 hd)) ca_X3 rfl rfl (Nat.le_of_ble_eq_true rfl) (by decide) (by decide) dX9_meanDebt_25 ?_
  refine r_i2d (pc := 28) C dX9_meanDebt_28 ?_
  refine r_aload_n (pc := 29) C 0 dX9_meanDebt_29 rfl rfl ?_
  refine r_getR (pc := 30) (x := x + 1) C f_X9_10 hcl.1 rfl rfl dX9_meanDebt_30 ?_
  refine r_getI (pc := 33) C f_X9_200 ((Dk_0 hd)) rfl dX9_meanDebt_33 ?_
  refine r_t (hV.get at_loanTotal) ?_
  refine r_t (y := nI N) hN ?_
  refine r_i2d (pc := 36) C dX9_meanDebt_36 ?_
  refine r_ddiv (pc := 37) C dX9_meanDebt_37 (dq_n (nI_i0 h0 (by omega))) ?_
  refine r_xret ?_
  exact r_dret (pc := 38) C dX9_meanDebt_38 ⟨rfl, rfl, rfl, rfl⟩ (by decide)

set_option maxHeartbeats 1000000 in
theorem q_meanDebt__x {g : GG} {X : va_W} {T : TT} {I : II} {x : Nat} (hcl : isCl T x) {w : Nat → Int32} {B N E : Nat} {pm : Nat → Nat} (hV : DV I (x + 1) w B N E pm) (hN : w 2 = nI 0) : Mx g yX9_meanDebt cX9_meanDebt 1 (some .double) 8 1 6 [.ref x] X T I No (Th (exc 5) X T I) := by
  have hd := hcl.2.1
  have hB6 := hV.hB
  have hN10 := hV.hN
  have hE20 := hV.hE
  refine Mx.of (by decide) (Nat.le_of_ble_eq_true rfl) (fun k hfl hxt C => ?_)
  refine r_lo (lo' := [(0, _)]) rfl ?_
  refine r_aload_n (pc := 0) C 0 dX9_meanDebt_0 rfl rfl ?_
  refine r_getR (pc := 1) (x := x + 1) C f_X9_10 hcl.1 rfl rfl dX9_meanDebt_1 ?_
  refine r_getI (pc := 4) C f_X9_200 ((Dk_0 hd)) rfl dX9_meanDebt_4 ?_
  refine r_t (hV.get at_loanTotal) ?_
  refine r_t (y := nI 0) hN ?_
  refine r_ifneN (pc := 7) (tgt := 21) C dX9_meanDebt_7 rfl (by omega) (fun c_7 => False.elim (by omega)) (fun c_7 => ?_)
  exact r_thrW (pc := 10) (tx := "there are no loans") (sa := 590) C hfl hxt ex_341 (by decide) (Nat.le_of_ble_eq_true rfl) (by decide) dX9_meanDebt_10 dX9_meanDebt_13 dX9_meanDebt_14 dX9_meanDebt_17 dX9_meanDebt_20 ⟨rfl, rfl, rfl, rfl⟩

set_option maxHeartbeats 1000000 in
theorem q_defaultShare__v {g : GG} {X : va_W} {T : TT} {I : II} {x : Nat} (hcl : isCl T x) {w : Nat → Int32} {B N E : Nat} {pm : Nat → Nat} (hV : DV I (x + 1) w B N E pm) {y : Nat} (hy : w 3 = nI y) (h0 : 0 < y) (hy2 : y < 2 ^ 31) : Mx g yX9_defaultShare cX9_defaultShare 1 (some .float) 8 0 0 [.ref x] X T I (Ex (some (.float (fqV (w 7) (nI y)))) X T I) NoX := by
  have hd := hcl.2.1
  have hB6 := hV.hB
  have hN10 := hV.hN
  have hE20 := hV.hE
  refine Mx.of (by decide) (Nat.le_of_ble_eq_true rfl) (fun k hfl hxt C => ?_)
  refine r_lo (lo' := [(0, _)]) rfl ?_
  refine r_aload_n (pc := 0) C 0 dX9_defaultShare_0 rfl rfl ?_
  refine r_getR (pc := 1) (x := x + 1) C f_X9_10 hcl.1 rfl rfl dX9_defaultShare_1 ?_
  refine r_getI (pc := 4) C f_X9_347 ((Dk_0 hd)) rfl dX9_defaultShare_4 ?_
  refine r_t (hV.get at_nextId) ?_
  refine r_t (y := nI y) hy ?_
  refine r_ifneN (pc := 7) (tgt := 21) C dX9_defaultShare_7 rfl (by omega) (fun c_7 => ?_) (fun c_7 => False.elim (by omega))
  refine r_aload_n (pc := 21) C 0 dX9_defaultShare_21 rfl rfl ?_
  refine r_getR (pc := 22) (x := x + 1) C f_X9_10 hcl.1 rfl rfl dX9_defaultShare_22 ?_
  refine r_getI (pc := 25) C f_X9_329 ((Dk_0 hd)) rfl dX9_defaultShare_25 ?_
  refine r_t (hV.get at_defaultedTotal) ?_
  refine r_i2f (pc := 28) C dX9_defaultShare_28 ?_
  refine r_aload_n (pc := 29) C 0 dX9_defaultShare_29 rfl rfl ?_
  refine r_getR (pc := 30) (x := x + 1) C f_X9_10 hcl.1 rfl rfl dX9_defaultShare_30 ?_
  refine r_getI (pc := 33) C f_X9_347 ((Dk_0 hd)) rfl dX9_defaultShare_33 ?_
  refine r_t (hV.get at_nextId) ?_
  refine r_t (y := nI y) hy ?_
  refine r_i2f (pc := 36) C dX9_defaultShare_36 ?_
  refine r_fdiv (pc := 37) C dX9_defaultShare_37 (fq_n (nI_i0 h0 hy2)) ?_
  refine r_xret ?_
  exact r_fret (pc := 38) C dX9_defaultShare_38 ⟨rfl, rfl, rfl, rfl⟩ (by decide)

set_option maxHeartbeats 1000000 in
theorem q_defaultShare__x {g : GG} {X : va_W} {T : TT} {I : II} {x : Nat} (hcl : isCl T x) {w : Nat → Int32} {B N E : Nat} {pm : Nat → Nat} (hV : DV I (x + 1) w B N E pm) (hy : w 3 = nI 0) : Mx g yX9_defaultShare cX9_defaultShare 1 (some .float) 8 1 6 [.ref x] X T I No (Th (exc 5) X T I) := by
  have hd := hcl.2.1
  have hB6 := hV.hB
  have hN10 := hV.hN
  have hE20 := hV.hE
  refine Mx.of (by decide) (Nat.le_of_ble_eq_true rfl) (fun k hfl hxt C => ?_)
  refine r_lo (lo' := [(0, _)]) rfl ?_
  refine r_aload_n (pc := 0) C 0 dX9_defaultShare_0 rfl rfl ?_
  refine r_getR (pc := 1) (x := x + 1) C f_X9_10 hcl.1 rfl rfl dX9_defaultShare_1 ?_
  refine r_getI (pc := 4) C f_X9_347 ((Dk_0 hd)) rfl dX9_defaultShare_4 ?_
  refine r_t (hV.get at_nextId) ?_
  refine r_t (y := nI 0) hy ?_
  refine r_ifneN (pc := 7) (tgt := 21) C dX9_defaultShare_7 rfl (by omega) (fun c_7 => False.elim (by omega)) (fun c_7 => ?_)
  exact r_thrW (pc := 10) (tx := "no loan has been granted") (sa := 650) C hfl hxt ex_341 (by decide) (Nat.le_of_ble_eq_true rfl) (by decide) dX9_defaultShare_10 dX9_defaultShare_13 dX9_defaultShare_14 dX9_defaultShare_17 dX9_defaultShare_20 ⟨rfl, rfl, rfl, rfl⟩
