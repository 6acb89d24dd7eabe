/-! The class's line. -/
theorem sl_15 : sl_ 15 = [32, 98] := by decide
theorem sl_16 : sl_ 16 = [32, 64] := by decide
theorem sl_17 : sl_ 17 = [32, 100] := by decide
/-- the line has become l -/
def PLN (x : Nat) (X : va_W) (T : TT) (I : II) (l : List Nat) : PhiT := fun r X' T' I' => r = some (.int (nI l.length)) ∧ X' = X ∧ ∃ y' m', SB T' I' (x + 511) y' m' l ∧ EXT (x + 511) T I T' I'

set_option maxHeartbeats 1000000 in
theorem q_lineChar__o {g : GG} {X : va_W} {T : TT} {I : II} {x : Nat} (hcl : isCl T x) {y m : Nat} {l : List Nat} (hS : SB T I (x + 511) y m l) {i : Nat} (hi : i < l.length) : Mx g yX9_lineChar cX9_lineChar 2 (some .char) 9 1 6 [.ref x, .int (nI i)] X T I (Ex (some (.int (nI (tx l i)))) X T I) NoX := by
  have hm := hS.mm
  have hl := hS.2.2.2.2.1
  refine Mx.of (by decide) (Nat.le_of_ble_eq_true rfl) (fun k hfl hxt C => ?_)
  refine r_lo (lo' := [(0, _), (1, _)]) rfl ?_
  refine r_iload_n (pc := 0) C 1 dX9_lineChar_0 rfl rfl ?_
  refine r_ifltN (pc := 1) C dX9_lineChar_1 (by omega) ?_
  refine r_iload_n (pc := 4) C 1 dX9_lineChar_4 rfl rfl ?_
  refine r_aload_n (pc := 5) C 0 dX9_lineChar_5 rfl rfl ?_
  refine r_getR (pc := 6) (x := x + 511) C f_X9_46 hcl.1 rfl rfl dX9_lineChar_6 ?_
  refine r_cVi (pc := 9) C hfl k_X9_377 (c_sbN hS) hS.1 ca_J4 rfl rfl (Nat.le_of_ble_eq_true rfl) (by decide) (by decide) dX9_lineChar_9 ?_
  refine r_cltN (pc := 12) (tgt := 26) C dX9_lineChar_12 rfl (by omega) (by omega) (fun _ => ?_) (fun c => False.elim (by omega))
  refine r_aload_n (pc := 26) C 0 dX9_lineChar_26 rfl rfl ?_
  refine r_getR (pc := 27) (x := x + 511) C f_X9_46 hcl.1 rfl rfl dX9_lineChar_27 ?_
  refine r_iload_n (pc := 30) C 1 dX9_lineChar_30 rfl rfl ?_
  refine r_cVi (pc := 31) C hfl k_X9_382 (c_sbA hS hi) hS.1 ca_J4 rfl rfl (Nat.le_of_ble_eq_true rfl) (by decide) (by decide) dX9_lineChar_31 ?_
  refine r_xret ?_
  exact r_zret (pc := 34) C (pk_charN (by have := (hS.2.2.2.2.2.2.1 i hi).1; omega)).1 dX9_lineChar_34 ⟨rfl, rfl, rfl, rfl⟩ (by decide)

set_option maxHeartbeats 1000000 in
theorem q_lineChar__x {g : GG} {X : va_W} {T : TT} {I : II} {x : Nat} (hcl : isCl T x) {y m : Nat} {l : List Nat} (hS : SB T I (x + 511) y m l) {i_ : Int32} (hi : ¬ okN l.length i_) : Mx g yX9_lineChar cX9_lineChar 2 (some .char) 9 1 6 [.ref x, .int i_] X T I No (Th (exc 2) X T I) := by
  have hm := hS.mm
  have hl := hS.2.2.2.2.1
  refine Mx.of (by decide) (Nat.le_of_ble_eq_true rfl) (fun k hfl hxt C => ?_)
  refine r_lo (lo' := [(0, _), (1, _)]) rfl ?_
  refine r_iload_n (pc := 0) C 1 dX9_lineChar_0 rfl rfl ?_
  refine r_iflt (pc := 1) (tgt := 15) C dX9_lineChar_1 rfl (fun c_1 => ?_) (fun c_1 => ?_)
  · exact r_thrW (pc := 15) (tx := "the line has no such index") (sa := 680) C hfl hxt ex_129 (by decide) (Nat.le_of_ble_eq_true rfl) (by decide) dX9_lineChar_15 dX9_lineChar_18 dX9_lineChar_19 dX9_lineChar_22 dX9_lineChar_25 ⟨rfl, rfl, rfl, rfl⟩
  refine r_iload_n (pc := 4) C 1 dX9_lineChar_4 rfl rfl ?_
  refine r_aload_n (pc := 5) C 0 dX9_lineChar_5 rfl rfl ?_
  refine r_getR (pc := 6) (x := x + 511) C f_X9_46 hcl.1 rfl rfl dX9_lineChar_6 ?_
  refine r_cVi (pc := 9) C hfl k_X9_377 (c_sbN hS) hS.1 ca_J4 rfl rfl (Nat.le_of_ble_eq_true rfl) (by decide) (by decide) dX9_lineChar_9 ?_
  refine r_clt (pc := 12) (tgt := 26) C dX9_lineChar_12 rfl (fun c => absurd (okN_is (by omega) c_1 c) hi) (fun _ => ?_)
  exact r_thrW (pc := 15) (tx := "the line has no such index") (sa := 680) C hfl hxt ex_129 (by decide) (Nat.le_of_ble_eq_true rfl) (by decide) dX9_lineChar_15 dX9_lineChar_18 dX9_lineChar_19 dX9_lineChar_22 dX9_lineChar_25 ⟨rfl, rfl, rfl, rfl⟩

theorem sln_2 : sln 15 = 2 ∧ sln 16 = 2 ∧ sln 17 = 2 := by decide
set_option maxHeartbeats 1000000 in
theorem q_formatLoan__s {g : GG} {X : va_W} {T : TT} {I : II} {x : Nat} (hcl : isCl T x) {y m : Nat} {l0 : List Nat} (hS : SB T I (x + 511) y m l0) {w : Nat → Int32} {B N E : Nat} {pm : Nat → Nat} (hV : DV I (x + 1) w B N E pm) (hN : w 2 = nI N) {id b pr ac rt du : Nat} {u : Nat → Nat} {s : Nat} (hs : s < N) (hr : atS w N (nI id) (nI s)) (e0 : w (58 + 10 * s + 0) = nI id) (e1 : w (58 + 10 * s + 1) = nI b) (e2 : w (58 + 10 * s + 2) = nI pr) (e3 : w (58 + 10 * s + 3) = nI ac) (e4 : w (58 + 10 * s + 4) = nI rt) (e5 : w (58 + 10 * s + 5) = nI du) (e6 : ∀ k, k < 4 → w (58 + 10 * s + (6 + k)) = nI (u k)) (h0 : id < 1000000) (hb : b < 10) (hpr : pr < 1000) (hac : ac < 10000000) (hrt : rt < 100) (hdu : du < 1000000) (hu : ∀ k, k < 4 → u k < 10000000) : Mx g yX9_formatLoan cX9_formatLoan 4 (some .int) 9 30 4200 [.ref x, .int (nI id)] X T I (PLN x X T I (fmL id b pr ac rt du ++ kdl u 4)) NoX := by
  have hd := hcl.2.1
  have hN10 := hV.hN
  have a0 := (dg_b (v := id)).2.2.2.1 h0
  have a1 := (dg_b (v := b)).1 hb
  have a2 := (dg_b (v := pr)).2.2.1 hpr
  have a3 := (dg_b (v := ac)).2.2.2.2 hac
  have a4 := (dg_b (v := rt)).2.1 hrt
  have a5 := (dg_b (v := du)).2.2.2.1 hdu
  have a6 : ∀ k, k < 4 → sb_dg (u k) ≤ 7 := fun k hk => (dg_b (v := u k)).2.2.2.2 (hu k hk)
  have a7 := fmL_len h0 hb hpr hac hrt hdu
  obtain ⟨p, hp, hp10⟩ : ∃ p, pm s = p ∧ p < 10 := ⟨pm s, rfl, hV.l (by omega)⟩
  have hLT : T (x + 1 + 5 + 17 + 2 * p) = (1, 9, rfN (x + 1 + 5 + 17 + 2 * p)) := Dk_l hd hp10
  have hPT : T (x + 1 + 5 + 17 + 2 * p + 1) = (2, 4, nr) := Dk_p hd hp10
  have hI : ∀ j, j < 6 → I (x + 1 + 5 + 17 + 2 * p) j = w (58 + 10 * s + j) := fun j hj => by rw [← hp]; exact hV.get (at_loan (i := j) hs hj)
  have hJ : ∀ k, k < 4 → I (x + 1 + 5 + 17 + 2 * p + 1) k = w (58 + 10 * s + (6 + k)) := fun k hk => by rw [← hp]; exact hV.get (at_pledged (k := k) hs hk)
  refine Mx.of (by decide) (Nat.le_of_ble_eq_true rfl) (fun k hfl hxt C => ?_)
  refine r_lo (lo' := [(0, _), (1, _)]) rfl ?_
  refine r_aload_n (pc := 0) C 0 dX9_formatLoan_0 rfl rfl ?_
  refine r_iload_n (pc := 1) C 1 dX9_formatLoan_1 rfl rfl ?_
  refine r_xV (pc := 2) C hfl hxt k_X9_218 (q_requireLoan__s hcl hV hN hs hr) (fun _ _ _ _ h => h.elim) hcl.1 ca_X9 rfl rfl (Nat.le_of_ble_eq_true rfl) (by decide) (by decide) dX9_formatLoan_2 (fun r1 X1 T1 I1 h1 => ?_)
  obtain ⟨f1, f2, f3, f4⟩ := h1
  subst r1
  subst X1
  subst T1
  subst I1
  rw [hp]
  refine r_st (st' := [.ref _]) rfl ?_
  refine r_astore_n (pc := 5) (lo' := [(2, _), (0, _), (1, _)]) C dX9_formatLoan_5 rfl (by decide) rfl ?_
  refine r_aload_n (pc := 6) C 1 dX9_formatLoan_6 rfl rfl ?_
  refine r_getR (pc := 7) (x := x + 511) C f_X9_46 (((EXT.rf (s := x + 511) (T := T) (I := I)).1 x (by omega) (k_ne hcl.1 (by decide))).trans hcl.1) rfl rfl dX9_formatLoan_7 ?_
  refine r_iconst (pc := 10) (v := 0) C dX9_formatLoan_10 rfl ?_
  refine r_callV (pc := 11) C hfl k_X9_358 (c_sbZ hS ) hS.1 ca_J4 rfl rfl (Nat.le_of_ble_eq_true rfl) (by decide) (by decide) dX9_formatLoan_11 (fun r1 X1 T1 I1 h => ?_)
  obtain ⟨f1, f2, y1, m1, S1, G1⟩ := h
  subst r1
  subst X1
  have E1 : EXT (x + 511) T I T1 I1 := (EXT.rf (s := x + 511) (T := T) (I := I)).tr G1
  refine r_st (st' := []) rfl ?_
  refine r_aload_n (pc := 14) C 1 dX9_formatLoan_14 rfl rfl ?_
  refine r_getR (pc := 15) (x := x + 511) C f_X9_46 ((E1.1 x (by omega) (k_ne hcl.1 (by decide))).trans hcl.1) rfl rfl dX9_formatLoan_15 ?_
  refine r_bipush (pc := 18) (v := 76) C dX9_formatLoan_18 rfl ?_
  refine r_callV (pc := 20) C hfl k_X9_361 (c_sbC (c := 76) S1 (by decide) (by simp only [List.length_append, List.length_cons, List.length_nil, dl_len, sln_2.1, sln_2.2.1, sln_2.2.2, sl_len]; omega)) S1.1 ca_J4 rfl rfl (Nat.le_of_ble_eq_true rfl) (by decide) (by decide) dX9_formatLoan_20 (fun r2 X2 T2 I2 h => ?_)
  obtain ⟨f1, f2, y2, m2, S2, G2⟩ := h
  subst r2
  subst X2
  have E2 : EXT (x + 511) T I T2 I2 := E1.tr G2
  refine r_st (st' := [.ref (x + 511)]) rfl ?_
  refine r_aload_n (pc := 23) C 0 dX9_formatLoan_23 rfl rfl ?_
  refine r_getI (pc := 24) C f_X9_213 ((E2.1 _ (by omega) (k_ne hLT (by decide))).trans hLT) rfl dX9_formatLoan_24 ?_
  refine r_t (y := nI id) ((congrFun (E2.2 _ (by omega) (k_ne hLT (by decide)) (k_ne hLT (by decide))) 0).trans ((hI 0 (by decide)).trans e0)) ?_
  refine r_callV (pc := 27) C hfl k_X9_365 (c_sbI S2 (by omega) (by simp only [List.length_append, List.length_cons, List.length_nil, dl_len, sln_2.1, sln_2.2.1, sln_2.2.2, sl_len]; omega)) S2.1 ca_J4 rfl rfl (Nat.le_of_ble_eq_true rfl) (by decide) (by decide) dX9_formatLoan_27 (fun r3 X3 T3 I3 h => ?_)
  obtain ⟨f1, f2, y3, m3, S3, G3⟩ := h
  subst r3
  subst X3
  have E3 : EXT (x + 511) T I T3 I3 := E2.tr G3
  refine r_st (st' := [.ref (x + 511)]) rfl ?_
  refine r_ldcW (pc := 30) (tx := " b") (sa := 115) C (by decide) dX9_formatLoan_30 ?_
  refine r_callV (pc := 33) C hfl k_X9_370 (c_sbS (i := 15) S3 (by decide) (by simp only [List.length_append, List.length_cons, List.length_nil, dl_len, sln_2.1, sln_2.2.1, sln_2.2.2, sl_len]; omega)) S3.1 ca_J4 rfl rfl (Nat.le_of_ble_eq_true rfl) (by decide) (by decide) dX9_formatLoan_33 (fun r4 X4 T4 I4 h => ?_)
  obtain ⟨f1, f2, y4, m4, S4, G4⟩ := h
  subst r4
  subst X4
  have E4 : EXT (x + 511) T I T4 I4 := E3.tr G4
  refine r_st (st' := [.ref (x + 511)]) rfl ?_
  refine r_aload_n (pc := 36) C 0 dX9_formatLoan_36 rfl rfl ?_
  refine r_getI (pc := 37) C f_X9_221 ((E4.1 _ (by omega) (k_ne hLT (by decide))).trans hLT) rfl dX9_formatLoan_37 ?_
  refine r_t (y := nI b) ((congrFun (E4.2 _ (by omega) (k_ne hLT (by decide)) (k_ne hLT (by decide))) 1).trans ((hI 1 (by decide)).trans e1)) ?_
  refine r_callV (pc := 40) C hfl k_X9_365 (c_sbI S4 (by omega) (by simp only [List.length_append, List.length_cons, List.length_nil, dl_len, sln_2.1, sln_2.2.1, sln_2.2.2, sl_len]; omega)) S4.1 ca_J4 rfl rfl (Nat.le_of_ble_eq_true rfl) (by decide) (by decide) dX9_formatLoan_40 (fun r5 X5 T5 I5 h => ?_)
  obtain ⟨f1, f2, y5, m5, S5, G5⟩ := h
  subst r5
  subst X5
  have E5 : EXT (x + 511) T I T5 I5 := E4.tr G5
  refine r_st (st' := [.ref (x + 511)]) rfl ?_
  refine r_pop (pc := 43) C dX9_formatLoan_43 rfl ?_
  refine r_aload_n (pc := 44) C 1 dX9_formatLoan_44 rfl rfl ?_
  refine r_getR (pc := 45) (x := x + 511) C f_X9_46 ((E5.1 x (by omega) (k_ne hcl.1 (by decide))).trans hcl.1) rfl rfl dX9_formatLoan_45 ?_
  refine r_bipush (pc := 48) (v := 32) C dX9_formatLoan_48 rfl ?_
  refine r_callV (pc := 50) C hfl k_X9_361 (c_sbC (c := 32) S5 (by decide) (by simp only [List.length_append, List.length_cons, List.length_nil, dl_len, sln_2.1, sln_2.2.1, sln_2.2.2, sl_len]; omega)) S5.1 ca_J4 rfl rfl (Nat.le_of_ble_eq_true rfl) (by decide) (by decide) dX9_formatLoan_50 (fun r6 X6 T6 I6 h => ?_)
  obtain ⟨f1, f2, y6, m6, S6, G6⟩ := h
  subst r6
  subst X6
  have E6 : EXT (x + 511) T I T6 I6 := E5.tr G6
  refine r_st (st' := [.ref (x + 511)]) rfl ?_
  refine r_aload_n (pc := 53) C 0 dX9_formatLoan_53 rfl rfl ?_
  refine r_getI (pc := 54) C f_X9_224 ((E6.1 _ (by omega) (k_ne hLT (by decide))).trans hLT) rfl dX9_formatLoan_54 ?_
  refine r_t (y := nI pr) ((congrFun (E6.2 _ (by omega) (k_ne hLT (by decide)) (k_ne hLT (by decide))) 2).trans ((hI 2 (by decide)).trans e2)) ?_
  refine r_callV (pc := 57) C hfl k_X9_365 (c_sbI S6 (by omega) (by simp only [List.length_append, List.length_cons, List.length_nil, dl_len, sln_2.1, sln_2.2.1, sln_2.2.2, sl_len]; omega)) S6.1 ca_J4 rfl rfl (Nat.le_of_ble_eq_true rfl) (by decide) (by decide) dX9_formatLoan_57 (fun r7 X7 T7 I7 h => ?_)
  obtain ⟨f1, f2, y7, m7, S7, G7⟩ := h
  subst r7
  subst X7
  have E7 : EXT (x + 511) T I T7 I7 := E6.tr G7
  refine r_st (st' := [.ref (x + 511)]) rfl ?_
  refine r_bipush (pc := 60) (v := 43) C dX9_formatLoan_60 rfl ?_
  refine r_callV (pc := 62) C hfl k_X9_361 (c_sbC (c := 43) S7 (by decide) (by simp only [List.length_append, List.length_cons, List.length_nil, dl_len, sln_2.1, sln_2.2.1, sln_2.2.2, sl_len]; omega)) S7.1 ca_J4 rfl rfl (Nat.le_of_ble_eq_true rfl) (by decide) (by decide) dX9_formatLoan_62 (fun r8 X8 T8 I8 h => ?_)
  obtain ⟨f1, f2, y8, m8, S8, G8⟩ := h
  subst r8
  subst X8
  have E8 : EXT (x + 511) T I T8 I8 := E7.tr G8
  refine r_st (st' := [.ref (x + 511)]) rfl ?_
  refine r_aload_n (pc := 65) C 0 dX9_formatLoan_65 rfl rfl ?_
  refine r_getI (pc := 66) C f_X9_227 ((E8.1 _ (by omega) (k_ne hLT (by decide))).trans hLT) rfl dX9_formatLoan_66 ?_
  refine r_t (y := nI ac) ((congrFun (E8.2 _ (by omega) (k_ne hLT (by decide)) (k_ne hLT (by decide))) 3).trans ((hI 3 (by decide)).trans e3)) ?_
  refine r_callV (pc := 69) C hfl k_X9_365 (c_sbI S8 (by omega) (by simp only [List.length_append, List.length_cons, List.length_nil, dl_len, sln_2.1, sln_2.2.1, sln_2.2.2, sl_len]; omega)) S8.1 ca_J4 rfl rfl (Nat.le_of_ble_eq_true rfl) (by decide) (by decide) dX9_formatLoan_69 (fun r9 X9 T9 I9 h => ?_)
  obtain ⟨f1, f2, y9, m9, S9, G9⟩ := h
  subst r9
  subst X9
  have E9 : EXT (x + 511) T I T9 I9 := E8.tr G9
  refine r_st (st' := [.ref (x + 511)]) rfl ?_
  refine r_pop (pc := 72) C dX9_formatLoan_72 rfl ?_
  refine r_aload_n (pc := 73) C 1 dX9_formatLoan_73 rfl rfl ?_
  refine r_getR (pc := 74) (x := x + 511) C f_X9_46 ((E9.1 x (by omega) (k_ne hcl.1 (by decide))).trans hcl.1) rfl rfl dX9_formatLoan_74 ?_
  refine r_ldcW (pc := 77) (tx := " @") (sa := 116) C (by decide) dX9_formatLoan_77 ?_
  refine r_callV (pc := 80) C hfl k_X9_370 (c_sbS (i := 16) S9 (by decide) (by simp only [List.length_append, List.length_cons, List.length_nil, dl_len, sln_2.1, sln_2.2.1, sln_2.2.2, sl_len]; omega)) S9.1 ca_J4 rfl rfl (Nat.le_of_ble_eq_true rfl) (by decide) (by decide) dX9_formatLoan_80 (fun r10 X10 T10 I10 h => ?_)
  obtain ⟨f1, f2, y10, m10, S10, G10⟩ := h
  subst r10
  subst X10
  have E10 : EXT (x + 511) T I T10 I10 := E9.tr G10
  refine r_st (st' := [.ref (x + 511)]) rfl ?_
  refine r_aload_n (pc := 83) C 0 dX9_formatLoan_83 rfl rfl ?_
  refine r_getI (pc := 84) C f_X9_234 ((E10.1 _ (by omega) (k_ne hLT (by decide))).trans hLT) rfl dX9_formatLoan_84 ?_
  refine r_t (y := nI rt) ((congrFun (E10.2 _ (by omega) (k_ne hLT (by decide)) (k_ne hLT (by decide))) 4).trans ((hI 4 (by decide)).trans e4)) ?_
  refine r_callV (pc := 87) C hfl k_X9_365 (c_sbI S10 (by omega) (by simp only [List.length_append, List.length_cons, List.length_nil, dl_len, sln_2.1, sln_2.2.1, sln_2.2.2, sl_len]; omega)) S10.1 ca_J4 rfl rfl (Nat.le_of_ble_eq_true rfl) (by decide) (by decide) dX9_formatLoan_87 (fun r11 X11 T11 I11 h => ?_)
  obtain ⟨f1, f2, y11, m11, S11, G11⟩ := h
  subst r11
  subst X11
  have E11 : EXT (x + 511) T I T11 I11 := E10.tr G11
  refine r_st (st' := [.ref (x + 511)]) rfl ?_
  refine r_ldcW (pc := 90) (tx := " d") (sa := 117) C (by decide) dX9_formatLoan_90 ?_
  refine r_callV (pc := 93) C hfl k_X9_370 (c_sbS (i := 17) S11 (by decide) (by simp only [List.length_append, List.length_cons, List.length_nil, dl_len, sln_2.1, sln_2.2.1, sln_2.2.2, sl_len]; omega)) S11.1 ca_J4 rfl rfl (Nat.le_of_ble_eq_true rfl) (by decide) (by decide) dX9_formatLoan_93 (fun r12 X12 T12 I12 h => ?_)
  obtain ⟨f1, f2, y12, m12, S12, G12⟩ := h
  subst r12
  subst X12
  have E12 : EXT (x + 511) T I T12 I12 := E11.tr G12
  refine r_st (st' := [.ref (x + 511)]) rfl ?_
  refine r_aload_n (pc := 96) C 0 dX9_formatLoan_96 rfl rfl ?_
  refine r_getI (pc := 97) C f_X9_237 ((E12.1 _ (by omega) (k_ne hLT (by decide))).trans hLT) rfl dX9_formatLoan_97 ?_
  refine r_t (y := nI du) ((congrFun (E12.2 _ (by omega) (k_ne hLT (by decide)) (k_ne hLT (by decide))) 5).trans ((hI 5 (by decide)).trans e5)) ?_
  refine r_callV (pc := 100) C hfl k_X9_365 (c_sbI S12 (by omega) (by simp only [List.length_append, List.length_cons, List.length_nil, dl_len, sln_2.1, sln_2.2.1, sln_2.2.2, sl_len]; omega)) S12.1 ca_J4 rfl rfl (Nat.le_of_ble_eq_true rfl) (by decide) (by decide) dX9_formatLoan_100 (fun r13 X13 T13 I13 h => ?_)
  obtain ⟨f1, f2, y13, m13, S13, G13⟩ := h
  subst r13
  subst X13
  have E13 : EXT (x + 511) T I T13 I13 := E12.tr G13
  refine r_st (st' := [.ref (x + 511)]) rfl ?_
  refine r_pop (pc := 103) C dX9_formatLoan_103 rfl ?_
  refine r_iconst (pc := 104) (v := 0) C dX9_formatLoan_104 rfl ?_
  refine r_istore_n (pc := 105) (lo' := [(3, _), (2, _), (0, _), (1, _)]) C dX9_formatLoan_105 rfl (by decide) rfl ?_
  have hfm : ((((((((((([] ++ [76]) ++ dl id) ++ sl_ 15) ++ dl b) ++ [32]) ++ dl pr) ++ [43]) ++ dl ac) ++ sl_ 16) ++ dl rt) ++ sl_ 17) ++ dl du = fmL id b pr ac rt du ++ kdl u 0 := by
    rw [sl_15, sl_16, sl_17]
    simp only [fmL, kdl, List.append_assoc, List.nil_append, List.cons_append, List.append_nil]
  rw [hfm] at S13
  have loop : ∀ (n_ q c_ sl_n : Nat) (T' : TT) (I' : II) (y' m' : Nat), 4 - q < n_ → q ≤ 4 → c_ + 4 * (4 - q) ≤ 30 → sl_n + 568 * (4 - q) ≤ 4200 → SB T' I' (x + 511) y' m' (fmL id b pr ac rt du ++ kdl u q) → EXT (x + 511) T I T' I' → Go g k 4 (Qx g k (PLN x X T I (fmL id b pr ac rt du ++ kdl u 4)) NoX 30 4200) c_ sl_n 106 [(0, .ref x), (2, .ref (x + 1 + 5 + 17 + 2 * p)), (3, .int (nI q))] [] X T' I' := by
    intro n_
    induction n_ with
    | zero => intro _ _ _ _ _ _ _ h_; exact absurd h_ (Nat.not_lt_zero _)
    | succ n_ ih =>
      intro q c_ sl_n T0 I0 y0 m0 hn hq hc hsl S0 E0
      refine r_iload_n (pc := 106) C 2 dX9_formatLoan_106 rfl rfl ?_
      refine r_iconst (pc := 107) (v := 4) C dX9_formatLoan_107 rfl ?_
      refine r_cgeN (pc := 108) (tgt := 154) C dX9_formatLoan_108 rfl (by omega) (by omega) (fun c => ?_) (fun c => ?_)
      · obtain rfl : q = 4 := by omega
        refine r_aload_n (pc := 154) C 0 dX9_formatLoan_154 rfl rfl ?_
        refine r_getR (pc := 155) (x := x + 511) C f_X9_46 ((E0.1 x (by omega) (k_ne hcl.1 (by decide))).trans hcl.1) rfl rfl dX9_formatLoan_155 ?_
        refine r_cVi (pc := 158) C hfl k_X9_377 (c_sbN S0) S0.1 ca_J4 rfl rfl (Nat.le_of_ble_eq_true rfl) (by decide) ⟨by omega, by omega⟩ dX9_formatLoan_158 ?_
        refine r_xret ?_
        exact r_iret (pc := 161) C dX9_formatLoan_161 ⟨rfl, rfl, y0, m0, S0, E0⟩ ⟨by omega, by omega⟩
      · have hq4 : q < 4 := by omega
        have a8 := kdl_len a6 q (by omega)
        have a9 := a6 q hq4
        have a10 := (dg_b (v := q)).1 (by omega)
        have hu9 := hu q hq4
        have hlq : (fmL id b pr ac rt du ++ kdl u q).length ≤ 80 := by rw [List.length_append]; omega
        refine r_aload_n (pc := 111) C 1 dX9_formatLoan_111 rfl rfl ?_
        refine r_getR (pc := 112) (x := x + 1 + 5 + 17 + 2 * p + 1) C f_X9_240 ((E0.1 _ (by omega) (k_ne hLT (by decide))).trans hLT) rfl rfl dX9_formatLoan_112 ?_
        refine r_iload_n (pc := 115) C 2 dX9_formatLoan_115 rfl rfl ?_
        refine r_iald (pc := 116) (x := q) C ((E0.1 _ (by omega) (k_ne hPT (by decide))).trans hPT) rfl (by omega) (by decide) dX9_formatLoan_116 ?_
        refine r_t (y := nI (u q)) ((congrFun (E0.2 _ (by omega) (k_ne hPT (by decide)) (k_ne hPT (by decide))) q).trans ((hJ q hq4).trans (e6 q hq4))) ?_
        refine r_ifleN (pc := 117) (tgt := 148) C dX9_formatLoan_117 rfl (by omega) (fun c_117 => ?_) (fun c_117 => ?_)
        · refine r_iincN (pc := 148) (m := 1) (lo' := [(3, _), (0, _), (2, _)]) C 2 dX9_formatLoan_148 rfl rfl (by decide) rfl ?_
          refine r_goto (pc := 151) (tgt := 106) C dX9_formatLoan_151 rfl ?_
          refine r_ls [1, 2, 0] rfl ?_
          exact ih (q + 1) _ _ _ _ _ _ (by omega) (by omega) (by omega) (by omega) (by rw [show kdl u (q + 1) = kdl u q by rw [kdl, if_pos (by omega), List.append_nil]]; exact S0) E0
        · skip
          refine r_aload_n (pc := 120) C 0 dX9_formatLoan_120 rfl rfl ?_
          refine r_getR (pc := 121) (x := x + 511) C f_X9_46 ((E0.1 x (by omega) (k_ne hcl.1 (by decide))).trans hcl.1) rfl rfl dX9_formatLoan_121 ?_
          refine r_bipush (pc := 124) (v := 32) C dX9_formatLoan_124 rfl ?_
          refine r_callV (pc := 126) C hfl k_X9_361 (c_sbC (c := 32) S0 (by decide) (by simp only [List.length_append, List.length_cons, List.length_nil, dl_len] at hlq ⊢; omega)) S0.1 ca_J4 rfl rfl (Nat.le_of_ble_eq_true rfl) (by decide) ⟨by omega, by omega⟩ dX9_formatLoan_126 (fun r14 X14 T14 I14 h => ?_)
          obtain ⟨f1, f2, y14, m14, S14, G14⟩ := h
          subst r14
          subst X14
          have E14 : EXT (x + 511) T I T14 I14 := E0.tr G14
          refine r_st (st' := [.ref (x + 511)]) rfl ?_
          refine r_iload_n (pc := 129) C 2 dX9_formatLoan_129 rfl rfl ?_
          refine r_callV (pc := 130) C hfl k_X9_365 (c_sbI S14 (by omega) (by simp only [List.length_append, List.length_cons, List.length_nil, dl_len] at hlq ⊢; omega)) S14.1 ca_J4 rfl rfl (Nat.le_of_ble_eq_true rfl) (by decide) ⟨by omega, by omega⟩ dX9_formatLoan_130 (fun r15 X15 T15 I15 h => ?_)
          obtain ⟨f1, f2, y15, m15, S15, G15⟩ := h
          subst r15
          subst X15
          have E15 : EXT (x + 511) T I T15 I15 := E14.tr G15
          refine r_st (st' := [.ref (x + 511)]) rfl ?_
          refine r_bipush (pc := 133) (v := 120) C dX9_formatLoan_133 rfl ?_
          refine r_callV (pc := 135) C hfl k_X9_361 (c_sbC (c := 120) S15 (by decide) (by simp only [List.length_append, List.length_cons, List.length_nil, dl_len] at hlq ⊢; omega)) S15.1 ca_J4 rfl rfl (Nat.le_of_ble_eq_true rfl) (by decide) ⟨by omega, by omega⟩ dX9_formatLoan_135 (fun r16 X16 T16 I16 h => ?_)
          obtain ⟨f1, f2, y16, m16, S16, G16⟩ := h
          subst r16
          subst X16
          have E16 : EXT (x + 511) T I T16 I16 := E15.tr G16
          refine r_st (st' := [.ref (x + 511)]) rfl ?_
          refine r_aload_n (pc := 138) C 1 dX9_formatLoan_138 rfl rfl ?_
          refine r_getR (pc := 139) (x := x + 1 + 5 + 17 + 2 * p + 1) C f_X9_240 ((E16.1 _ (by omega) (k_ne hLT (by decide))).trans hLT) rfl rfl dX9_formatLoan_139 ?_
          refine r_iload_n (pc := 142) C 2 dX9_formatLoan_142 rfl rfl ?_
          refine r_iald (pc := 143) (x := q) C ((E16.1 _ (by omega) (k_ne hPT (by decide))).trans hPT) rfl (by omega) (by decide) dX9_formatLoan_143 ?_
          refine r_t (y := nI (u q)) ((congrFun (E16.2 _ (by omega) (k_ne hPT (by decide)) (k_ne hPT (by decide))) q).trans ((hJ q hq4).trans (e6 q hq4))) ?_
          refine r_callV (pc := 144) C hfl k_X9_365 (c_sbI S16 (by omega) (by simp only [List.length_append, List.length_cons, List.length_nil, dl_len] at hlq ⊢; omega)) S16.1 ca_J4 rfl rfl (Nat.le_of_ble_eq_true rfl) (by decide) ⟨by omega, by omega⟩ dX9_formatLoan_144 (fun r17 X17 T17 I17 h => ?_)
          obtain ⟨f1, f2, y17, m17, S17, G17⟩ := h
          subst r17
          subst X17
          have E17 : EXT (x + 511) T I T17 I17 := E16.tr G17
          refine r_st (st' := [.ref (x + 511)]) rfl ?_
          refine r_pop (pc := 147) C dX9_formatLoan_147 rfl ?_
          refine r_iincN (pc := 148) (m := 1) (lo' := [(3, _), (0, _), (2, _)]) C 2 dX9_formatLoan_148 rfl rfl (by decide) rfl ?_
          refine r_goto (pc := 151) (tgt := 106) C dX9_formatLoan_151 rfl ?_
          refine r_ls [1, 2, 0] rfl ?_
          exact ih (q + 1) _ _ _ _ _ _ (by omega) (by omega) (by omega) (by omega) (by rw [show fmL id b pr ac rt du ++ kdl u (q + 1) = (((fmL id b pr ac rt du ++ kdl u q) ++ [32]) ++ dl q ++ [120]) ++ dl (u q) by rw [kdl, if_neg (by omega)]; simp only [List.append_assoc, List.cons_append, List.nil_append]]; exact S17) E17
  refine r_ls [2, 1, 0] rfl ?_
  exact loop 5 0 _ _ _ _ _ _ (by omega) (by omega) (by omega) (by omega) S13 E13

set_option maxHeartbeats 1000000 in
theorem q_formatLoan__n {g : GG} {X : va_W} {T : TT} {I : II} {x : Nat} (hcl : isCl T x) {w : Nat → Int32} {B N E : Nat} {pm : Nat → Nat} (hV : DV I (x + 1) w B N E pm) (hN : w 2 = nI N) {id : Int32} (hr : atS w N id (-1)) : Mx g yX9_formatLoan cX9_formatLoan 4 (some .int) 9 1 6 [.ref x, .int id] X T I No (Th (exc 1) X T I) := by
  refine Mx.of (by decide) (Nat.le_of_ble_eq_true rfl) (fun k hfl hxt C => ?_)
  refine r_lo (lo' := [(0, _), (1, _)]) rfl ?_
  refine r_aload_n (pc := 0) C 0 dX9_formatLoan_0 rfl rfl ?_
  refine r_iload_n (pc := 1) C 1 dX9_formatLoan_1 rfl rfl ?_
  exact r_xV (pc := 2) C hfl hxt k_X9_218 (q_requireLoan__n hcl hV hN hr) (fun _ _ _ _ h => h) hcl.1 ca_X9 rfl rfl (Nat.le_of_ble_eq_true rfl) (by decide) (by decide) dX9_formatLoan_2 (fun _ _ _ _ h => h.elim)
