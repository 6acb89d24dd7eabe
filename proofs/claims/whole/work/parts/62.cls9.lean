theorem rI_st {I : II} {r p v x : Nat} {y : Int32} {nm : Nat → Int32} : u2 (rI I r p v nm) (r + 1) x y = rI I r p v (upd nm x y) := by
  rw [show u2 (rI I r p v nm) (r + 1) x y = sr (rI I r p v nm) (r + 1) (upd (rI I r p v nm (r + 1)) x y) from rfl, rI_a, rI_n]
theorem agv_1 {c : Nat → Nat} {L m p e n : Nat} {t : List Nat} (h : nmv c L m p 0 = (e, n)) (he : e = p) : agv c L (m :: t) p = (false, p, []) := by
  rw [agv, h, if_pos he]
theorem agv_2 {c : Nat → Nat} {L m p e n : Nat} (h : nmv c L m p 0 = (e, n)) (he : ¬ e = p) : agv c L [m] p = (true, e, [n]) := by
  rw [agv, h, if_neg he, if_pos rfl]
theorem agv_3 {c : Nat → Nat} {L m m2 p e n : Nat} {t : List Nat} (h : nmv c L m p 0 = (e, n)) (he : ¬ e = p) (hs : has c L e 32) : agv c L (m :: m2 :: t) p = ((agv c L (m2 :: t) (e + 1)).1, (agv c L (m2 :: t) (e + 1)).2.1, n :: (agv c L (m2 :: t) (e + 1)).2.2) := by
  rw [agv, h, if_neg he, if_neg (List.cons_ne_nil _ _), if_pos hs]
theorem agv_4 {c : Nat → Nat} {L m m2 p e n : Nat} {t : List Nat} (h : nmv c L m p 0 = (e, n)) (he : ¬ e = p) (hs : ¬ has c L e 32) : agv c L (m :: m2 :: t) p = (false, e, []) := by
  rw [agv, h, if_neg he, if_neg (List.cons_ne_nil _ _), if_neg hs]
theorem c_sign {g : GG} {X : va_W} {T : TT} {I : II} {r L : Nat} {c : Nat → Nat} (hr : isRd T r) (hR : Rdr I r L c) {p v : Nat} {nm : Nat → Int32} (hp : p ≤ L) {x : Nat} (hx : x < 128) : Mc g yX2_readSign cX2_readSign 2 (some .boolean) 2 0 0 [.ref r, .int (nI x)] X T (rI I r p v nm) (Ex (some (.int (bI (has c L p x)))) X T (rI I r (if has c L p x then p + 1 else p) v nm)) := by
  by_cases h : has c L p x
  · rw [bI_t h, if_pos h]
    exact c_readSign__t hr hR hp h
  · rw [bI_f h, if_neg h]
    exact c_readSign__f hr hR hp hx h

set_option maxHeartbeats 1000000 in
theorem c_args_0 {g : GG} {X : va_W} {T : TT} {I : II} {r L : Nat} {c : Nat → Nat} (hr : isRd T r) (hR : Rdr I r L c) {p : Nat} {nm : Nat → Int32} (hp : p ≤ L)  : Mc g yX2_readArguments cX2_readArguments 4 (some .boolean) 4 0 0 [.ref r] X T (rI I r p 0 nm) (RG I r 0 (agv c L (shL 0) p) X T) := by
  have hL := hR.2.1
  refine Mc.of (by decide) (Nat.le_of_ble_eq_true rfl) (fun k hfl C => ?_)
  refine r_lo (lo' := [(0, _)]) rfl ?_
  refine r_aload_n (pc := 0) C 0 dX2_readArguments_0 rfl rfl ?_
  refine r_get9V (pc := 1) (i := 0) C f_X2_21 hr.1 rI_1 (by omega) dX2_readArguments_1 ?_
  refine r_getO (pc := 4) C (C.Z.2.2.1 0 (by omega)).2.2.2 (gx 2280 (by decide +kernel) (by decide +kernel)) dX2_readArguments_4 ?_
  refine r_st (st' := .ref (ga g (100 + 9)) :: _) rfl ?_
  refine r_astore_n (pc := 7) (lo' := [(1, _), (0, _)]) C dX2_readArguments_7 rfl (by decide) rfl ?_
  refine r_iconst (pc := 8) (v := 0) C dX2_readArguments_8 rfl ?_
  refine r_istore_n (pc := 9) (lo' := [(2, _), (1, _), (0, _)]) C dX2_readArguments_9 rfl (by decide) rfl ?_
  refine r_iload_n (pc := 10) C 0 dX2_readArguments_10 rfl rfl ?_
  refine r_aload_n (pc := 11) C 1 dX2_readArguments_11 rfl rfl ?_
  refine r_cKi (pc := 12) C hfl k_X2_76 (c_slen (i := 9) (by omega)) (C.Z.2.2.2.2.1 9 (by omega)).1 (As := []) rfl rfl (Nat.le_of_ble_eq_true rfl) (by decide) (by decide) dX2_readArguments_12 ?_
  refine r_t (y := nI 1) (by decide) ?_
  refine r_cgeN (pc := 15) (tgt := 84) C dX2_readArguments_15 rfl (by omega) (by omega) (fun c_15 => False.elim (by omega)) (fun c_15 => ?_)
  refine r_iload_n (pc := 18) C 0 dX2_readArguments_18 rfl rfl ?_
  refine r_iconst (pc := 19) (v := 5) C dX2_readArguments_19 rfl ?_
  refine r_cgeN (pc := 20) (tgt := 84) C dX2_readArguments_20 rfl (by omega) (by omega) (fun c_20 => False.elim (by omega)) (fun c_20 => ?_)
  refine r_iload_n (pc := 23) C 0 dX2_readArguments_23 rfl rfl ?_
  refine r_ifleN (pc := 24) (tgt := 38) C dX2_readArguments_24 rfl (by omega) (fun c_24 => ?_) (fun c_24 => False.elim (by omega))
  refine r_aload_n (pc := 38) C 2 dX2_readArguments_38 rfl rfl ?_
  refine r_get9I (pc := 39) C f_X2_9 hr.1 (Or.inl rfl) dX2_readArguments_39 ?_
  refine r_t (y := nI p) rI_0 ?_
  refine r_istore_n (pc := 42) (lo' := [(3, _), (2, _), (1, _), (0, _)]) C dX2_readArguments_42 rfl (by decide) rfl ?_
  refine r_aload_n (pc := 43) C 3 dX2_readArguments_43 rfl rfl ?_
  refine r_get9R (pc := 44) (x := r + 1) C f_X2_24 hr.1 (Or.inl rfl) rfl dX2_readArguments_44 ?_
  refine r_iload_n (pc := 47) C 1 dX2_readArguments_47 rfl rfl ?_
  refine r_aload_n (pc := 48) C 3 dX2_readArguments_48 rfl rfl ?_
  refine r_aload_n (pc := 49) C 2 dX2_readArguments_49 rfl rfl ?_
  refine r_iload_n (pc := 50) C 1 dX2_readArguments_50 rfl rfl ?_
  refine r_cKi (pc := 51) C hfl k_X2_81 (c_schar (i := 9) (q := 0) (by omega) (by decide)) (C.Z.2.2.2.2.1 9 (by omega)).1 (As := [_]) rfl rfl (Nat.le_of_ble_eq_true rfl) (by decide) (by decide) dX2_readArguments_51 ?_
  refine r_t (y := nI 110) (by decide) ?_
  refine r_bipush (pc := 54) (v := 100) C dX2_readArguments_54 rfl ?_
  refine r_cneN (pc := 56) (tgt := 63) C dX2_readArguments_56 rfl (by omega) (by omega) (fun c_56 => ?_) (fun c_56 => False.elim (by omega))
  refine r_iconst (pc := 63) (v := 3) C dX2_readArguments_63 rfl ?_
  obtain ⟨e0, n0, hn0⟩ : ∃ e n, nmv c L 3 p 0 = (e, n) := ⟨_, _, rfl⟩
  obtain ⟨x0, y0, -⟩ := nmv_le (c := c) (L := L) 3 p 0
  rw [hn0] at x0 y0
  replace x0 : p ≤ e0 := x0
  replace y0 : e0 ≤ L := y0 (by omega)
  refine r_c9i (pc := 64) C hfl k_X2_88 (c_readNumber (m := 3) hr hR (by omega) (by omega) hn0) hr.1 ca_X2 rfl rfl (Nat.le_of_ble_eq_true rfl) (by decide) (by decide) dX2_readArguments_64 ?_
  refine r_iast (pc := 67) (x := 0) C hr.2.1 rfl (by omega) (by decide) dX2_readArguments_67 ?_
  refine r_I (I' := rI I r e0 0 (upd nm 0 (nI n0))) rI_st ?_
  refine r_aload_n (pc := 68) C 3 dX2_readArguments_68 rfl rfl ?_
  refine r_get9I (pc := 69) C f_X2_9 hr.1 (Or.inl rfl) dX2_readArguments_69 ?_
  refine r_t (y := nI e0) rI_0 ?_
  refine r_iload_n (pc := 72) C 0 dX2_readArguments_72 rfl rfl ?_
  refine r_cneN (pc := 73) (tgt := 78) C dX2_readArguments_73 rfl (by omega) (by omega) (fun c_73 => ?_) (fun c_73 => ?_)
  · skip
    have d0 := c_73
    refine r_iincN (pc := 78) (m := 1) (lo' := [(2, _), (3, _), (1, _), (0, _)]) C 1 dX2_readArguments_78 rfl rfl (by decide) rfl ?_
    refine r_goto (pc := 81) (tgt := 10) C dX2_readArguments_81 rfl ?_
    refine r_iload_n (pc := 10) C 0 dX2_readArguments_10 rfl rfl ?_
    refine r_aload_n (pc := 11) C 2 dX2_readArguments_11 rfl rfl ?_
    refine r_cKi (pc := 12) C hfl k_X2_76 (c_slen (i := 9) (by omega)) (C.Z.2.2.2.2.1 9 (by omega)).1 (As := []) rfl rfl (Nat.le_of_ble_eq_true rfl) (by decide) (by decide) dX2_readArguments_12 ?_
    refine r_t (y := nI 1) (by decide) ?_
    refine r_cgeN (pc := 15) (tgt := 84) C dX2_readArguments_15 rfl (by omega) (by omega) (fun c_15 => ?_) (fun c_15 => False.elim (by omega))
    refine r_iconst (pc := 84) (v := 1) C dX2_readArguments_84 rfl ?_
    exact r_zret (pc := 85) C rfl dX2_readArguments_85 (by have z : agv c L [3] p = (true, e0, [n0]) := (by rw [agv_2 hn0 d0]); show RG I r 0 (agv c L [3] p) X T _ _ _ _; rw [z]; exact ⟨rfl, rfl, congrArg (fun z => some (Value.int z)) (bI_t rfl).symm, _, rfl, fun _ k hk => match k, hk with | 0, _ => rfl | k + 1, hk => absurd hk (Nat.not_lt.mpr (Nat.le_add_left _ _))⟩) (by decide)
  · skip
    refine r_iconst (pc := 76) (v := 0) C dX2_readArguments_76 rfl ?_
    exact r_zret (pc := 77) C rfl dX2_readArguments_77 (by have z : agv c L [3] p = (false, p, []) := (by rw [agv_1 hn0 c_73]); show RG I r 0 (agv c L [3] p) X T _ _ _ _; rw [z]; exact ⟨rfl, rfl, congrArg (fun z => some (Value.int z)) (bI_f Bool.false_ne_true).symm, _, (by rw [c_73]), fun h => absurd h Bool.false_ne_true⟩) (by decide)

set_option maxHeartbeats 1000000 in
theorem c_args_1 {g : GG} {X : va_W} {T : TT} {I : II} {r L : Nat} {c : Nat → Nat} (hr : isRd T r) (hR : Rdr I r L c) {p : Nat} {nm : Nat → Int32} (hp : p ≤ L)  : Mc g yX2_readArguments cX2_readArguments 4 (some .boolean) 4 0 0 [.ref r] X T (rI I r p 1 nm) (RG I r 1 (agv c L (shL 1) p) X T) := by
  have hL := hR.2.1
  refine Mc.of (by decide) (Nat.le_of_ble_eq_true rfl) (fun k hfl C => ?_)
  refine r_lo (lo' := [(0, _)]) rfl ?_
  refine r_aload_n (pc := 0) C 0 dX2_readArguments_0 rfl rfl ?_
  refine r_get9V (pc := 1) (i := 1) C f_X2_21 hr.1 rI_1 (by omega) dX2_readArguments_1 ?_
  refine r_getO (pc := 4) C (C.Z.2.2.1 1 (by omega)).2.2.2 (gx 2280 (by decide +kernel) (by decide +kernel)) dX2_readArguments_4 ?_
  refine r_st (st' := .ref (ga g (100 + 10)) :: _) rfl ?_
  refine r_astore_n (pc := 7) (lo' := [(1, _), (0, _)]) C dX2_readArguments_7 rfl (by decide) rfl ?_
  refine r_iconst (pc := 8) (v := 0) C dX2_readArguments_8 rfl ?_
  refine r_istore_n (pc := 9) (lo' := [(2, _), (1, _), (0, _)]) C dX2_readArguments_9 rfl (by decide) rfl ?_
  refine r_iload_n (pc := 10) C 0 dX2_readArguments_10 rfl rfl ?_
  refine r_aload_n (pc := 11) C 1 dX2_readArguments_11 rfl rfl ?_
  refine r_cKi (pc := 12) C hfl k_X2_76 (c_slen (i := 10) (by omega)) (C.Z.2.2.2.2.1 10 (by omega)).1 (As := []) rfl rfl (Nat.le_of_ble_eq_true rfl) (by decide) (by decide) dX2_readArguments_12 ?_
  refine r_t (y := nI 3) (by decide) ?_
  refine r_cgeN (pc := 15) (tgt := 84) C dX2_readArguments_15 rfl (by omega) (by omega) (fun c_15 => False.elim (by omega)) (fun c_15 => ?_)
  refine r_iload_n (pc := 18) C 0 dX2_readArguments_18 rfl rfl ?_
  refine r_iconst (pc := 19) (v := 5) C dX2_readArguments_19 rfl ?_
  refine r_cgeN (pc := 20) (tgt := 84) C dX2_readArguments_20 rfl (by omega) (by omega) (fun c_20 => False.elim (by omega)) (fun c_20 => ?_)
  refine r_iload_n (pc := 23) C 0 dX2_readArguments_23 rfl rfl ?_
  refine r_ifleN (pc := 24) (tgt := 38) C dX2_readArguments_24 rfl (by omega) (fun c_24 => ?_) (fun c_24 => False.elim (by omega))
  refine r_aload_n (pc := 38) C 2 dX2_readArguments_38 rfl rfl ?_
  refine r_get9I (pc := 39) C f_X2_9 hr.1 (Or.inl rfl) dX2_readArguments_39 ?_
  refine r_t (y := nI p) rI_0 ?_
  refine r_istore_n (pc := 42) (lo' := [(3, _), (2, _), (1, _), (0, _)]) C dX2_readArguments_42 rfl (by decide) rfl ?_
  refine r_aload_n (pc := 43) C 3 dX2_readArguments_43 rfl rfl ?_
  refine r_get9R (pc := 44) (x := r + 1) C f_X2_24 hr.1 (Or.inl rfl) rfl dX2_readArguments_44 ?_
  refine r_iload_n (pc := 47) C 1 dX2_readArguments_47 rfl rfl ?_
  refine r_aload_n (pc := 48) C 3 dX2_readArguments_48 rfl rfl ?_
  refine r_aload_n (pc := 49) C 2 dX2_readArguments_49 rfl rfl ?_
  refine r_iload_n (pc := 50) C 1 dX2_readArguments_50 rfl rfl ?_
  refine r_cKi (pc := 51) C hfl k_X2_81 (c_schar (i := 10) (q := 0) (by omega) (by decide)) (C.Z.2.2.2.2.1 10 (by omega)).1 (As := [_]) rfl rfl (Nat.le_of_ble_eq_true rfl) (by decide) (by decide) dX2_readArguments_51 ?_
  refine r_t (y := nI 100) (by decide) ?_
  refine r_bipush (pc := 54) (v := 100) C dX2_readArguments_54 rfl ?_
  refine r_cneN (pc := 56) (tgt := 63) C dX2_readArguments_56 rfl (by omega) (by omega) (fun c_56 => False.elim (by omega)) (fun c_56 => ?_)
  refine r_iconst (pc := 59) (v := 1) C dX2_readArguments_59 rfl ?_
  refine r_goto (pc := 60) (tgt := 64) C dX2_readArguments_60 rfl ?_
  obtain ⟨e0, n0, hn0⟩ : ∃ e n, nmv c L 1 p 0 = (e, n) := ⟨_, _, rfl⟩
  obtain ⟨x0, y0, -⟩ := nmv_le (c := c) (L := L) 1 p 0
  rw [hn0] at x0 y0
  replace x0 : p ≤ e0 := x0
  replace y0 : e0 ≤ L := y0 (by omega)
  refine r_c9i (pc := 64) C hfl k_X2_88 (c_readNumber (m := 1) hr hR (by omega) (by omega) hn0) hr.1 ca_X2 rfl rfl (Nat.le_of_ble_eq_true rfl) (by decide) (by decide) dX2_readArguments_64 ?_
  refine r_iast (pc := 67) (x := 0) C hr.2.1 rfl (by omega) (by decide) dX2_readArguments_67 ?_
  refine r_I (I' := rI I r e0 1 (upd nm 0 (nI n0))) rI_st ?_
  refine r_aload_n (pc := 68) C 3 dX2_readArguments_68 rfl rfl ?_
  refine r_get9I (pc := 69) C f_X2_9 hr.1 (Or.inl rfl) dX2_readArguments_69 ?_
  refine r_t (y := nI e0) rI_0 ?_
  refine r_iload_n (pc := 72) C 0 dX2_readArguments_72 rfl rfl ?_
  refine r_cneN (pc := 73) (tgt := 78) C dX2_readArguments_73 rfl (by omega) (by omega) (fun c_73 => ?_) (fun c_73 => ?_)
  · skip
    have d0 := c_73
    refine r_iincN (pc := 78) (m := 1) (lo' := [(2, _), (3, _), (1, _), (0, _)]) C 1 dX2_readArguments_78 rfl rfl (by decide) rfl ?_
    refine r_goto (pc := 81) (tgt := 10) C dX2_readArguments_81 rfl ?_
    refine r_iload_n (pc := 10) C 0 dX2_readArguments_10 rfl rfl ?_
    refine r_aload_n (pc := 11) C 2 dX2_readArguments_11 rfl rfl ?_
    refine r_cKi (pc := 12) C hfl k_X2_76 (c_slen (i := 10) (by omega)) (C.Z.2.2.2.2.1 10 (by omega)).1 (As := []) rfl rfl (Nat.le_of_ble_eq_true rfl) (by decide) (by decide) dX2_readArguments_12 ?_
    refine r_t (y := nI 3) (by decide) ?_
    refine r_cgeN (pc := 15) (tgt := 84) C dX2_readArguments_15 rfl (by omega) (by omega) (fun c_15 => False.elim (by omega)) (fun c_15 => ?_)
    refine r_iload_n (pc := 18) C 0 dX2_readArguments_18 rfl rfl ?_
    refine r_iconst (pc := 19) (v := 5) C dX2_readArguments_19 rfl ?_
    refine r_cgeN (pc := 20) (tgt := 84) C dX2_readArguments_20 rfl (by omega) (by omega) (fun c_20 => False.elim (by omega)) (fun c_20 => ?_)
    refine r_iload_n (pc := 23) C 0 dX2_readArguments_23 rfl rfl ?_
    refine r_ifleN (pc := 24) (tgt := 38) C dX2_readArguments_24 rfl (by omega) (fun c_24 => False.elim (by omega)) (fun c_24 => ?_)
    refine r_aload_n (pc := 27) C 3 dX2_readArguments_27 rfl rfl ?_
    refine r_bipush (pc := 28) (v := 32) C dX2_readArguments_28 rfl ?_
    refine r_c9i (pc := 30) C hfl k_X2_50 (c_sign (x := 32) hr hR (p := e0) (by omega) (by decide)) hr.1 ca_X2 rfl rfl (Nat.le_of_ble_eq_true rfl) (by decide) (by decide) dX2_readArguments_30 ?_
    refine r_ifneB (pc := 33) (tgt := 38) C dX2_readArguments_33 rfl (fun c_33 => ?_) (fun c_33 => ?_)
    · skip
      have hs0 := c_33
      refine r_I (I' := rI I r (e0 + 1) 1 (upd nm 0 (nI n0))) (by rw [if_pos c_33]) ?_
      refine r_aload_n (pc := 38) C 3 dX2_readArguments_38 rfl rfl ?_
      refine r_get9I (pc := 39) C f_X2_9 hr.1 (Or.inl rfl) dX2_readArguments_39 ?_
      refine r_t (y := nI ((e0 + 1))) rI_0 ?_
      refine r_istore_n (pc := 42) (lo' := [(3, _), (2, _), (1, _), (0, _)]) C dX2_readArguments_42 rfl (by decide) rfl ?_
      refine r_aload_n (pc := 43) C 3 dX2_readArguments_43 rfl rfl ?_
      refine r_get9R (pc := 44) (x := r + 1) C f_X2_24 hr.1 (Or.inl rfl) rfl dX2_readArguments_44 ?_
      refine r_iload_n (pc := 47) C 1 dX2_readArguments_47 rfl rfl ?_
      refine r_aload_n (pc := 48) C 3 dX2_readArguments_48 rfl rfl ?_
      refine r_aload_n (pc := 49) C 2 dX2_readArguments_49 rfl rfl ?_
      refine r_iload_n (pc := 50) C 1 dX2_readArguments_50 rfl rfl ?_
      refine r_cKi (pc := 51) C hfl k_X2_81 (c_schar (i := 10) (q := 0 + 1) (by omega) (by decide)) (C.Z.2.2.2.2.1 10 (by omega)).1 (As := [_]) rfl rfl (Nat.le_of_ble_eq_true rfl) (by decide) (by decide) dX2_readArguments_51 ?_
      refine r_t (y := nI 100) (by decide) ?_
      refine r_bipush (pc := 54) (v := 100) C dX2_readArguments_54 rfl ?_
      refine r_cneN (pc := 56) (tgt := 63) C dX2_readArguments_56 rfl (by omega) (by omega) (fun c_56 => False.elim (by omega)) (fun c_56 => ?_)
      refine r_iconst (pc := 59) (v := 1) C dX2_readArguments_59 rfl ?_
      refine r_goto (pc := 60) (tgt := 64) C dX2_readArguments_60 rfl ?_
      obtain ⟨e1, n1, hn1⟩ : ∃ e n, nmv c L 1 (e0 + 1) 0 = (e, n) := ⟨_, _, rfl⟩
      obtain ⟨x1, y1, -⟩ := nmv_le (c := c) (L := L) 1 (e0 + 1) 0
      rw [hn1] at x1 y1
      replace x1 : (e0 + 1) ≤ e1 := x1
      replace y1 : e1 ≤ L := y1 (by omega)
      refine r_c9i (pc := 64) C hfl k_X2_88 (c_readNumber (m := 1) hr hR (by omega) (by omega) hn1) hr.1 ca_X2 rfl rfl (Nat.le_of_ble_eq_true rfl) (by decide) (by decide) dX2_readArguments_64 ?_
      refine r_iast (pc := 67) (x := 0 + 1) C hr.2.1 rfl (by omega) (by decide) dX2_readArguments_67 ?_
      refine r_I (I' := rI I r e1 1 (upd (upd nm 0 (nI n0)) (0 + 1) (nI n1))) rI_st ?_
      refine r_aload_n (pc := 68) C 3 dX2_readArguments_68 rfl rfl ?_
      refine r_get9I (pc := 69) C f_X2_9 hr.1 (Or.inl rfl) dX2_readArguments_69 ?_
      refine r_t (y := nI e1) rI_0 ?_
      refine r_iload_n (pc := 72) C 0 dX2_readArguments_72 rfl rfl ?_
      refine r_cneN (pc := 73) (tgt := 78) C dX2_readArguments_73 rfl (by omega) (by omega) (fun c_73 => ?_) (fun c_73 => ?_)
      · skip
        have d1 := c_73
        refine r_iincN (pc := 78) (m := 1) (lo' := [(2, _), (3, _), (1, _), (0, _)]) C 1 dX2_readArguments_78 rfl rfl (by decide) rfl ?_
        refine r_goto (pc := 81) (tgt := 10) C dX2_readArguments_81 rfl ?_
        refine r_iload_n (pc := 10) C 0 dX2_readArguments_10 rfl rfl ?_
        refine r_aload_n (pc := 11) C 2 dX2_readArguments_11 rfl rfl ?_
        refine r_cKi (pc := 12) C hfl k_X2_76 (c_slen (i := 10) (by omega)) (C.Z.2.2.2.2.1 10 (by omega)).1 (As := []) rfl rfl (Nat.le_of_ble_eq_true rfl) (by decide) (by decide) dX2_readArguments_12 ?_
        refine r_t (y := nI 3) (by decide) ?_
        refine r_cgeN (pc := 15) (tgt := 84) C dX2_readArguments_15 rfl (by omega) (by omega) (fun c_15 => False.elim (by omega)) (fun c_15 => ?_)
        refine r_iload_n (pc := 18) C 0 dX2_readArguments_18 rfl rfl ?_
        refine r_iconst (pc := 19) (v := 5) C dX2_readArguments_19 rfl ?_
        refine r_cgeN (pc := 20) (tgt := 84) C dX2_readArguments_20 rfl (by omega) (by omega) (fun c_20 => False.elim (by omega)) (fun c_20 => ?_)
        refine r_iload_n (pc := 23) C 0 dX2_readArguments_23 rfl rfl ?_
        refine r_ifleN (pc := 24) (tgt := 38) C dX2_readArguments_24 rfl (by omega) (fun c_24 => False.elim (by omega)) (fun c_24 => ?_)
        refine r_aload_n (pc := 27) C 3 dX2_readArguments_27 rfl rfl ?_
        refine r_bipush (pc := 28) (v := 32) C dX2_readArguments_28 rfl ?_
        refine r_c9i (pc := 30) C hfl k_X2_50 (c_sign (x := 32) hr hR (p := e1) (by omega) (by decide)) hr.1 ca_X2 rfl rfl (Nat.le_of_ble_eq_true rfl) (by decide) (by decide) dX2_readArguments_30 ?_
        refine r_ifneB (pc := 33) (tgt := 38) C dX2_readArguments_33 rfl (fun c_33 => ?_) (fun c_33 => ?_)
        · skip
          have hs1 := c_33
          refine r_I (I' := rI I r (e1 + 1) 1 (upd (upd nm 0 (nI n0)) (0 + 1) (nI n1))) (by rw [if_pos c_33]) ?_
          refine r_aload_n (pc := 38) C 3 dX2_readArguments_38 rfl rfl ?_
          refine r_get9I (pc := 39) C f_X2_9 hr.1 (Or.inl rfl) dX2_readArguments_39 ?_
          refine r_t (y := nI ((e1 + 1))) rI_0 ?_
          refine r_istore_n (pc := 42) (lo' := [(3, _), (2, _), (1, _), (0, _)]) C dX2_readArguments_42 rfl (by decide) rfl ?_
          refine r_aload_n (pc := 43) C 3 dX2_readArguments_43 rfl rfl ?_
          refine r_get9R (pc := 44) (x := r + 1) C f_X2_24 hr.1 (Or.inl rfl) rfl dX2_readArguments_44 ?_
          refine r_iload_n (pc := 47) C 1 dX2_readArguments_47 rfl rfl ?_
          refine r_aload_n (pc := 48) C 3 dX2_readArguments_48 rfl rfl ?_
          refine r_aload_n (pc := 49) C 2 dX2_readArguments_49 rfl rfl ?_
          refine r_iload_n (pc := 50) C 1 dX2_readArguments_50 rfl rfl ?_
          refine r_cKi (pc := 51) C hfl k_X2_81 (c_schar (i := 10) (q := 0 + 1 + 1) (by omega) (by decide)) (C.Z.2.2.2.2.1 10 (by omega)).1 (As := [_]) rfl rfl (Nat.le_of_ble_eq_true rfl) (by decide) (by decide) dX2_readArguments_51 ?_
          refine r_t (y := nI 110) (by decide) ?_
          refine r_bipush (pc := 54) (v := 100) C dX2_readArguments_54 rfl ?_
          refine r_cneN (pc := 56) (tgt := 63) C dX2_readArguments_56 rfl (by omega) (by omega) (fun c_56 => ?_) (fun c_56 => False.elim (by omega))
          refine r_iconst (pc := 63) (v := 3) C dX2_readArguments_63 rfl ?_
          obtain ⟨e2, n2, hn2⟩ : ∃ e n, nmv c L 3 (e1 + 1) 0 = (e, n) := ⟨_, _, rfl⟩
          obtain ⟨x2, y2, -⟩ := nmv_le (c := c) (L := L) 3 (e1 + 1) 0
          rw [hn2] at x2 y2
          replace x2 : (e1 + 1) ≤ e2 := x2
          replace y2 : e2 ≤ L := y2 (by omega)
          refine r_c9i (pc := 64) C hfl k_X2_88 (c_readNumber (m := 3) hr hR (by omega) (by omega) hn2) hr.1 ca_X2 rfl rfl (Nat.le_of_ble_eq_true rfl) (by decide) (by decide) dX2_readArguments_64 ?_
          refine r_iast (pc := 67) (x := 0 + 1 + 1) C hr.2.1 rfl (by omega) (by decide) dX2_readArguments_67 ?_
          refine r_I (I' := rI I r e2 1 (upd (upd (upd nm 0 (nI n0)) (0 + 1) (nI n1)) (0 + 1 + 1) (nI n2))) rI_st ?_
          refine r_aload_n (pc := 68) C 3 dX2_readArguments_68 rfl rfl ?_
          refine r_get9I (pc := 69) C f_X2_9 hr.1 (Or.inl rfl) dX2_readArguments_69 ?_
          refine r_t (y := nI e2) rI_0 ?_
          refine r_iload_n (pc := 72) C 0 dX2_readArguments_72 rfl rfl ?_
          refine r_cneN (pc := 73) (tgt := 78) C dX2_readArguments_73 rfl (by omega) (by omega) (fun c_73 => ?_) (fun c_73 => ?_)
          · skip
            have d2 := c_73
            refine r_iincN (pc := 78) (m := 1) (lo' := [(2, _), (3, _), (1, _), (0, _)]) C 1 dX2_readArguments_78 rfl rfl (by decide) rfl ?_
            refine r_goto (pc := 81) (tgt := 10) C dX2_readArguments_81 rfl ?_
            refine r_iload_n (pc := 10) C 0 dX2_readArguments_10 rfl rfl ?_
            refine r_aload_n (pc := 11) C 2 dX2_readArguments_11 rfl rfl ?_
            refine r_cKi (pc := 12) C hfl k_X2_76 (c_slen (i := 10) (by omega)) (C.Z.2.2.2.2.1 10 (by omega)).1 (As := []) rfl rfl (Nat.le_of_ble_eq_true rfl) (by decide) (by decide) dX2_readArguments_12 ?_
            refine r_t (y := nI 3) (by decide) ?_
            refine r_cgeN (pc := 15) (tgt := 84) C dX2_readArguments_15 rfl (by omega) (by omega) (fun c_15 => ?_) (fun c_15 => False.elim (by omega))
            refine r_iconst (pc := 84) (v := 1) C dX2_readArguments_84 rfl ?_
            exact r_zret (pc := 85) C rfl dX2_readArguments_85 (by have z : agv c L [1, 1, 3] p = (true, e2, [n0, n1, n2]) := (by rw [agv_3 hn0 d0 hs0, agv_3 hn1 d1 hs1, agv_2 hn2 d2]); show RG I r 1 (agv c L [1, 1, 3] p) X T _ _ _ _; rw [z]; exact ⟨rfl, rfl, congrArg (fun z => some (Value.int z)) (bI_t rfl).symm, _, rfl, fun _ k hk => match k, hk with | 0, _ => rfl | 1, _ => rfl | 2, _ => rfl | k + 3, hk => absurd hk (Nat.not_lt.mpr (Nat.le_add_left _ _))⟩) (by decide)
          · skip
            refine r_iconst (pc := 76) (v := 0) C dX2_readArguments_76 rfl ?_
            exact r_zret (pc := 77) C rfl dX2_readArguments_77 (by have z : agv c L [1, 1, 3] p = (false, (e1 + 1), n0 :: n1 :: []) := (by rw [agv_3 hn0 d0 hs0, agv_3 hn1 d1 hs1, agv_1 hn2 c_73]); show RG I r 1 (agv c L [1, 1, 3] p) X T _ _ _ _; rw [z]; exact ⟨rfl, rfl, congrArg (fun z => some (Value.int z)) (bI_f Bool.false_ne_true).symm, _, (by rw [c_73]), fun h => absurd h Bool.false_ne_true⟩) (by decide)
        · skip
          refine r_I (I' := rI I r e1 1 (upd (upd nm 0 (nI n0)) (0 + 1) (nI n1))) (by rw [if_neg c_33]) ?_
          refine r_iconst (pc := 36) (v := 0) C dX2_readArguments_36 rfl ?_
          exact r_zret (pc := 37) C rfl dX2_readArguments_37 (by have z : agv c L [1, 1, 3] p = (false, e1, n0 :: []) := (by rw [agv_3 hn0 d0 hs0, agv_4 hn1 d1 c_33]); show RG I r 1 (agv c L [1, 1, 3] p) X T _ _ _ _; rw [z]; exact ⟨rfl, rfl, congrArg (fun z => some (Value.int z)) (bI_f Bool.false_ne_true).symm, _, rfl, fun h => absurd h Bool.false_ne_true⟩) (by decide)
      · skip
        refine r_iconst (pc := 76) (v := 0) C dX2_readArguments_76 rfl ?_
        exact r_zret (pc := 77) C rfl dX2_readArguments_77 (by have z : agv c L [1, 1, 3] p = (false, (e0 + 1), n0 :: []) := (by rw [agv_3 hn0 d0 hs0, agv_1 hn1 c_73]); show RG I r 1 (agv c L [1, 1, 3] p) X T _ _ _ _; rw [z]; exact ⟨rfl, rfl, congrArg (fun z => some (Value.int z)) (bI_f Bool.false_ne_true).symm, _, (by rw [c_73]), fun h => absurd h Bool.false_ne_true⟩) (by decide)
    · skip
      refine r_I (I' := rI I r e0 1 (upd nm 0 (nI n0))) (by rw [if_neg c_33]) ?_
      refine r_iconst (pc := 36) (v := 0) C dX2_readArguments_36 rfl ?_
      exact r_zret (pc := 37) C rfl dX2_readArguments_37 (by have z : agv c L [1, 1, 3] p = (false, e0, []) := (by rw [agv_4 hn0 d0 c_33]); show RG I r 1 (agv c L [1, 1, 3] p) X T _ _ _ _; rw [z]; exact ⟨rfl, rfl, congrArg (fun z => some (Value.int z)) (bI_f Bool.false_ne_true).symm, _, rfl, fun h => absurd h Bool.false_ne_true⟩) (by decide)
  · skip
    refine r_iconst (pc := 76) (v := 0) C dX2_readArguments_76 rfl ?_
    exact r_zret (pc := 77) C rfl dX2_readArguments_77 (by have z : agv c L [1, 1, 3] p = (false, p, []) := (by rw [agv_1 hn0 c_73]); show RG I r 1 (agv c L [1, 1, 3] p) X T _ _ _ _; rw [z]; exact ⟨rfl, rfl, congrArg (fun z => some (Value.int z)) (bI_f Bool.false_ne_true).symm, _, (by rw [c_73]), fun h => absurd h Bool.false_ne_true⟩) (by decide)

set_option maxHeartbeats 1000000 in
theorem c_args_2 {g : GG} {X : va_W} {T : TT} {I : II} {r L : Nat} {c : Nat → Nat} (hr : isRd T r) (hR : Rdr I r L c) {p : Nat} {nm : Nat → Int32} (hp : p ≤ L)  : Mc g yX2_readArguments cX2_readArguments 4 (some .boolean) 4 0 0 [.ref r] X T (rI I r p 2 nm) (RG I r 2 (agv c L (shL 2) p) X T) := by
  have hL := hR.2.1
  refine Mc.of (by decide) (Nat.le_of_ble_eq_true rfl) (fun k hfl C => ?_)
  refine r_lo (lo' := [(0, _)]) rfl ?_
  refine r_aload_n (pc := 0) C 0 dX2_readArguments_0 rfl rfl ?_
  refine r_get9V (pc := 1) (i := 2) C f_X2_21 hr.1 rI_1 (by omega) dX2_readArguments_1 ?_
  refine r_getO (pc := 4) C (C.Z.2.2.1 2 (by omega)).2.2.2 (gx 2280 (by decide +kernel) (by decide +kernel)) dX2_readArguments_4 ?_
  refine r_st (st' := .ref (ga g (100 + 11)) :: _) rfl ?_
  refine r_astore_n (pc := 7) (lo' := [(1, _), (0, _)]) C dX2_readArguments_7 rfl (by decide) rfl ?_
  refine r_iconst (pc := 8) (v := 0) C dX2_readArguments_8 rfl ?_
  refine r_istore_n (pc := 9) (lo' := [(2, _), (1, _), (0, _)]) C dX2_readArguments_9 rfl (by decide) rfl ?_
  refine r_iload_n (pc := 10) C 0 dX2_readArguments_10 rfl rfl ?_
  refine r_aload_n (pc := 11) C 1 dX2_readArguments_11 rfl rfl ?_
  refine r_cKi (pc := 12) C hfl k_X2_76 (c_slen (i := 11) (by omega)) (C.Z.2.2.2.2.1 11 (by omega)).1 (As := []) rfl rfl (Nat.le_of_ble_eq_true rfl) (by decide) (by decide) dX2_readArguments_12 ?_
  refine r_t (y := nI 2) (by decide) ?_
  refine r_cgeN (pc := 15) (tgt := 84) C dX2_readArguments_15 rfl (by omega) (by omega) (fun c_15 => False.elim (by omega)) (fun c_15 => ?_)
  refine r_iload_n (pc := 18) C 0 dX2_readArguments_18 rfl rfl ?_
  refine r_iconst (pc := 19) (v := 5) C dX2_readArguments_19 rfl ?_
  refine r_cgeN (pc := 20) (tgt := 84) C dX2_readArguments_20 rfl (by omega) (by omega) (fun c_20 => False.elim (by omega)) (fun c_20 => ?_)
  refine r_iload_n (pc := 23) C 0 dX2_readArguments_23 rfl rfl ?_
  refine r_ifleN (pc := 24) (tgt := 38) C dX2_readArguments_24 rfl (by omega) (fun c_24 => ?_) (fun c_24 => False.elim (by omega))
  refine r_aload_n (pc := 38) C 2 dX2_readArguments_38 rfl rfl ?_
  refine r_get9I (pc := 39) C f_X2_9 hr.1 (Or.inl rfl) dX2_readArguments_39 ?_
  refine r_t (y := nI p) rI_0 ?_
  refine r_istore_n (pc := 42) (lo' := [(3, _), (2, _), (1, _), (0, _)]) C dX2_readArguments_42 rfl (by decide) rfl ?_
  refine r_aload_n (pc := 43) C 3 dX2_readArguments_43 rfl rfl ?_
  refine r_get9R (pc := 44) (x := r + 1) C f_X2_24 hr.1 (Or.inl rfl) rfl dX2_readArguments_44 ?_
  refine r_iload_n (pc := 47) C 1 dX2_readArguments_47 rfl rfl ?_
  refine r_aload_n (pc := 48) C 3 dX2_readArguments_48 rfl rfl ?_
  refine r_aload_n (pc := 49) C 2 dX2_readArguments_49 rfl rfl ?_
  refine r_iload_n (pc := 50) C 1 dX2_readArguments_50 rfl rfl ?_
  refine r_cKi (pc := 51) C hfl k_X2_81 (c_schar (i := 11) (q := 0) (by omega) (by decide)) (C.Z.2.2.2.2.1 11 (by omega)).1 (As := [_]) rfl rfl (Nat.le_of_ble_eq_true rfl) (by decide) (by decide) dX2_readArguments_51 ?_
  refine r_t (y := nI 100) (by decide) ?_
  refine r_bipush (pc := 54) (v := 100) C dX2_readArguments_54 rfl ?_
  refine r_cneN (pc := 56) (tgt := 63) C dX2_readArguments_56 rfl (by omega) (by omega) (fun c_56 => False.elim (by omega)) (fun c_56 => ?_)
  refine r_iconst (pc := 59) (v := 1) C dX2_readArguments_59 rfl ?_
  refine r_goto (pc := 60) (tgt := 64) C dX2_readArguments_60 rfl ?_
  obtain ⟨e0, n0, hn0⟩ : ∃ e n, nmv c L 1 p 0 = (e, n) := ⟨_, _, rfl⟩
  obtain ⟨x0, y0, -⟩ := nmv_le (c := c) (L := L) 1 p 0
  rw [hn0] at x0 y0
  replace x0 : p ≤ e0 := x0
  replace y0 : e0 ≤ L := y0 (by omega)
  refine r_c9i (pc := 64) C hfl k_X2_88 (c_readNumber (m := 1) hr hR (by omega) (by omega) hn0) hr.1 ca_X2 rfl rfl (Nat.le_of_ble_eq_true rfl) (by decide) (by decide) dX2_readArguments_64 ?_
  refine r_iast (pc := 67) (x := 0) C hr.2.1 rfl (by omega) (by decide) dX2_readArguments_67 ?_
  refine r_I (I' := rI I r e0 2 (upd nm 0 (nI n0))) rI_st ?_
  refine r_aload_n (pc := 68) C 3 dX2_readArguments_68 rfl rfl ?_
  refine r_get9I (pc := 69) C f_X2_9 hr.1 (Or.inl rfl) dX2_readArguments_69 ?_
  refine r_t (y := nI e0) rI_0 ?_
  refine r_iload_n (pc := 72) C 0 dX2_readArguments_72 rfl rfl ?_
  refine r_cneN (pc := 73) (tgt := 78) C dX2_readArguments_73 rfl (by omega) (by omega) (fun c_73 => ?_) (fun c_73 => ?_)
  · skip
    have d0 := c_73
    refine r_iincN (pc := 78) (m := 1) (lo' := [(2, _), (3, _), (1, _), (0, _)]) C 1 dX2_readArguments_78 rfl rfl (by decide) rfl ?_
    refine r_goto (pc := 81) (tgt := 10) C dX2_readArguments_81 rfl ?_
    refine r_iload_n (pc := 10) C 0 dX2_readArguments_10 rfl rfl ?_
    refine r_aload_n (pc := 11) C 2 dX2_readArguments_11 rfl rfl ?_
    refine r_cKi (pc := 12) C hfl k_X2_76 (c_slen (i := 11) (by omega)) (C.Z.2.2.2.2.1 11 (by omega)).1 (As := []) rfl rfl (Nat.le_of_ble_eq_true rfl) (by decide) (by decide) dX2_readArguments_12 ?_
    refine r_t (y := nI 2) (by decide) ?_
    refine r_cgeN (pc := 15) (tgt := 84) C dX2_readArguments_15 rfl (by omega) (by omega) (fun c_15 => False.elim (by omega)) (fun c_15 => ?_)
    refine r_iload_n (pc := 18) C 0 dX2_readArguments_18 rfl rfl ?_
    refine r_iconst (pc := 19) (v := 5) C dX2_readArguments_19 rfl ?_
    refine r_cgeN (pc := 20) (tgt := 84) C dX2_readArguments_20 rfl (by omega) (by omega) (fun c_20 => False.elim (by omega)) (fun c_20 => ?_)
    refine r_iload_n (pc := 23) C 0 dX2_readArguments_23 rfl rfl ?_
    refine r_ifleN (pc := 24) (tgt := 38) C dX2_readArguments_24 rfl (by omega) (fun c_24 => False.elim (by omega)) (fun c_24 => ?_)
    refine r_aload_n (pc := 27) C 3 dX2_readArguments_27 rfl rfl ?_
    refine r_bipush (pc := 28) (v := 32) C dX2_readArguments_28 rfl ?_
    refine r_c9i (pc := 30) C hfl k_X2_50 (c_sign (x := 32) hr hR (p := e0) (by omega) (by decide)) hr.1 ca_X2 rfl rfl (Nat.le_of_ble_eq_true rfl) (by decide) (by decide) dX2_readArguments_30 ?_
    refine r_ifneB (pc := 33) (tgt := 38) C dX2_readArguments_33 rfl (fun c_33 => ?_) (fun c_33 => ?_)
    · skip
      have hs0 := c_33
      refine r_I (I' := rI I r (e0 + 1) 2 (upd nm 0 (nI n0))) (by rw [if_pos c_33]) ?_
      refine r_aload_n (pc := 38) C 3 dX2_readArguments_38 rfl rfl ?_
      refine r_get9I (pc := 39) C f_X2_9 hr.1 (Or.inl rfl) dX2_readArguments_39 ?_
      refine r_t (y := nI ((e0 + 1))) rI_0 ?_
      refine r_istore_n (pc := 42) (lo' := [(3, _), (2, _), (1, _), (0, _)]) C dX2_readArguments_42 rfl (by decide) rfl ?_
      refine r_aload_n (pc := 43) C 3 dX2_readArguments_43 rfl rfl ?_
      refine r_get9R (pc := 44) (x := r + 1) C f_X2_24 hr.1 (Or.inl rfl) rfl dX2_readArguments_44 ?_
      refine r_iload_n (pc := 47) C 1 dX2_readArguments_47 rfl rfl ?_
      refine r_aload_n (pc := 48) C 3 dX2_readArguments_48 rfl rfl ?_
      refine r_aload_n (pc := 49) C 2 dX2_readArguments_49 rfl rfl ?_
      refine r_iload_n (pc := 50) C 1 dX2_readArguments_50 rfl rfl ?_
      refine r_cKi (pc := 51) C hfl k_X2_81 (c_schar (i := 11) (q := 0 + 1) (by omega) (by decide)) (C.Z.2.2.2.2.1 11 (by omega)).1 (As := [_]) rfl rfl (Nat.le_of_ble_eq_true rfl) (by decide) (by decide) dX2_readArguments_51 ?_
      refine r_t (y := nI 110) (by decide) ?_
      refine r_bipush (pc := 54) (v := 100) C dX2_readArguments_54 rfl ?_
      refine r_cneN (pc := 56) (tgt := 63) C dX2_readArguments_56 rfl (by omega) (by omega) (fun c_56 => ?_) (fun c_56 => False.elim (by omega))
      refine r_iconst (pc := 63) (v := 3) C dX2_readArguments_63 rfl ?_
      obtain ⟨e1, n1, hn1⟩ : ∃ e n, nmv c L 3 (e0 + 1) 0 = (e, n) := ⟨_, _, rfl⟩
      obtain ⟨x1, y1, -⟩ := nmv_le (c := c) (L := L) 3 (e0 + 1) 0
      rw [hn1] at x1 y1
      replace x1 : (e0 + 1) ≤ e1 := x1
      replace y1 : e1 ≤ L := y1 (by omega)
      refine r_c9i (pc := 64) C hfl k_X2_88 (c_readNumber (m := 3) hr hR (by omega) (by omega) hn1) hr.1 ca_X2 rfl rfl (Nat.le_of_ble_eq_true rfl) (by decide) (by decide) dX2_readArguments_64 ?_
      refine r_iast (pc := 67) (x := 0 + 1) C hr.2.1 rfl (by omega) (by decide) dX2_readArguments_67 ?_
      refine r_I (I' := rI I r e1 2 (upd (upd nm 0 (nI n0)) (0 + 1) (nI n1))) rI_st ?_
      refine r_aload_n (pc := 68) C 3 dX2_readArguments_68 rfl rfl ?_
      refine r_get9I (pc := 69) C f_X2_9 hr.1 (Or.inl rfl) dX2_readArguments_69 ?_
      refine r_t (y := nI e1) rI_0 ?_
      refine r_iload_n (pc := 72) C 0 dX2_readArguments_72 rfl rfl ?_
      refine r_cneN (pc := 73) (tgt := 78) C dX2_readArguments_73 rfl (by omega) (by omega) (fun c_73 => ?_) (fun c_73 => ?_)
      · skip
        have d1 := c_73
        refine r_iincN (pc := 78) (m := 1) (lo' := [(2, _), (3, _), (1, _), (0, _)]) C 1 dX2_readArguments_78 rfl rfl (by decide) rfl ?_
        refine r_goto (pc := 81) (tgt := 10) C dX2_readArguments_81 rfl ?_
        refine r_iload_n (pc := 10) C 0 dX2_readArguments_10 rfl rfl ?_
        refine r_aload_n (pc := 11) C 2 dX2_readArguments_11 rfl rfl ?_
        refine r_cKi (pc := 12) C hfl k_X2_76 (c_slen (i := 11) (by omega)) (C.Z.2.2.2.2.1 11 (by omega)).1 (As := []) rfl rfl (Nat.le_of_ble_eq_true rfl) (by decide) (by decide) dX2_readArguments_12 ?_
        refine r_t (y := nI 2) (by decide) ?_
        refine r_cgeN (pc := 15) (tgt := 84) C dX2_readArguments_15 rfl (by omega) (by omega) (fun c_15 => ?_) (fun c_15 => False.elim (by omega))
        refine r_iconst (pc := 84) (v := 1) C dX2_readArguments_84 rfl ?_
        exact r_zret (pc := 85) C rfl dX2_readArguments_85 (by have z : agv c L [1, 3] p = (true, e1, [n0, n1]) := (by rw [agv_3 hn0 d0 hs0, agv_2 hn1 d1]); show RG I r 2 (agv c L [1, 3] p) X T _ _ _ _; rw [z]; exact ⟨rfl, rfl, congrArg (fun z => some (Value.int z)) (bI_t rfl).symm, _, rfl, fun _ k hk => match k, hk with | 0, _ => rfl | 1, _ => rfl | k + 2, hk => absurd hk (Nat.not_lt.mpr (Nat.le_add_left _ _))⟩) (by decide)
      · skip
        refine r_iconst (pc := 76) (v := 0) C dX2_readArguments_76 rfl ?_
        exact r_zret (pc := 77) C rfl dX2_readArguments_77 (by have z : agv c L [1, 3] p = (false, (e0 + 1), n0 :: []) := (by rw [agv_3 hn0 d0 hs0, agv_1 hn1 c_73]); show RG I r 2 (agv c L [1, 3] p) X T _ _ _ _; rw [z]; exact ⟨rfl, rfl, congrArg (fun z => some (Value.int z)) (bI_f Bool.false_ne_true).symm, _, (by rw [c_73]), fun h => absurd h Bool.false_ne_true⟩) (by decide)
    · skip
      refine r_I (I' := rI I r e0 2 (upd nm 0 (nI n0))) (by rw [if_neg c_33]) ?_
      refine r_iconst (pc := 36) (v := 0) C dX2_readArguments_36 rfl ?_
      exact r_zret (pc := 37) C rfl dX2_readArguments_37 (by have z : agv c L [1, 3] p = (false, e0, []) := (by rw [agv_4 hn0 d0 c_33]); show RG I r 2 (agv c L [1, 3] p) X T _ _ _ _; rw [z]; exact ⟨rfl, rfl, congrArg (fun z => some (Value.int z)) (bI_f Bool.false_ne_true).symm, _, rfl, fun h => absurd h Bool.false_ne_true⟩) (by decide)
  · skip
    refine r_iconst (pc := 76) (v := 0) C dX2_readArguments_76 rfl ?_
    exact r_zret (pc := 77) C rfl dX2_readArguments_77 (by have z : agv c L [1, 3] p = (false, p, []) := (by rw [agv_1 hn0 c_73]); show RG I r 2 (agv c L [1, 3] p) X T _ _ _ _; rw [z]; exact ⟨rfl, rfl, congrArg (fun z => some (Value.int z)) (bI_f Bool.false_ne_true).symm, _, (by rw [c_73]), fun h => absurd h Bool.false_ne_true⟩) (by decide)

set_option maxHeartbeats 1000000 in
theorem c_args_3 {g : GG} {X : va_W} {T : TT} {I : II} {r L : Nat} {c : Nat → Nat} (hr : isRd T r) (hR : Rdr I r L c) {p : Nat} {nm : Nat → Int32} (hp : p ≤ L)  : Mc g yX2_readArguments cX2_readArguments 4 (some .boolean) 4 0 0 [.ref r] X T (rI I r p 3 nm) (RG I r 3 (agv c L (shL 3) p) X T) := by
  have hL := hR.2.1
  refine Mc.of (by decide) (Nat.le_of_ble_eq_true rfl) (fun k hfl C => ?_)
  refine r_lo (lo' := [(0, _)]) rfl ?_
  refine r_aload_n (pc := 0) C 0 dX2_readArguments_0 rfl rfl ?_
  refine r_get9V (pc := 1) (i := 3) C f_X2_21 hr.1 rI_1 (by omega) dX2_readArguments_1 ?_
  refine r_getO (pc := 4) C (C.Z.2.2.1 3 (by omega)).2.2.2 (gx 2280 (by decide +kernel) (by decide +kernel)) dX2_readArguments_4 ?_
  refine r_st (st' := .ref (ga g (100 + 12)) :: _) rfl ?_
  refine r_astore_n (pc := 7) (lo' := [(1, _), (0, _)]) C dX2_readArguments_7 rfl (by decide) rfl ?_
  refine r_iconst (pc := 8) (v := 0) C dX2_readArguments_8 rfl ?_
  refine r_istore_n (pc := 9) (lo' := [(2, _), (1, _), (0, _)]) C dX2_readArguments_9 rfl (by decide) rfl ?_
  refine r_iload_n (pc := 10) C 0 dX2_readArguments_10 rfl rfl ?_
  refine r_aload_n (pc := 11) C 1 dX2_readArguments_11 rfl rfl ?_
  refine r_cKi (pc := 12) C hfl k_X2_76 (c_slen (i := 12) (by omega)) (C.Z.2.2.2.2.1 12 (by omega)).1 (As := []) rfl rfl (Nat.le_of_ble_eq_true rfl) (by decide) (by decide) dX2_readArguments_12 ?_
  refine r_t (y := nI 5) (by decide) ?_
  refine r_cgeN (pc := 15) (tgt := 84) C dX2_readArguments_15 rfl (by omega) (by omega) (fun c_15 => False.elim (by omega)) (fun c_15 => ?_)
  refine r_iload_n (pc := 18) C 0 dX2_readArguments_18 rfl rfl ?_
  refine r_iconst (pc := 19) (v := 5) C dX2_readArguments_19 rfl ?_
  refine r_cgeN (pc := 20) (tgt := 84) C dX2_readArguments_20 rfl (by omega) (by omega) (fun c_20 => False.elim (by omega)) (fun c_20 => ?_)
  refine r_iload_n (pc := 23) C 0 dX2_readArguments_23 rfl rfl ?_
  refine r_ifleN (pc := 24) (tgt := 38) C dX2_readArguments_24 rfl (by omega) (fun c_24 => ?_) (fun c_24 => False.elim (by omega))
  refine r_aload_n (pc := 38) C 2 dX2_readArguments_38 rfl rfl ?_
  refine r_get9I (pc := 39) C f_X2_9 hr.1 (Or.inl rfl) dX2_readArguments_39 ?_
  refine r_t (y := nI p) rI_0 ?_
  refine r_istore_n (pc := 42) (lo' := [(3, _), (2, _), (1, _), (0, _)]) C dX2_readArguments_42 rfl (by decide) rfl ?_
  refine r_aload_n (pc := 43) C 3 dX2_readArguments_43 rfl rfl ?_
  refine r_get9R (pc := 44) (x := r + 1) C f_X2_24 hr.1 (Or.inl rfl) rfl dX2_readArguments_44 ?_
  refine r_iload_n (pc := 47) C 1 dX2_readArguments_47 rfl rfl ?_
  refine r_aload_n (pc := 48) C 3 dX2_readArguments_48 rfl rfl ?_
  refine r_aload_n (pc := 49) C 2 dX2_readArguments_49 rfl rfl ?_
  refine r_iload_n (pc := 50) C 1 dX2_readArguments_50 rfl rfl ?_
  refine r_cKi (pc := 51) C hfl k_X2_81 (c_schar (i := 12) (q := 0) (by omega) (by decide)) (C.Z.2.2.2.2.1 12 (by omega)).1 (As := [_]) rfl rfl (Nat.le_of_ble_eq_true rfl) (by decide) (by decide) dX2_readArguments_51 ?_
  refine r_t (y := nI 100) (by decide) ?_
  refine r_bipush (pc := 54) (v := 100) C dX2_readArguments_54 rfl ?_
  refine r_cneN (pc := 56) (tgt := 63) C dX2_readArguments_56 rfl (by omega) (by omega) (fun c_56 => False.elim (by omega)) (fun c_56 => ?_)
  refine r_iconst (pc := 59) (v := 1) C dX2_readArguments_59 rfl ?_
  refine r_goto (pc := 60) (tgt := 64) C dX2_readArguments_60 rfl ?_
  obtain ⟨e0, n0, hn0⟩ : ∃ e n, nmv c L 1 p 0 = (e, n) := ⟨_, _, rfl⟩
  obtain ⟨x0, y0, -⟩ := nmv_le (c := c) (L := L) 1 p 0
  rw [hn0] at x0 y0
  replace x0 : p ≤ e0 := x0
  replace y0 : e0 ≤ L := y0 (by omega)
  refine r_c9i (pc := 64) C hfl k_X2_88 (c_readNumber (m := 1) hr hR (by omega) (by omega) hn0) hr.1 ca_X2 rfl rfl (Nat.le_of_ble_eq_true rfl) (by decide) (by decide) dX2_readArguments_64 ?_
  refine r_iast (pc := 67) (x := 0) C hr.2.1 rfl (by omega) (by decide) dX2_readArguments_67 ?_
  refine r_I (I' := rI I r e0 3 (upd nm 0 (nI n0))) rI_st ?_
  refine r_aload_n (pc := 68) C 3 dX2_readArguments_68 rfl rfl ?_
  refine r_get9I (pc := 69) C f_X2_9 hr.1 (Or.inl rfl) dX2_readArguments_69 ?_
  refine r_t (y := nI e0) rI_0 ?_
  refine r_iload_n (pc := 72) C 0 dX2_readArguments_72 rfl rfl ?_
  refine r_cneN (pc := 73) (tgt := 78) C dX2_readArguments_73 rfl (by omega) (by omega) (fun c_73 => ?_) (fun c_73 => ?_)
  · skip
    have d0 := c_73
    refine r_iincN (pc := 78) (m := 1) (lo' := [(2, _), (3, _), (1, _), (0, _)]) C 1 dX2_readArguments_78 rfl rfl (by decide) rfl ?_
    refine r_goto (pc := 81) (tgt := 10) C dX2_readArguments_81 rfl ?_
    refine r_iload_n (pc := 10) C 0 dX2_readArguments_10 rfl rfl ?_
    refine r_aload_n (pc := 11) C 2 dX2_readArguments_11 rfl rfl ?_
    refine r_cKi (pc := 12) C hfl k_X2_76 (c_slen (i := 12) (by omega)) (C.Z.2.2.2.2.1 12 (by omega)).1 (As := []) rfl rfl (Nat.le_of_ble_eq_true rfl) (by decide) (by decide) dX2_readArguments_12 ?_
    refine r_t (y := nI 5) (by decide) ?_
    refine r_cgeN (pc := 15) (tgt := 84) C dX2_readArguments_15 rfl (by omega) (by omega) (fun c_15 => False.elim (by omega)) (fun c_15 => ?_)
    refine r_iload_n (pc := 18) C 0 dX2_readArguments_18 rfl rfl ?_
    refine r_iconst (pc := 19) (v := 5) C dX2_readArguments_19 rfl ?_
    refine r_cgeN (pc := 20) (tgt := 84) C dX2_readArguments_20 rfl (by omega) (by omega) (fun c_20 => False.elim (by omega)) (fun c_20 => ?_)
    refine r_iload_n (pc := 23) C 0 dX2_readArguments_23 rfl rfl ?_
    refine r_ifleN (pc := 24) (tgt := 38) C dX2_readArguments_24 rfl (by omega) (fun c_24 => False.elim (by omega)) (fun c_24 => ?_)
    refine r_aload_n (pc := 27) C 3 dX2_readArguments_27 rfl rfl ?_
    refine r_bipush (pc := 28) (v := 32) C dX2_readArguments_28 rfl ?_
    refine r_c9i (pc := 30) C hfl k_X2_50 (c_sign (x := 32) hr hR (p := e0) (by omega) (by decide)) hr.1 ca_X2 rfl rfl (Nat.le_of_ble_eq_true rfl) (by decide) (by decide) dX2_readArguments_30 ?_
    refine r_ifneB (pc := 33) (tgt := 38) C dX2_readArguments_33 rfl (fun c_33 => ?_) (fun c_33 => ?_)
    · skip
      have hs0 := c_33
      refine r_I (I' := rI I r (e0 + 1) 3 (upd nm 0 (nI n0))) (by rw [if_pos c_33]) ?_
      refine r_aload_n (pc := 38) C 3 dX2_readArguments_38 rfl rfl ?_
      refine r_get9I (pc := 39) C f_X2_9 hr.1 (Or.inl rfl) dX2_readArguments_39 ?_
      refine r_t (y := nI ((e0 + 1))) rI_0 ?_
      refine r_istore_n (pc := 42) (lo' := [(3, _), (2, _), (1, _), (0, _)]) C dX2_readArguments_42 rfl (by decide) rfl ?_
      refine r_aload_n (pc := 43) C 3 dX2_readArguments_43 rfl rfl ?_
      refine r_get9R (pc := 44) (x := r + 1) C f_X2_24 hr.1 (Or.inl rfl) rfl dX2_readArguments_44 ?_
      refine r_iload_n (pc := 47) C 1 dX2_readArguments_47 rfl rfl ?_
      refine r_aload_n (pc := 48) C 3 dX2_readArguments_48 rfl rfl ?_
      refine r_aload_n (pc := 49) C 2 dX2_readArguments_49 rfl rfl ?_
      refine r_iload_n (pc := 50) C 1 dX2_readArguments_50 rfl rfl ?_
      refine r_cKi (pc := 51) C hfl k_X2_81 (c_schar (i := 12) (q := 0 + 1) (by omega) (by decide)) (C.Z.2.2.2.2.1 12 (by omega)).1 (As := [_]) rfl rfl (Nat.le_of_ble_eq_true rfl) (by decide) (by decide) dX2_readArguments_51 ?_
      refine r_t (y := nI 100) (by decide) ?_
      refine r_bipush (pc := 54) (v := 100) C dX2_readArguments_54 rfl ?_
      refine r_cneN (pc := 56) (tgt := 63) C dX2_readArguments_56 rfl (by omega) (by omega) (fun c_56 => False.elim (by omega)) (fun c_56 => ?_)
      refine r_iconst (pc := 59) (v := 1) C dX2_readArguments_59 rfl ?_
      refine r_goto (pc := 60) (tgt := 64) C dX2_readArguments_60 rfl ?_
      obtain ⟨e1, n1, hn1⟩ : ∃ e n, nmv c L 1 (e0 + 1) 0 = (e, n) := ⟨_, _, rfl⟩
      obtain ⟨x1, y1, -⟩ := nmv_le (c := c) (L := L) 1 (e0 + 1) 0
      rw [hn1] at x1 y1
      replace x1 : (e0 + 1) ≤ e1 := x1
      replace y1 : e1 ≤ L := y1 (by omega)
      refine r_c9i (pc := 64) C hfl k_X2_88 (c_readNumber (m := 1) hr hR (by omega) (by omega) hn1) hr.1 ca_X2 rfl rfl (Nat.le_of_ble_eq_true rfl) (by decide) (by decide) dX2_readArguments_64 ?_
      refine r_iast (pc := 67) (x := 0 + 1) C hr.2.1 rfl (by omega) (by decide) dX2_readArguments_67 ?_
      refine r_I (I' := rI I r e1 3 (upd (upd nm 0 (nI n0)) (0 + 1) (nI n1))) rI_st ?_
      refine r_aload_n (pc := 68) C 3 dX2_readArguments_68 rfl rfl ?_
      refine r_get9I (pc := 69) C f_X2_9 hr.1 (Or.inl rfl) dX2_readArguments_69 ?_
      refine r_t (y := nI e1) rI_0 ?_
      refine r_iload_n (pc := 72) C 0 dX2_readArguments_72 rfl rfl ?_
      refine r_cneN (pc := 73) (tgt := 78) C dX2_readArguments_73 rfl (by omega) (by omega) (fun c_73 => ?_) (fun c_73 => ?_)
      · skip
        have d1 := c_73
        refine r_iincN (pc := 78) (m := 1) (lo' := [(2, _), (3, _), (1, _), (0, _)]) C 1 dX2_readArguments_78 rfl rfl (by decide) rfl ?_
        refine r_goto (pc := 81) (tgt := 10) C dX2_readArguments_81 rfl ?_
        refine r_iload_n (pc := 10) C 0 dX2_readArguments_10 rfl rfl ?_
        refine r_aload_n (pc := 11) C 2 dX2_readArguments_11 rfl rfl ?_
        refine r_cKi (pc := 12) C hfl k_X2_76 (c_slen (i := 12) (by omega)) (C.Z.2.2.2.2.1 12 (by omega)).1 (As := []) rfl rfl (Nat.le_of_ble_eq_true rfl) (by decide) (by decide) dX2_readArguments_12 ?_
        refine r_t (y := nI 5) (by decide) ?_
        refine r_cgeN (pc := 15) (tgt := 84) C dX2_readArguments_15 rfl (by omega) (by omega) (fun c_15 => False.elim (by omega)) (fun c_15 => ?_)
        refine r_iload_n (pc := 18) C 0 dX2_readArguments_18 rfl rfl ?_
        refine r_iconst (pc := 19) (v := 5) C dX2_readArguments_19 rfl ?_
        refine r_cgeN (pc := 20) (tgt := 84) C dX2_readArguments_20 rfl (by omega) (by omega) (fun c_20 => False.elim (by omega)) (fun c_20 => ?_)
        refine r_iload_n (pc := 23) C 0 dX2_readArguments_23 rfl rfl ?_
        refine r_ifleN (pc := 24) (tgt := 38) C dX2_readArguments_24 rfl (by omega) (fun c_24 => False.elim (by omega)) (fun c_24 => ?_)
        refine r_aload_n (pc := 27) C 3 dX2_readArguments_27 rfl rfl ?_
        refine r_bipush (pc := 28) (v := 32) C dX2_readArguments_28 rfl ?_
        refine r_c9i (pc := 30) C hfl k_X2_50 (c_sign (x := 32) hr hR (p := e1) (by omega) (by decide)) hr.1 ca_X2 rfl rfl (Nat.le_of_ble_eq_true rfl) (by decide) (by decide) dX2_readArguments_30 ?_
        refine r_ifneB (pc := 33) (tgt := 38) C dX2_readArguments_33 rfl (fun c_33 => ?_) (fun c_33 => ?_)
        · skip
          have hs1 := c_33
          refine r_I (I' := rI I r (e1 + 1) 3 (upd (upd nm 0 (nI n0)) (0 + 1) (nI n1))) (by rw [if_pos c_33]) ?_
          refine r_aload_n (pc := 38) C 3 dX2_readArguments_38 rfl rfl ?_
          refine r_get9I (pc := 39) C f_X2_9 hr.1 (Or.inl rfl) dX2_readArguments_39 ?_
          refine r_t (y := nI ((e1 + 1))) rI_0 ?_
          refine r_istore_n (pc := 42) (lo' := [(3, _), (2, _), (1, _), (0, _)]) C dX2_readArguments_42 rfl (by decide) rfl ?_
          refine r_aload_n (pc := 43) C 3 dX2_readArguments_43 rfl rfl ?_
          refine r_get9R (pc := 44) (x := r + 1) C f_X2_24 hr.1 (Or.inl rfl) rfl dX2_readArguments_44 ?_
          refine r_iload_n (pc := 47) C 1 dX2_readArguments_47 rfl rfl ?_
          refine r_aload_n (pc := 48) C 3 dX2_readArguments_48 rfl rfl ?_
          refine r_aload_n (pc := 49) C 2 dX2_readArguments_49 rfl rfl ?_
          refine r_iload_n (pc := 50) C 1 dX2_readArguments_50 rfl rfl ?_
          refine r_cKi (pc := 51) C hfl k_X2_81 (c_schar (i := 12) (q := 0 + 1 + 1) (by omega) (by decide)) (C.Z.2.2.2.2.1 12 (by omega)).1 (As := [_]) rfl rfl (Nat.le_of_ble_eq_true rfl) (by decide) (by decide) dX2_readArguments_51 ?_
          refine r_t (y := nI 110) (by decide) ?_
          refine r_bipush (pc := 54) (v := 100) C dX2_readArguments_54 rfl ?_
          refine r_cneN (pc := 56) (tgt := 63) C dX2_readArguments_56 rfl (by omega) (by omega) (fun c_56 => ?_) (fun c_56 => False.elim (by omega))
          refine r_iconst (pc := 63) (v := 3) C dX2_readArguments_63 rfl ?_
          obtain ⟨e2, n2, hn2⟩ : ∃ e n, nmv c L 3 (e1 + 1) 0 = (e, n) := ⟨_, _, rfl⟩
          obtain ⟨x2, y2, -⟩ := nmv_le (c := c) (L := L) 3 (e1 + 1) 0
          rw [hn2] at x2 y2
          replace x2 : (e1 + 1) ≤ e2 := x2
          replace y2 : e2 ≤ L := y2 (by omega)
          refine r_c9i (pc := 64) C hfl k_X2_88 (c_readNumber (m := 3) hr hR (by omega) (by omega) hn2) hr.1 ca_X2 rfl rfl (Nat.le_of_ble_eq_true rfl) (by decide) (by decide) dX2_readArguments_64 ?_
          refine r_iast (pc := 67) (x := 0 + 1 + 1) C hr.2.1 rfl (by omega) (by decide) dX2_readArguments_67 ?_
          refine r_I (I' := rI I r e2 3 (upd (upd (upd nm 0 (nI n0)) (0 + 1) (nI n1)) (0 + 1 + 1) (nI n2))) rI_st ?_
          refine r_aload_n (pc := 68) C 3 dX2_readArguments_68 rfl rfl ?_
          refine r_get9I (pc := 69) C f_X2_9 hr.1 (Or.inl rfl) dX2_readArguments_69 ?_
          refine r_t (y := nI e2) rI_0 ?_
          refine r_iload_n (pc := 72) C 0 dX2_readArguments_72 rfl rfl ?_
          refine r_cneN (pc := 73) (tgt := 78) C dX2_readArguments_73 rfl (by omega) (by omega) (fun c_73 => ?_) (fun c_73 => ?_)
          · skip
            have d2 := c_73
            refine r_iincN (pc := 78) (m := 1) (lo' := [(2, _), (3, _), (1, _), (0, _)]) C 1 dX2_readArguments_78 rfl rfl (by decide) rfl ?_
            refine r_goto (pc := 81) (tgt := 10) C dX2_readArguments_81 rfl ?_
            refine r_iload_n (pc := 10) C 0 dX2_readArguments_10 rfl rfl ?_
            refine r_aload_n (pc := 11) C 2 dX2_readArguments_11 rfl rfl ?_
            refine r_cKi (pc := 12) C hfl k_X2_76 (c_slen (i := 12) (by omega)) (C.Z.2.2.2.2.1 12 (by omega)).1 (As := []) rfl rfl (Nat.le_of_ble_eq_true rfl) (by decide) (by decide) dX2_readArguments_12 ?_
            refine r_t (y := nI 5) (by decide) ?_
            refine r_cgeN (pc := 15) (tgt := 84) C dX2_readArguments_15 rfl (by omega) (by omega) (fun c_15 => False.elim (by omega)) (fun c_15 => ?_)
            refine r_iload_n (pc := 18) C 0 dX2_readArguments_18 rfl rfl ?_
            refine r_iconst (pc := 19) (v := 5) C dX2_readArguments_19 rfl ?_
            refine r_cgeN (pc := 20) (tgt := 84) C dX2_readArguments_20 rfl (by omega) (by omega) (fun c_20 => False.elim (by omega)) (fun c_20 => ?_)
            refine r_iload_n (pc := 23) C 0 dX2_readArguments_23 rfl rfl ?_
            refine r_ifleN (pc := 24) (tgt := 38) C dX2_readArguments_24 rfl (by omega) (fun c_24 => False.elim (by omega)) (fun c_24 => ?_)
            refine r_aload_n (pc := 27) C 3 dX2_readArguments_27 rfl rfl ?_
            refine r_bipush (pc := 28) (v := 32) C dX2_readArguments_28 rfl ?_
            refine r_c9i (pc := 30) C hfl k_X2_50 (c_sign (x := 32) hr hR (p := e2) (by omega) (by decide)) hr.1 ca_X2 rfl rfl (Nat.le_of_ble_eq_true rfl) (by decide) (by decide) dX2_readArguments_30 ?_
            refine r_ifneB (pc := 33) (tgt := 38) C dX2_readArguments_33 rfl (fun c_33 => ?_) (fun c_33 => ?_)
            · skip
              have hs2 := c_33
              refine r_I (I' := rI I r (e2 + 1) 3 (upd (upd (upd nm 0 (nI n0)) (0 + 1) (nI n1)) (0 + 1 + 1) (nI n2))) (by rw [if_pos c_33]) ?_
              refine r_aload_n (pc := 38) C 3 dX2_readArguments_38 rfl rfl ?_
              refine r_get9I (pc := 39) C f_X2_9 hr.1 (Or.inl rfl) dX2_readArguments_39 ?_
              refine r_t (y := nI ((e2 + 1))) rI_0 ?_
              refine r_istore_n (pc := 42) (lo' := [(3, _), (2, _), (1, _), (0, _)]) C dX2_readArguments_42 rfl (by decide) rfl ?_
              refine r_aload_n (pc := 43) C 3 dX2_readArguments_43 rfl rfl ?_
              refine r_get9R (pc := 44) (x := r + 1) C f_X2_24 hr.1 (Or.inl rfl) rfl dX2_readArguments_44 ?_
              refine r_iload_n (pc := 47) C 1 dX2_readArguments_47 rfl rfl ?_
              refine r_aload_n (pc := 48) C 3 dX2_readArguments_48 rfl rfl ?_
              refine r_aload_n (pc := 49) C 2 dX2_readArguments_49 rfl rfl ?_
              refine r_iload_n (pc := 50) C 1 dX2_readArguments_50 rfl rfl ?_
              refine r_cKi (pc := 51) C hfl k_X2_81 (c_schar (i := 12) (q := 0 + 1 + 1 + 1) (by omega) (by decide)) (C.Z.2.2.2.2.1 12 (by omega)).1 (As := [_]) rfl rfl (Nat.le_of_ble_eq_true rfl) (by decide) (by decide) dX2_readArguments_51 ?_
              refine r_t (y := nI 110) (by decide) ?_
              refine r_bipush (pc := 54) (v := 100) C dX2_readArguments_54 rfl ?_
              refine r_cneN (pc := 56) (tgt := 63) C dX2_readArguments_56 rfl (by omega) (by omega) (fun c_56 => ?_) (fun c_56 => False.elim (by omega))
              refine r_iconst (pc := 63) (v := 3) C dX2_readArguments_63 rfl ?_
              obtain ⟨e3, n3, hn3⟩ : ∃ e n, nmv c L 3 (e2 + 1) 0 = (e, n) := ⟨_, _, rfl⟩
              obtain ⟨x3, y3, -⟩ := nmv_le (c := c) (L := L) 3 (e2 + 1) 0
              rw [hn3] at x3 y3
              replace x3 : (e2 + 1) ≤ e3 := x3
              replace y3 : e3 ≤ L := y3 (by omega)
              refine r_c9i (pc := 64) C hfl k_X2_88 (c_readNumber (m := 3) hr hR (by omega) (by omega) hn3) hr.1 ca_X2 rfl rfl (Nat.le_of_ble_eq_true rfl) (by decide) (by decide) dX2_readArguments_64 ?_
              refine r_iast (pc := 67) (x := 0 + 1 + 1 + 1) C hr.2.1 rfl (by omega) (by decide) dX2_readArguments_67 ?_
              refine r_I (I' := rI I r e3 3 (upd (upd (upd (upd nm 0 (nI n0)) (0 + 1) (nI n1)) (0 + 1 + 1) (nI n2)) (0 + 1 + 1 + 1) (nI n3))) rI_st ?_
              refine r_aload_n (pc := 68) C 3 dX2_readArguments_68 rfl rfl ?_
              refine r_get9I (pc := 69) C f_X2_9 hr.1 (Or.inl rfl) dX2_readArguments_69 ?_
              refine r_t (y := nI e3) rI_0 ?_
              refine r_iload_n (pc := 72) C 0 dX2_readArguments_72 rfl rfl ?_
              refine r_cneN (pc := 73) (tgt := 78) C dX2_readArguments_73 rfl (by omega) (by omega) (fun c_73 => ?_) (fun c_73 => ?_)
              · skip
                have d3 := c_73
                refine r_iincN (pc := 78) (m := 1) (lo' := [(2, _), (3, _), (1, _), (0, _)]) C 1 dX2_readArguments_78 rfl rfl (by decide) rfl ?_
                refine r_goto (pc := 81) (tgt := 10) C dX2_readArguments_81 rfl ?_
                refine r_iload_n (pc := 10) C 0 dX2_readArguments_10 rfl rfl ?_
                refine r_aload_n (pc := 11) C 2 dX2_readArguments_11 rfl rfl ?_
                refine r_cKi (pc := 12) C hfl k_X2_76 (c_slen (i := 12) (by omega)) (C.Z.2.2.2.2.1 12 (by omega)).1 (As := []) rfl rfl (Nat.le_of_ble_eq_true rfl) (by decide) (by decide) dX2_readArguments_12 ?_
                refine r_t (y := nI 5) (by decide) ?_
                refine r_cgeN (pc := 15) (tgt := 84) C dX2_readArguments_15 rfl (by omega) (by omega) (fun c_15 => False.elim (by omega)) (fun c_15 => ?_)
                refine r_iload_n (pc := 18) C 0 dX2_readArguments_18 rfl rfl ?_
                refine r_iconst (pc := 19) (v := 5) C dX2_readArguments_19 rfl ?_
                refine r_cgeN (pc := 20) (tgt := 84) C dX2_readArguments_20 rfl (by omega) (by omega) (fun c_20 => False.elim (by omega)) (fun c_20 => ?_)
                refine r_iload_n (pc := 23) C 0 dX2_readArguments_23 rfl rfl ?_
                refine r_ifleN (pc := 24) (tgt := 38) C dX2_readArguments_24 rfl (by omega) (fun c_24 => False.elim (by omega)) (fun c_24 => ?_)
                refine r_aload_n (pc := 27) C 3 dX2_readArguments_27 rfl rfl ?_
                refine r_bipush (pc := 28) (v := 32) C dX2_readArguments_28 rfl ?_
                refine r_c9i (pc := 30) C hfl k_X2_50 (c_sign (x := 32) hr hR (p := e3) (by omega) (by decide)) hr.1 ca_X2 rfl rfl (Nat.le_of_ble_eq_true rfl) (by decide) (by decide) dX2_readArguments_30 ?_
                refine r_ifneB (pc := 33) (tgt := 38) C dX2_readArguments_33 rfl (fun c_33 => ?_) (fun c_33 => ?_)
                · skip
                  have hs3 := c_33
                  refine r_I (I' := rI I r (e3 + 1) 3 (upd (upd (upd (upd nm 0 (nI n0)) (0 + 1) (nI n1)) (0 + 1 + 1) (nI n2)) (0 + 1 + 1 + 1) (nI n3))) (by rw [if_pos c_33]) ?_
                  refine r_aload_n (pc := 38) C 3 dX2_readArguments_38 rfl rfl ?_
                  refine r_get9I (pc := 39) C f_X2_9 hr.1 (Or.inl rfl) dX2_readArguments_39 ?_
                  refine r_t (y := nI ((e3 + 1))) rI_0 ?_
                  refine r_istore_n (pc := 42) (lo' := [(3, _), (2, _), (1, _), (0, _)]) C dX2_readArguments_42 rfl (by decide) rfl ?_
                  refine r_aload_n (pc := 43) C 3 dX2_readArguments_43 rfl rfl ?_
                  refine r_get9R (pc := 44) (x := r + 1) C f_X2_24 hr.1 (Or.inl rfl) rfl dX2_readArguments_44 ?_
                  refine r_iload_n (pc := 47) C 1 dX2_readArguments_47 rfl rfl ?_
                  refine r_aload_n (pc := 48) C 3 dX2_readArguments_48 rfl rfl ?_
                  refine r_aload_n (pc := 49) C 2 dX2_readArguments_49 rfl rfl ?_
                  refine r_iload_n (pc := 50) C 1 dX2_readArguments_50 rfl rfl ?_
                  refine r_cKi (pc := 51) C hfl k_X2_81 (c_schar (i := 12) (q := 0 + 1 + 1 + 1 + 1) (by omega) (by decide)) (C.Z.2.2.2.2.1 12 (by omega)).1 (As := [_]) rfl rfl (Nat.le_of_ble_eq_true rfl) (by decide) (by decide) dX2_readArguments_51 ?_
                  refine r_t (y := nI 110) (by decide) ?_
                  refine r_bipush (pc := 54) (v := 100) C dX2_readArguments_54 rfl ?_
                  refine r_cneN (pc := 56) (tgt := 63) C dX2_readArguments_56 rfl (by omega) (by omega) (fun c_56 => ?_) (fun c_56 => False.elim (by omega))
                  refine r_iconst (pc := 63) (v := 3) C dX2_readArguments_63 rfl ?_
                  obtain ⟨e4, n4, hn4⟩ : ∃ e n, nmv c L 3 (e3 + 1) 0 = (e, n) := ⟨_, _, rfl⟩
                  obtain ⟨x4, y4, -⟩ := nmv_le (c := c) (L := L) 3 (e3 + 1) 0
                  rw [hn4] at x4 y4
                  replace x4 : (e3 + 1) ≤ e4 := x4
                  replace y4 : e4 ≤ L := y4 (by omega)
                  refine r_c9i (pc := 64) C hfl k_X2_88 (c_readNumber (m := 3) hr hR (by omega) (by omega) hn4) hr.1 ca_X2 rfl rfl (Nat.le_of_ble_eq_true rfl) (by decide) (by decide) dX2_readArguments_64 ?_
                  refine r_iast (pc := 67) (x := 0 + 1 + 1 + 1 + 1) C hr.2.1 rfl (by omega) (by decide) dX2_readArguments_67 ?_
                  refine r_I (I' := rI I r e4 3 (upd (upd (upd (upd (upd nm 0 (nI n0)) (0 + 1) (nI n1)) (0 + 1 + 1) (nI n2)) (0 + 1 + 1 + 1) (nI n3)) (0 + 1 + 1 + 1 + 1) (nI n4))) rI_st ?_
                  refine r_aload_n (pc := 68) C 3 dX2_readArguments_68 rfl rfl ?_
                  refine r_get9I (pc := 69) C f_X2_9 hr.1 (Or.inl rfl) dX2_readArguments_69 ?_
                  refine r_t (y := nI e4) rI_0 ?_
                  refine r_iload_n (pc := 72) C 0 dX2_readArguments_72 rfl rfl ?_
                  refine r_cneN (pc := 73) (tgt := 78) C dX2_readArguments_73 rfl (by omega) (by omega) (fun c_73 => ?_) (fun c_73 => ?_)
                  · skip
                    have d4 := c_73
                    refine r_iincN (pc := 78) (m := 1) (lo' := [(2, _), (3, _), (1, _), (0, _)]) C 1 dX2_readArguments_78 rfl rfl (by decide) rfl ?_
                    refine r_goto (pc := 81) (tgt := 10) C dX2_readArguments_81 rfl ?_
                    refine r_iload_n (pc := 10) C 0 dX2_readArguments_10 rfl rfl ?_
                    refine r_aload_n (pc := 11) C 2 dX2_readArguments_11 rfl rfl ?_
                    refine r_cKi (pc := 12) C hfl k_X2_76 (c_slen (i := 12) (by omega)) (C.Z.2.2.2.2.1 12 (by omega)).1 (As := []) rfl rfl (Nat.le_of_ble_eq_true rfl) (by decide) (by decide) dX2_readArguments_12 ?_
                    refine r_t (y := nI 5) (by decide) ?_
                    refine r_cgeN (pc := 15) (tgt := 84) C dX2_readArguments_15 rfl (by omega) (by omega) (fun c_15 => ?_) (fun c_15 => False.elim (by omega))
                    refine r_iconst (pc := 84) (v := 1) C dX2_readArguments_84 rfl ?_
                    exact r_zret (pc := 85) C rfl dX2_readArguments_85 (by have z : agv c L [1, 1, 3, 3, 3] p = (true, e4, [n0, n1, n2, n3, n4]) := (by rw [agv_3 hn0 d0 hs0, agv_3 hn1 d1 hs1, agv_3 hn2 d2 hs2, agv_3 hn3 d3 hs3, agv_2 hn4 d4]); show RG I r 3 (agv c L [1, 1, 3, 3, 3] p) X T _ _ _ _; rw [z]; exact ⟨rfl, rfl, congrArg (fun z => some (Value.int z)) (bI_t rfl).symm, _, rfl, fun _ k hk => match k, hk with | 0, _ => rfl | 1, _ => rfl | 2, _ => rfl | 3, _ => rfl | 4, _ => rfl | k + 5, hk => absurd hk (Nat.not_lt.mpr (Nat.le_add_left _ _))⟩) (by decide)
                  · skip
                    refine r_iconst (pc := 76) (v := 0) C dX2_readArguments_76 rfl ?_
                    exact r_zret (pc := 77) C rfl dX2_readArguments_77 (by have z : agv c L [1, 1, 3, 3, 3] p = (false, (e3 + 1), n0 :: n1 :: n2 :: n3 :: []) := (by rw [agv_3 hn0 d0 hs0, agv_3 hn1 d1 hs1, agv_3 hn2 d2 hs2, agv_3 hn3 d3 hs3, agv_1 hn4 c_73]); show RG I r 3 (agv c L [1, 1, 3, 3, 3] p) X T _ _ _ _; rw [z]; exact ⟨rfl, rfl, congrArg (fun z => some (Value.int z)) (bI_f Bool.false_ne_true).symm, _, (by rw [c_73]), fun h => absurd h Bool.false_ne_true⟩) (by decide)
                · skip
                  refine r_I (I' := rI I r e3 3 (upd (upd (upd (upd nm 0 (nI n0)) (0 + 1) (nI n1)) (0 + 1 + 1) (nI n2)) (0 + 1 + 1 + 1) (nI n3))) (by rw [if_neg c_33]) ?_
                  refine r_iconst (pc := 36) (v := 0) C dX2_readArguments_36 rfl ?_
                  exact r_zret (pc := 37) C rfl dX2_readArguments_37 (by have z : agv c L [1, 1, 3, 3, 3] p = (false, e3, n0 :: n1 :: n2 :: []) := (by rw [agv_3 hn0 d0 hs0, agv_3 hn1 d1 hs1, agv_3 hn2 d2 hs2, agv_4 hn3 d3 c_33]); show RG I r 3 (agv c L [1, 1, 3, 3, 3] p) X T _ _ _ _; rw [z]; exact ⟨rfl, rfl, congrArg (fun z => some (Value.int z)) (bI_f Bool.false_ne_true).symm, _, rfl, fun h => absurd h Bool.false_ne_true⟩) (by decide)
              · skip
                refine r_iconst (pc := 76) (v := 0) C dX2_readArguments_76 rfl ?_
                exact r_zret (pc := 77) C rfl dX2_readArguments_77 (by have z : agv c L [1, 1, 3, 3, 3] p = (false, (e2 + 1), n0 :: n1 :: n2 :: []) := (by rw [agv_3 hn0 d0 hs0, agv_3 hn1 d1 hs1, agv_3 hn2 d2 hs2, agv_1 hn3 c_73]); show RG I r 3 (agv c L [1, 1, 3, 3, 3] p) X T _ _ _ _; rw [z]; exact ⟨rfl, rfl, congrArg (fun z => some (Value.int z)) (bI_f Bool.false_ne_true).symm, _, (by rw [c_73]), fun h => absurd h Bool.false_ne_true⟩) (by decide)
            · skip
              refine r_I (I' := rI I r e2 3 (upd (upd (upd nm 0 (nI n0)) (0 + 1) (nI n1)) (0 + 1 + 1) (nI n2))) (by rw [if_neg c_33]) ?_
              refine r_iconst (pc := 36) (v := 0) C dX2_readArguments_36 rfl ?_
              exact r_zret (pc := 37) C rfl dX2_readArguments_37 (by have z : agv c L [1, 1, 3, 3, 3] p = (false, e2, n0 :: n1 :: []) := (by rw [agv_3 hn0 d0 hs0, agv_3 hn1 d1 hs1, agv_4 hn2 d2 c_33]); show RG I r 3 (agv c L [1, 1, 3, 3, 3] p) X T _ _ _ _; rw [z]; exact ⟨rfl, rfl, congrArg (fun z => some (Value.int z)) (bI_f Bool.false_ne_true).symm, _, rfl, fun h => absurd h Bool.false_ne_true⟩) (by decide)
          · skip
            refine r_iconst (pc := 76) (v := 0) C dX2_readArguments_76 rfl ?_
            exact r_zret (pc := 77) C rfl dX2_readArguments_77 (by have z : agv c L [1, 1, 3, 3, 3] p = (false, (e1 + 1), n0 :: n1 :: []) := (by rw [agv_3 hn0 d0 hs0, agv_3 hn1 d1 hs1, agv_1 hn2 c_73]); show RG I r 3 (agv c L [1, 1, 3, 3, 3] p) X T _ _ _ _; rw [z]; exact ⟨rfl, rfl, congrArg (fun z => some (Value.int z)) (bI_f Bool.false_ne_true).symm, _, (by rw [c_73]), fun h => absurd h Bool.false_ne_true⟩) (by decide)
        · skip
          refine r_I (I' := rI I r e1 3 (upd (upd nm 0 (nI n0)) (0 + 1) (nI n1))) (by rw [if_neg c_33]) ?_
          refine r_iconst (pc := 36) (v := 0) C dX2_readArguments_36 rfl ?_
          exact r_zret (pc := 37) C rfl dX2_readArguments_37 (by have z : agv c L [1, 1, 3, 3, 3] p = (false, e1, n0 :: []) := (by rw [agv_3 hn0 d0 hs0, agv_4 hn1 d1 c_33]); show RG I r 3 (agv c L [1, 1, 3, 3, 3] p) X T _ _ _ _; rw [z]; exact ⟨rfl, rfl, congrArg (fun z => some (Value.int z)) (bI_f Bool.false_ne_true).symm, _, rfl, fun h => absurd h Bool.false_ne_true⟩) (by decide)
      · skip
        refine r_iconst (pc := 76) (v := 0) C dX2_readArguments_76 rfl ?_
        exact r_zret (pc := 77) C rfl dX2_readArguments_77 (by have z : agv c L [1, 1, 3, 3, 3] p = (false, (e0 + 1), n0 :: []) := (by rw [agv_3 hn0 d0 hs0, agv_1 hn1 c_73]); show RG I r 3 (agv c L [1, 1, 3, 3, 3] p) X T _ _ _ _; rw [z]; exact ⟨rfl, rfl, congrArg (fun z => some (Value.int z)) (bI_f Bool.false_ne_true).symm, _, (by rw [c_73]), fun h => absurd h Bool.false_ne_true⟩) (by decide)
    · skip
      refine r_I (I' := rI I r e0 3 (upd nm 0 (nI n0))) (by rw [if_neg c_33]) ?_
      refine r_iconst (pc := 36) (v := 0) C dX2_readArguments_36 rfl ?_
      exact r_zret (pc := 37) C rfl dX2_readArguments_37 (by have z : agv c L [1, 1, 3, 3, 3] p = (false, e0, []) := (by rw [agv_4 hn0 d0 c_33]); show RG I r 3 (agv c L [1, 1, 3, 3, 3] p) X T _ _ _ _; rw [z]; exact ⟨rfl, rfl, congrArg (fun z => some (Value.int z)) (bI_f Bool.false_ne_true).symm, _, rfl, fun h => absurd h Bool.false_ne_true⟩) (by decide)
  · skip
    refine r_iconst (pc := 76) (v := 0) C dX2_readArguments_76 rfl ?_
    exact r_zret (pc := 77) C rfl dX2_readArguments_77 (by have z : agv c L [1, 1, 3, 3, 3] p = (false, p, []) := (by rw [agv_1 hn0 c_73]); show RG I r 3 (agv c L [1, 1, 3, 3, 3] p) X T _ _ _ _; rw [z]; exact ⟨rfl, rfl, congrArg (fun z => some (Value.int z)) (bI_f Bool.false_ne_true).symm, _, (by rw [c_73]), fun h => absurd h Bool.false_ne_true⟩) (by decide)

set_option maxHeartbeats 1000000 in
theorem c_args_4 {g : GG} {X : va_W} {T : TT} {I : II} {r L : Nat} {c : Nat → Nat} (hr : isRd T r) (hR : Rdr I r L c) {p : Nat} {nm : Nat → Int32} (hp : p ≤ L)  : Mc g yX2_readArguments cX2_readArguments 4 (some .boolean) 4 0 0 [.ref r] X T (rI I r p 4 nm) (RG I r 4 (agv c L (shL 4) p) X T) := by
  have hL := hR.2.1
  refine Mc.of (by decide) (Nat.le_of_ble_eq_true rfl) (fun k hfl C => ?_)
  refine r_lo (lo' := [(0, _)]) rfl ?_
  refine r_aload_n (pc := 0) C 0 dX2_readArguments_0 rfl rfl ?_
  refine r_get9V (pc := 1) (i := 4) C f_X2_21 hr.1 rI_1 (by omega) dX2_readArguments_1 ?_
  refine r_getO (pc := 4) C (C.Z.2.2.1 4 (by omega)).2.2.2 (gx 2280 (by decide +kernel) (by decide +kernel)) dX2_readArguments_4 ?_
  refine r_st (st' := .ref (ga g (100 + 13)) :: _) rfl ?_
  refine r_astore_n (pc := 7) (lo' := [(1, _), (0, _)]) C dX2_readArguments_7 rfl (by decide) rfl ?_
  refine r_iconst (pc := 8) (v := 0) C dX2_readArguments_8 rfl ?_
  refine r_istore_n (pc := 9) (lo' := [(2, _), (1, _), (0, _)]) C dX2_readArguments_9 rfl (by decide) rfl ?_
  refine r_iload_n (pc := 10) C 0 dX2_readArguments_10 rfl rfl ?_
  refine r_aload_n (pc := 11) C 1 dX2_readArguments_11 rfl rfl ?_
  refine r_cKi (pc := 12) C hfl k_X2_76 (c_slen (i := 13) (by omega)) (C.Z.2.2.2.2.1 13 (by omega)).1 (As := []) rfl rfl (Nat.le_of_ble_eq_true rfl) (by decide) (by decide) dX2_readArguments_12 ?_
  refine r_t (y := nI 3) (by decide) ?_
  refine r_cgeN (pc := 15) (tgt := 84) C dX2_readArguments_15 rfl (by omega) (by omega) (fun c_15 => False.elim (by omega)) (fun c_15 => ?_)
  refine r_iload_n (pc := 18) C 0 dX2_readArguments_18 rfl rfl ?_
  refine r_iconst (pc := 19) (v := 5) C dX2_readArguments_19 rfl ?_
  refine r_cgeN (pc := 20) (tgt := 84) C dX2_readArguments_20 rfl (by omega) (by omega) (fun c_20 => False.elim (by omega)) (fun c_20 => ?_)
  refine r_iload_n (pc := 23) C 0 dX2_readArguments_23 rfl rfl ?_
  refine r_ifleN (pc := 24) (tgt := 38) C dX2_readArguments_24 rfl (by omega) (fun c_24 => ?_) (fun c_24 => False.elim (by omega))
  refine r_aload_n (pc := 38) C 2 dX2_readArguments_38 rfl rfl ?_
  refine r_get9I (pc := 39) C f_X2_9 hr.1 (Or.inl rfl) dX2_readArguments_39 ?_
  refine r_t (y := nI p) rI_0 ?_
  refine r_istore_n (pc := 42) (lo' := [(3, _), (2, _), (1, _), (0, _)]) C dX2_readArguments_42 rfl (by decide) rfl ?_
  refine r_aload_n (pc := 43) C 3 dX2_readArguments_43 rfl rfl ?_
  refine r_get9R (pc := 44) (x := r + 1) C f_X2_24 hr.1 (Or.inl rfl) rfl dX2_readArguments_44 ?_
  refine r_iload_n (pc := 47) C 1 dX2_readArguments_47 rfl rfl ?_
  refine r_aload_n (pc := 48) C 3 dX2_readArguments_48 rfl rfl ?_
  refine r_aload_n (pc := 49) C 2 dX2_readArguments_49 rfl rfl ?_
  refine r_iload_n (pc := 50) C 1 dX2_readArguments_50 rfl rfl ?_
  refine r_cKi (pc := 51) C hfl k_X2_81 (c_schar (i := 13) (q := 0) (by omega) (by decide)) (C.Z.2.2.2.2.1 13 (by omega)).1 (As := [_]) rfl rfl (Nat.le_of_ble_eq_true rfl) (by decide) (by decide) dX2_readArguments_51 ?_
  refine r_t (y := nI 110) (by decide) ?_
  refine r_bipush (pc := 54) (v := 100) C dX2_readArguments_54 rfl ?_
  refine r_cneN (pc := 56) (tgt := 63) C dX2_readArguments_56 rfl (by omega) (by omega) (fun c_56 => ?_) (fun c_56 => False.elim (by omega))
  refine r_iconst (pc := 63) (v := 3) C dX2_readArguments_63 rfl ?_
  obtain ⟨e0, n0, hn0⟩ : ∃ e n, nmv c L 3 p 0 = (e, n) := ⟨_, _, rfl⟩
  obtain ⟨x0, y0, -⟩ := nmv_le (c := c) (L := L) 3 p 0
  rw [hn0] at x0 y0
  replace x0 : p ≤ e0 := x0
  replace y0 : e0 ≤ L := y0 (by omega)
  refine r_c9i (pc := 64) C hfl k_X2_88 (c_readNumber (m := 3) hr hR (by omega) (by omega) hn0) hr.1 ca_X2 rfl rfl (Nat.le_of_ble_eq_true rfl) (by decide) (by decide) dX2_readArguments_64 ?_
  refine r_iast (pc := 67) (x := 0) C hr.2.1 rfl (by omega) (by decide) dX2_readArguments_67 ?_
  refine r_I (I' := rI I r e0 4 (upd nm 0 (nI n0))) rI_st ?_
  refine r_aload_n (pc := 68) C 3 dX2_readArguments_68 rfl rfl ?_
  refine r_get9I (pc := 69) C f_X2_9 hr.1 (Or.inl rfl) dX2_readArguments_69 ?_
  refine r_t (y := nI e0) rI_0 ?_
  refine r_iload_n (pc := 72) C 0 dX2_readArguments_72 rfl rfl ?_
  refine r_cneN (pc := 73) (tgt := 78) C dX2_readArguments_73 rfl (by omega) (by omega) (fun c_73 => ?_) (fun c_73 => ?_)
  · skip
    have d0 := c_73
    refine r_iincN (pc := 78) (m := 1) (lo' := [(2, _), (3, _), (1, _), (0, _)]) C 1 dX2_readArguments_78 rfl rfl (by decide) rfl ?_
    refine r_goto (pc := 81) (tgt := 10) C dX2_readArguments_81 rfl ?_
    refine r_iload_n (pc := 10) C 0 dX2_readArguments_10 rfl rfl ?_
    refine r_aload_n (pc := 11) C 2 dX2_readArguments_11 rfl rfl ?_
    refine r_cKi (pc := 12) C hfl k_X2_76 (c_slen (i := 13) (by omega)) (C.Z.2.2.2.2.1 13 (by omega)).1 (As := []) rfl rfl (Nat.le_of_ble_eq_true rfl) (by decide) (by decide) dX2_readArguments_12 ?_
    refine r_t (y := nI 3) (by decide) ?_
    refine r_cgeN (pc := 15) (tgt := 84) C dX2_readArguments_15 rfl (by omega) (by omega) (fun c_15 => False.elim (by omega)) (fun c_15 => ?_)
    refine r_iload_n (pc := 18) C 0 dX2_readArguments_18 rfl rfl ?_
    refine r_iconst (pc := 19) (v := 5) C dX2_readArguments_19 rfl ?_
    refine r_cgeN (pc := 20) (tgt := 84) C dX2_readArguments_20 rfl (by omega) (by omega) (fun c_20 => False.elim (by omega)) (fun c_20 => ?_)
    refine r_iload_n (pc := 23) C 0 dX2_readArguments_23 rfl rfl ?_
    refine r_ifleN (pc := 24) (tgt := 38) C dX2_readArguments_24 rfl (by omega) (fun c_24 => False.elim (by omega)) (fun c_24 => ?_)
    refine r_aload_n (pc := 27) C 3 dX2_readArguments_27 rfl rfl ?_
    refine r_bipush (pc := 28) (v := 32) C dX2_readArguments_28 rfl ?_
    refine r_c9i (pc := 30) C hfl k_X2_50 (c_sign (x := 32) hr hR (p := e0) (by omega) (by decide)) hr.1 ca_X2 rfl rfl (Nat.le_of_ble_eq_true rfl) (by decide) (by decide) dX2_readArguments_30 ?_
    refine r_ifneB (pc := 33) (tgt := 38) C dX2_readArguments_33 rfl (fun c_33 => ?_) (fun c_33 => ?_)
    · skip
      have hs0 := c_33
      refine r_I (I' := rI I r (e0 + 1) 4 (upd nm 0 (nI n0))) (by rw [if_pos c_33]) ?_
      refine r_aload_n (pc := 38) C 3 dX2_readArguments_38 rfl rfl ?_
      refine r_get9I (pc := 39) C f_X2_9 hr.1 (Or.inl rfl) dX2_readArguments_39 ?_
      refine r_t (y := nI ((e0 + 1))) rI_0 ?_
      refine r_istore_n (pc := 42) (lo' := [(3, _), (2, _), (1, _), (0, _)]) C dX2_readArguments_42 rfl (by decide) rfl ?_
      refine r_aload_n (pc := 43) C 3 dX2_readArguments_43 rfl rfl ?_
      refine r_get9R (pc := 44) (x := r + 1) C f_X2_24 hr.1 (Or.inl rfl) rfl dX2_readArguments_44 ?_
      refine r_iload_n (pc := 47) C 1 dX2_readArguments_47 rfl rfl ?_
      refine r_aload_n (pc := 48) C 3 dX2_readArguments_48 rfl rfl ?_
      refine r_aload_n (pc := 49) C 2 dX2_readArguments_49 rfl rfl ?_
      refine r_iload_n (pc := 50) C 1 dX2_readArguments_50 rfl rfl ?_
      refine r_cKi (pc := 51) C hfl k_X2_81 (c_schar (i := 13) (q := 0 + 1) (by omega) (by decide)) (C.Z.2.2.2.2.1 13 (by omega)).1 (As := [_]) rfl rfl (Nat.le_of_ble_eq_true rfl) (by decide) (by decide) dX2_readArguments_51 ?_
      refine r_t (y := nI 100) (by decide) ?_
      refine r_bipush (pc := 54) (v := 100) C dX2_readArguments_54 rfl ?_
      refine r_cneN (pc := 56) (tgt := 63) C dX2_readArguments_56 rfl (by omega) (by omega) (fun c_56 => False.elim (by omega)) (fun c_56 => ?_)
      refine r_iconst (pc := 59) (v := 1) C dX2_readArguments_59 rfl ?_
      refine r_goto (pc := 60) (tgt := 64) C dX2_readArguments_60 rfl ?_
      obtain ⟨e1, n1, hn1⟩ : ∃ e n, nmv c L 1 (e0 + 1) 0 = (e, n) := ⟨_, _, rfl⟩
      obtain ⟨x1, y1, -⟩ := nmv_le (c := c) (L := L) 1 (e0 + 1) 0
      rw [hn1] at x1 y1
      replace x1 : (e0 + 1) ≤ e1 := x1
      replace y1 : e1 ≤ L := y1 (by omega)
      refine r_c9i (pc := 64) C hfl k_X2_88 (c_readNumber (m := 1) hr hR (by omega) (by omega) hn1) hr.1 ca_X2 rfl rfl (Nat.le_of_ble_eq_true rfl) (by decide) (by decide) dX2_readArguments_64 ?_
      refine r_iast (pc := 67) (x := 0 + 1) C hr.2.1 rfl (by omega) (by decide) dX2_readArguments_67 ?_
      refine r_I (I' := rI I r e1 4 (upd (upd nm 0 (nI n0)) (0 + 1) (nI n1))) rI_st ?_
      refine r_aload_n (pc := 68) C 3 dX2_readArguments_68 rfl rfl ?_
      refine r_get9I (pc := 69) C f_X2_9 hr.1 (Or.inl rfl) dX2_readArguments_69 ?_
      refine r_t (y := nI e1) rI_0 ?_
      refine r_iload_n (pc := 72) C 0 dX2_readArguments_72 rfl rfl ?_
      refine r_cneN (pc := 73) (tgt := 78) C dX2_readArguments_73 rfl (by omega) (by omega) (fun c_73 => ?_) (fun c_73 => ?_)
      · skip
        have d1 := c_73
        refine r_iincN (pc := 78) (m := 1) (lo' := [(2, _), (3, _), (1, _), (0, _)]) C 1 dX2_readArguments_78 rfl rfl (by decide) rfl ?_
        refine r_goto (pc := 81) (tgt := 10) C dX2_readArguments_81 rfl ?_
        refine r_iload_n (pc := 10) C 0 dX2_readArguments_10 rfl rfl ?_
        refine r_aload_n (pc := 11) C 2 dX2_readArguments_11 rfl rfl ?_
        refine r_cKi (pc := 12) C hfl k_X2_76 (c_slen (i := 13) (by omega)) (C.Z.2.2.2.2.1 13 (by omega)).1 (As := []) rfl rfl (Nat.le_of_ble_eq_true rfl) (by decide) (by decide) dX2_readArguments_12 ?_
        refine r_t (y := nI 3) (by decide) ?_
        refine r_cgeN (pc := 15) (tgt := 84) C dX2_readArguments_15 rfl (by omega) (by omega) (fun c_15 => False.elim (by omega)) (fun c_15 => ?_)
        refine r_iload_n (pc := 18) C 0 dX2_readArguments_18 rfl rfl ?_
        refine r_iconst (pc := 19) (v := 5) C dX2_readArguments_19 rfl ?_
        refine r_cgeN (pc := 20) (tgt := 84) C dX2_readArguments_20 rfl (by omega) (by omega) (fun c_20 => False.elim (by omega)) (fun c_20 => ?_)
        refine r_iload_n (pc := 23) C 0 dX2_readArguments_23 rfl rfl ?_
        refine r_ifleN (pc := 24) (tgt := 38) C dX2_readArguments_24 rfl (by omega) (fun c_24 => False.elim (by omega)) (fun c_24 => ?_)
        refine r_aload_n (pc := 27) C 3 dX2_readArguments_27 rfl rfl ?_
        refine r_bipush (pc := 28) (v := 32) C dX2_readArguments_28 rfl ?_
        refine r_c9i (pc := 30) C hfl k_X2_50 (c_sign (x := 32) hr hR (p := e1) (by omega) (by decide)) hr.1 ca_X2 rfl rfl (Nat.le_of_ble_eq_true rfl) (by decide) (by decide) dX2_readArguments_30 ?_
        refine r_ifneB (pc := 33) (tgt := 38) C dX2_readArguments_33 rfl (fun c_33 => ?_) (fun c_33 => ?_)
        · skip
          have hs1 := c_33
          refine r_I (I' := rI I r (e1 + 1) 4 (upd (upd nm 0 (nI n0)) (0 + 1) (nI n1))) (by rw [if_pos c_33]) ?_
          refine r_aload_n (pc := 38) C 3 dX2_readArguments_38 rfl rfl ?_
          refine r_get9I (pc := 39) C f_X2_9 hr.1 (Or.inl rfl) dX2_readArguments_39 ?_
          refine r_t (y := nI ((e1 + 1))) rI_0 ?_
          refine r_istore_n (pc := 42) (lo' := [(3, _), (2, _), (1, _), (0, _)]) C dX2_readArguments_42 rfl (by decide) rfl ?_
          refine r_aload_n (pc := 43) C 3 dX2_readArguments_43 rfl rfl ?_
          refine r_get9R (pc := 44) (x := r + 1) C f_X2_24 hr.1 (Or.inl rfl) rfl dX2_readArguments_44 ?_
          refine r_iload_n (pc := 47) C 1 dX2_readArguments_47 rfl rfl ?_
          refine r_aload_n (pc := 48) C 3 dX2_readArguments_48 rfl rfl ?_
          refine r_aload_n (pc := 49) C 2 dX2_readArguments_49 rfl rfl ?_
          refine r_iload_n (pc := 50) C 1 dX2_readArguments_50 rfl rfl ?_
          refine r_cKi (pc := 51) C hfl k_X2_81 (c_schar (i := 13) (q := 0 + 1 + 1) (by omega) (by decide)) (C.Z.2.2.2.2.1 13 (by omega)).1 (As := [_]) rfl rfl (Nat.le_of_ble_eq_true rfl) (by decide) (by decide) dX2_readArguments_51 ?_
          refine r_t (y := nI 110) (by decide) ?_
          refine r_bipush (pc := 54) (v := 100) C dX2_readArguments_54 rfl ?_
          refine r_cneN (pc := 56) (tgt := 63) C dX2_readArguments_56 rfl (by omega) (by omega) (fun c_56 => ?_) (fun c_56 => False.elim (by omega))
          refine r_iconst (pc := 63) (v := 3) C dX2_readArguments_63 rfl ?_
          obtain ⟨e2, n2, hn2⟩ : ∃ e n, nmv c L 3 (e1 + 1) 0 = (e, n) := ⟨_, _, rfl⟩
          obtain ⟨x2, y2, -⟩ := nmv_le (c := c) (L := L) 3 (e1 + 1) 0
          rw [hn2] at x2 y2
          replace x2 : (e1 + 1) ≤ e2 := x2
          replace y2 : e2 ≤ L := y2 (by omega)
          refine r_c9i (pc := 64) C hfl k_X2_88 (c_readNumber (m := 3) hr hR (by omega) (by omega) hn2) hr.1 ca_X2 rfl rfl (Nat.le_of_ble_eq_true rfl) (by decide) (by decide) dX2_readArguments_64 ?_
          refine r_iast (pc := 67) (x := 0 + 1 + 1) C hr.2.1 rfl (by omega) (by decide) dX2_readArguments_67 ?_
          refine r_I (I' := rI I r e2 4 (upd (upd (upd nm 0 (nI n0)) (0 + 1) (nI n1)) (0 + 1 + 1) (nI n2))) rI_st ?_
          refine r_aload_n (pc := 68) C 3 dX2_readArguments_68 rfl rfl ?_
          refine r_get9I (pc := 69) C f_X2_9 hr.1 (Or.inl rfl) dX2_readArguments_69 ?_
          refine r_t (y := nI e2) rI_0 ?_
          refine r_iload_n (pc := 72) C 0 dX2_readArguments_72 rfl rfl ?_
          refine r_cneN (pc := 73) (tgt := 78) C dX2_readArguments_73 rfl (by omega) (by omega) (fun c_73 => ?_) (fun c_73 => ?_)
          · skip
            have d2 := c_73
            refine r_iincN (pc := 78) (m := 1) (lo' := [(2, _), (3, _), (1, _), (0, _)]) C 1 dX2_readArguments_78 rfl rfl (by decide) rfl ?_
            refine r_goto (pc := 81) (tgt := 10) C dX2_readArguments_81 rfl ?_
            refine r_iload_n (pc := 10) C 0 dX2_readArguments_10 rfl rfl ?_
            refine r_aload_n (pc := 11) C 2 dX2_readArguments_11 rfl rfl ?_
            refine r_cKi (pc := 12) C hfl k_X2_76 (c_slen (i := 13) (by omega)) (C.Z.2.2.2.2.1 13 (by omega)).1 (As := []) rfl rfl (Nat.le_of_ble_eq_true rfl) (by decide) (by decide) dX2_readArguments_12 ?_
            refine r_t (y := nI 3) (by decide) ?_
            refine r_cgeN (pc := 15) (tgt := 84) C dX2_readArguments_15 rfl (by omega) (by omega) (fun c_15 => ?_) (fun c_15 => False.elim (by omega))
            refine r_iconst (pc := 84) (v := 1) C dX2_readArguments_84 rfl ?_
            exact r_zret (pc := 85) C rfl dX2_readArguments_85 (by have z : agv c L [3, 1, 3] p = (true, e2, [n0, n1, n2]) := (by rw [agv_3 hn0 d0 hs0, agv_3 hn1 d1 hs1, agv_2 hn2 d2]); show RG I r 4 (agv c L [3, 1, 3] p) X T _ _ _ _; rw [z]; exact ⟨rfl, rfl, congrArg (fun z => some (Value.int z)) (bI_t rfl).symm, _, rfl, fun _ k hk => match k, hk with | 0, _ => rfl | 1, _ => rfl | 2, _ => rfl | k + 3, hk => absurd hk (Nat.not_lt.mpr (Nat.le_add_left _ _))⟩) (by decide)
          · skip
            refine r_iconst (pc := 76) (v := 0) C dX2_readArguments_76 rfl ?_
            exact r_zret (pc := 77) C rfl dX2_readArguments_77 (by have z : agv c L [3, 1, 3] p = (false, (e1 + 1), n0 :: n1 :: []) := (by rw [agv_3 hn0 d0 hs0, agv_3 hn1 d1 hs1, agv_1 hn2 c_73]); show RG I r 4 (agv c L [3, 1, 3] p) X T _ _ _ _; rw [z]; exact ⟨rfl, rfl, congrArg (fun z => some (Value.int z)) (bI_f Bool.false_ne_true).symm, _, (by rw [c_73]), fun h => absurd h Bool.false_ne_true⟩) (by decide)
        · skip
          refine r_I (I' := rI I r e1 4 (upd (upd nm 0 (nI n0)) (0 + 1) (nI n1))) (by rw [if_neg c_33]) ?_
          refine r_iconst (pc := 36) (v := 0) C dX2_readArguments_36 rfl ?_
          exact r_zret (pc := 37) C rfl dX2_readArguments_37 (by have z : agv c L [3, 1, 3] p = (false, e1, n0 :: []) := (by rw [agv_3 hn0 d0 hs0, agv_4 hn1 d1 c_33]); show RG I r 4 (agv c L [3, 1, 3] p) X T _ _ _ _; rw [z]; exact ⟨rfl, rfl, congrArg (fun z => some (Value.int z)) (bI_f Bool.false_ne_true).symm, _, rfl, fun h => absurd h Bool.false_ne_true⟩) (by decide)
      · skip
        refine r_iconst (pc := 76) (v := 0) C dX2_readArguments_76 rfl ?_
        exact r_zret (pc := 77) C rfl dX2_readArguments_77 (by have z : agv c L [3, 1, 3] p = (false, (e0 + 1), n0 :: []) := (by rw [agv_3 hn0 d0 hs0, agv_1 hn1 c_73]); show RG I r 4 (agv c L [3, 1, 3] p) X T _ _ _ _; rw [z]; exact ⟨rfl, rfl, congrArg (fun z => some (Value.int z)) (bI_f Bool.false_ne_true).symm, _, (by rw [c_73]), fun h => absurd h Bool.false_ne_true⟩) (by decide)
    · skip
      refine r_I (I' := rI I r e0 4 (upd nm 0 (nI n0))) (by rw [if_neg c_33]) ?_
      refine r_iconst (pc := 36) (v := 0) C dX2_readArguments_36 rfl ?_
      exact r_zret (pc := 37) C rfl dX2_readArguments_37 (by have z : agv c L [3, 1, 3] p = (false, e0, []) := (by rw [agv_4 hn0 d0 c_33]); show RG I r 4 (agv c L [3, 1, 3] p) X T _ _ _ _; rw [z]; exact ⟨rfl, rfl, congrArg (fun z => some (Value.int z)) (bI_f Bool.false_ne_true).symm, _, rfl, fun h => absurd h Bool.false_ne_true⟩) (by decide)
  · skip
    refine r_iconst (pc := 76) (v := 0) C dX2_readArguments_76 rfl ?_
    exact r_zret (pc := 77) C rfl dX2_readArguments_77 (by have z : agv c L [3, 1, 3] p = (false, p, []) := (by rw [agv_1 hn0 c_73]); show RG I r 4 (agv c L [3, 1, 3] p) X T _ _ _ _; rw [z]; exact ⟨rfl, rfl, congrArg (fun z => some (Value.int z)) (bI_f Bool.false_ne_true).symm, _, (by rw [c_73]), fun h => absurd h Bool.false_ne_true⟩) (by decide)

set_option maxHeartbeats 1000000 in
theorem c_args_5 {g : GG} {X : va_W} {T : TT} {I : II} {r L : Nat} {c : Nat → Nat} (hr : isRd T r) (hR : Rdr I r L c) {p : Nat} {nm : Nat → Int32} (hp : p ≤ L)  : Mc g yX2_readArguments cX2_readArguments 4 (some .boolean) 4 0 0 [.ref r] X T (rI I r p 5 nm) (RG I r 5 (agv c L (shL 5) p) X T) := by
  have hL := hR.2.1
  refine Mc.of (by decide) (Nat.le_of_ble_eq_true rfl) (fun k hfl C => ?_)
  refine r_lo (lo' := [(0, _)]) rfl ?_
  refine r_aload_n (pc := 0) C 0 dX2_readArguments_0 rfl rfl ?_
  refine r_get9V (pc := 1) (i := 5) C f_X2_21 hr.1 rI_1 (by omega) dX2_readArguments_1 ?_
  refine r_getO (pc := 4) C (C.Z.2.2.1 5 (by omega)).2.2.2 (gx 2280 (by decide +kernel) (by decide +kernel)) dX2_readArguments_4 ?_
  refine r_st (st' := .ref (ga g (100 + 13)) :: _) rfl ?_
  refine r_astore_n (pc := 7) (lo' := [(1, _), (0, _)]) C dX2_readArguments_7 rfl (by decide) rfl ?_
  refine r_iconst (pc := 8) (v := 0) C dX2_readArguments_8 rfl ?_
  refine r_istore_n (pc := 9) (lo' := [(2, _), (1, _), (0, _)]) C dX2_readArguments_9 rfl (by decide) rfl ?_
  refine r_iload_n (pc := 10) C 0 dX2_readArguments_10 rfl rfl ?_
  refine r_aload_n (pc := 11) C 1 dX2_readArguments_11 rfl rfl ?_
  refine r_cKi (pc := 12) C hfl k_X2_76 (c_slen (i := 13) (by omega)) (C.Z.2.2.2.2.1 13 (by omega)).1 (As := []) rfl rfl (Nat.le_of_ble_eq_true rfl) (by decide) (by decide) dX2_readArguments_12 ?_
  refine r_t (y := nI 3) (by decide) ?_
  refine r_cgeN (pc := 15) (tgt := 84) C dX2_readArguments_15 rfl (by omega) (by omega) (fun c_15 => False.elim (by omega)) (fun c_15 => ?_)
  refine r_iload_n (pc := 18) C 0 dX2_readArguments_18 rfl rfl ?_
  refine r_iconst (pc := 19) (v := 5) C dX2_readArguments_19 rfl ?_
  refine r_cgeN (pc := 20) (tgt := 84) C dX2_readArguments_20 rfl (by omega) (by omega) (fun c_20 => False.elim (by omega)) (fun c_20 => ?_)
  refine r_iload_n (pc := 23) C 0 dX2_readArguments_23 rfl rfl ?_
  refine r_ifleN (pc := 24) (tgt := 38) C dX2_readArguments_24 rfl (by omega) (fun c_24 => ?_) (fun c_24 => False.elim (by omega))
  refine r_aload_n (pc := 38) C 2 dX2_readArguments_38 rfl rfl ?_
  refine r_get9I (pc := 39) C f_X2_9 hr.1 (Or.inl rfl) dX2_readArguments_39 ?_
  refine r_t (y := nI p) rI_0 ?_
  refine r_istore_n (pc := 42) (lo' := [(3, _), (2, _), (1, _), (0, _)]) C dX2_readArguments_42 rfl (by decide) rfl ?_
  refine r_aload_n (pc := 43) C 3 dX2_readArguments_43 rfl rfl ?_
  refine r_get9R (pc := 44) (x := r + 1) C f_X2_24 hr.1 (Or.inl rfl) rfl dX2_readArguments_44 ?_
  refine r_iload_n (pc := 47) C 1 dX2_readArguments_47 rfl rfl ?_
  refine r_aload_n (pc := 48) C 3 dX2_readArguments_48 rfl rfl ?_
  refine r_aload_n (pc := 49) C 2 dX2_readArguments_49 rfl rfl ?_
  refine r_iload_n (pc := 50) C 1 dX2_readArguments_50 rfl rfl ?_
  refine r_cKi (pc := 51) C hfl k_X2_81 (c_schar (i := 13) (q := 0) (by omega) (by decide)) (C.Z.2.2.2.2.1 13 (by omega)).1 (As := [_]) rfl rfl (Nat.le_of_ble_eq_true rfl) (by decide) (by decide) dX2_readArguments_51 ?_
  refine r_t (y := nI 110) (by decide) ?_
  refine r_bipush (pc := 54) (v := 100) C dX2_readArguments_54 rfl ?_
  refine r_cneN (pc := 56) (tgt := 63) C dX2_readArguments_56 rfl (by omega) (by omega) (fun c_56 => ?_) (fun c_56 => False.elim (by omega))
  refine r_iconst (pc := 63) (v := 3) C dX2_readArguments_63 rfl ?_
  obtain ⟨e0, n0, hn0⟩ : ∃ e n, nmv c L 3 p 0 = (e, n) := ⟨_, _, rfl⟩
  obtain ⟨x0, y0, -⟩ := nmv_le (c := c) (L := L) 3 p 0
  rw [hn0] at x0 y0
  replace x0 : p ≤ e0 := x0
  replace y0 : e0 ≤ L := y0 (by omega)
  refine r_c9i (pc := 64) C hfl k_X2_88 (c_readNumber (m := 3) hr hR (by omega) (by omega) hn0) hr.1 ca_X2 rfl rfl (Nat.le_of_ble_eq_true rfl) (by decide) (by decide) dX2_readArguments_64 ?_
  refine r_iast (pc := 67) (x := 0) C hr.2.1 rfl (by omega) (by decide) dX2_readArguments_67 ?_
  refine r_I (I' := rI I r e0 5 (upd nm 0 (nI n0))) rI_st ?_
  refine r_aload_n (pc := 68) C 3 dX2_readArguments_68 rfl rfl ?_
  refine r_get9I (pc := 69) C f_X2_9 hr.1 (Or.inl rfl) dX2_readArguments_69 ?_
  refine r_t (y := nI e0) rI_0 ?_
  refine r_iload_n (pc := 72) C 0 dX2_readArguments_72 rfl rfl ?_
  refine r_cneN (pc := 73) (tgt := 78) C dX2_readArguments_73 rfl (by omega) (by omega) (fun c_73 => ?_) (fun c_73 => ?_)
  · skip
    have d0 := c_73
    refine r_iincN (pc := 78) (m := 1) (lo' := [(2, _), (3, _), (1, _), (0, _)]) C 1 dX2_readArguments_78 rfl rfl (by decide) rfl ?_
    refine r_goto (pc := 81) (tgt := 10) C dX2_readArguments_81 rfl ?_
    refine r_iload_n (pc := 10) C 0 dX2_readArguments_10 rfl rfl ?_
    refine r_aload_n (pc := 11) C 2 dX2_readArguments_11 rfl rfl ?_
    refine r_cKi (pc := 12) C hfl k_X2_76 (c_slen (i := 13) (by omega)) (C.Z.2.2.2.2.1 13 (by omega)).1 (As := []) rfl rfl (Nat.le_of_ble_eq_true rfl) (by decide) (by decide) dX2_readArguments_12 ?_
    refine r_t (y := nI 3) (by decide) ?_
    refine r_cgeN (pc := 15) (tgt := 84) C dX2_readArguments_15 rfl (by omega) (by omega) (fun c_15 => False.elim (by omega)) (fun c_15 => ?_)
    refine r_iload_n (pc := 18) C 0 dX2_readArguments_18 rfl rfl ?_
    refine r_iconst (pc := 19) (v := 5) C dX2_readArguments_19 rfl ?_
    refine r_cgeN (pc := 20) (tgt := 84) C dX2_readArguments_20 rfl (by omega) (by omega) (fun c_20 => False.elim (by omega)) (fun c_20 => ?_)
    refine r_iload_n (pc := 23) C 0 dX2_readArguments_23 rfl rfl ?_
    refine r_ifleN (pc := 24) (tgt := 38) C dX2_readArguments_24 rfl (by omega) (fun c_24 => False.elim (by omega)) (fun c_24 => ?_)
    refine r_aload_n (pc := 27) C 3 dX2_readArguments_27 rfl rfl ?_
    refine r_bipush (pc := 28) (v := 32) C dX2_readArguments_28 rfl ?_
    refine r_c9i (pc := 30) C hfl k_X2_50 (c_sign (x := 32) hr hR (p := e0) (by omega) (by decide)) hr.1 ca_X2 rfl rfl (Nat.le_of_ble_eq_true rfl) (by decide) (by decide) dX2_readArguments_30 ?_
    refine r_ifneB (pc := 33) (tgt := 38) C dX2_readArguments_33 rfl (fun c_33 => ?_) (fun c_33 => ?_)
    · skip
      have hs0 := c_33
      refine r_I (I' := rI I r (e0 + 1) 5 (upd nm 0 (nI n0))) (by rw [if_pos c_33]) ?_
      refine r_aload_n (pc := 38) C 3 dX2_readArguments_38 rfl rfl ?_
      refine r_get9I (pc := 39) C f_X2_9 hr.1 (Or.inl rfl) dX2_readArguments_39 ?_
      refine r_t (y := nI ((e0 + 1))) rI_0 ?_
      refine r_istore_n (pc := 42) (lo' := [(3, _), (2, _), (1, _), (0, _)]) C dX2_readArguments_42 rfl (by decide) rfl ?_
      refine r_aload_n (pc := 43) C 3 dX2_readArguments_43 rfl rfl ?_
      refine r_get9R (pc := 44) (x := r + 1) C f_X2_24 hr.1 (Or.inl rfl) rfl dX2_readArguments_44 ?_
      refine r_iload_n (pc := 47) C 1 dX2_readArguments_47 rfl rfl ?_
      refine r_aload_n (pc := 48) C 3 dX2_readArguments_48 rfl rfl ?_
      refine r_aload_n (pc := 49) C 2 dX2_readArguments_49 rfl rfl ?_
      refine r_iload_n (pc := 50) C 1 dX2_readArguments_50 rfl rfl ?_
      refine r_cKi (pc := 51) C hfl k_X2_81 (c_schar (i := 13) (q := 0 + 1) (by omega) (by decide)) (C.Z.2.2.2.2.1 13 (by omega)).1 (As := [_]) rfl rfl (Nat.le_of_ble_eq_true rfl) (by decide) (by decide) dX2_readArguments_51 ?_
      refine r_t (y := nI 100) (by decide) ?_
      refine r_bipush (pc := 54) (v := 100) C dX2_readArguments_54 rfl ?_
      refine r_cneN (pc := 56) (tgt := 63) C dX2_readArguments_56 rfl (by omega) (by omega) (fun c_56 => False.elim (by omega)) (fun c_56 => ?_)
      refine r_iconst (pc := 59) (v := 1) C dX2_readArguments_59 rfl ?_
      refine r_goto (pc := 60) (tgt := 64) C dX2_readArguments_60 rfl ?_
      obtain ⟨e1, n1, hn1⟩ : ∃ e n, nmv c L 1 (e0 + 1) 0 = (e, n) := ⟨_, _, rfl⟩
      obtain ⟨x1, y1, -⟩ := nmv_le (c := c) (L := L) 1 (e0 + 1) 0
      rw [hn1] at x1 y1
      replace x1 : (e0 + 1) ≤ e1 := x1
      replace y1 : e1 ≤ L := y1 (by omega)
      refine r_c9i (pc := 64) C hfl k_X2_88 (c_readNumber (m := 1) hr hR (by omega) (by omega) hn1) hr.1 ca_X2 rfl rfl (Nat.le_of_ble_eq_true rfl) (by decide) (by decide) dX2_readArguments_64 ?_
      refine r_iast (pc := 67) (x := 0 + 1) C hr.2.1 rfl (by omega) (by decide) dX2_readArguments_67 ?_
      refine r_I (I' := rI I r e1 5 (upd (upd nm 0 (nI n0)) (0 + 1) (nI n1))) rI_st ?_
      refine r_aload_n (pc := 68) C 3 dX2_readArguments_68 rfl rfl ?_
      refine r_get9I (pc := 69) C f_X2_9 hr.1 (Or.inl rfl) dX2_readArguments_69 ?_
      refine r_t (y := nI e1) rI_0 ?_
      refine r_iload_n (pc := 72) C 0 dX2_readArguments_72 rfl rfl ?_
      refine r_cneN (pc := 73) (tgt := 78) C dX2_readArguments_73 rfl (by omega) (by omega) (fun c_73 => ?_) (fun c_73 => ?_)
      · skip
        have d1 := c_73
        refine r_iincN (pc := 78) (m := 1) (lo' := [(2, _), (3, _), (1, _), (0, _)]) C 1 dX2_readArguments_78 rfl rfl (by decide) rfl ?_
        refine r_goto (pc := 81) (tgt := 10) C dX2_readArguments_81 rfl ?_
        refine r_iload_n (pc := 10) C 0 dX2_readArguments_10 rfl rfl ?_
        refine r_aload_n (pc := 11) C 2 dX2_readArguments_11 rfl rfl ?_
        refine r_cKi (pc := 12) C hfl k_X2_76 (c_slen (i := 13) (by omega)) (C.Z.2.2.2.2.1 13 (by omega)).1 (As := []) rfl rfl (Nat.le_of_ble_eq_true rfl) (by decide) (by decide) dX2_readArguments_12 ?_
        refine r_t (y := nI 3) (by decide) ?_
        refine r_cgeN (pc := 15) (tgt := 84) C dX2_readArguments_15 rfl (by omega) (by omega) (fun c_15 => False.elim (by omega)) (fun c_15 => ?_)
        refine r_iload_n (pc := 18) C 0 dX2_readArguments_18 rfl rfl ?_
        refine r_iconst (pc := 19) (v := 5) C dX2_readArguments_19 rfl ?_
        refine r_cgeN (pc := 20) (tgt := 84) C dX2_readArguments_20 rfl (by omega) (by omega) (fun c_20 => False.elim (by omega)) (fun c_20 => ?_)
        refine r_iload_n (pc := 23) C 0 dX2_readArguments_23 rfl rfl ?_
        refine r_ifleN (pc := 24) (tgt := 38) C dX2_readArguments_24 rfl (by omega) (fun c_24 => False.elim (by omega)) (fun c_24 => ?_)
        refine r_aload_n (pc := 27) C 3 dX2_readArguments_27 rfl rfl ?_
        refine r_bipush (pc := 28) (v := 32) C dX2_readArguments_28 rfl ?_
        refine r_c9i (pc := 30) C hfl k_X2_50 (c_sign (x := 32) hr hR (p := e1) (by omega) (by decide)) hr.1 ca_X2 rfl rfl (Nat.le_of_ble_eq_true rfl) (by decide) (by decide) dX2_readArguments_30 ?_
        refine r_ifneB (pc := 33) (tgt := 38) C dX2_readArguments_33 rfl (fun c_33 => ?_) (fun c_33 => ?_)
        · skip
          have hs1 := c_33
          refine r_I (I' := rI I r (e1 + 1) 5 (upd (upd nm 0 (nI n0)) (0 + 1) (nI n1))) (by rw [if_pos c_33]) ?_
          refine r_aload_n (pc := 38) C 3 dX2_readArguments_38 rfl rfl ?_
          refine r_get9I (pc := 39) C f_X2_9 hr.1 (Or.inl rfl) dX2_readArguments_39 ?_
          refine r_t (y := nI ((e1 + 1))) rI_0 ?_
          refine r_istore_n (pc := 42) (lo' := [(3, _), (2, _), (1, _), (0, _)]) C dX2_readArguments_42 rfl (by decide) rfl ?_
          refine r_aload_n (pc := 43) C 3 dX2_readArguments_43 rfl rfl ?_
          refine r_get9R (pc := 44) (x := r + 1) C f_X2_24 hr.1 (Or.inl rfl) rfl dX2_readArguments_44 ?_
          refine r_iload_n (pc := 47) C 1 dX2_readArguments_47 rfl rfl ?_
          refine r_aload_n (pc := 48) C 3 dX2_readArguments_48 rfl rfl ?_
          refine r_aload_n (pc := 49) C 2 dX2_readArguments_49 rfl rfl ?_
          refine r_iload_n (pc := 50) C 1 dX2_readArguments_50 rfl rfl ?_
          refine r_cKi (pc := 51) C hfl k_X2_81 (c_schar (i := 13) (q := 0 + 1 + 1) (by omega) (by decide)) (C.Z.2.2.2.2.1 13 (by omega)).1 (As := [_]) rfl rfl (Nat.le_of_ble_eq_true rfl) (by decide) (by decide) dX2_readArguments_51 ?_
          refine r_t (y := nI 110) (by decide) ?_
          refine r_bipush (pc := 54) (v := 100) C dX2_readArguments_54 rfl ?_
          refine r_cneN (pc := 56) (tgt := 63) C dX2_readArguments_56 rfl (by omega) (by omega) (fun c_56 => ?_) (fun c_56 => False.elim (by omega))
          refine r_iconst (pc := 63) (v := 3) C dX2_readArguments_63 rfl ?_
          obtain ⟨e2, n2, hn2⟩ : ∃ e n, nmv c L 3 (e1 + 1) 0 = (e, n) := ⟨_, _, rfl⟩
          obtain ⟨x2, y2, -⟩ := nmv_le (c := c) (L := L) 3 (e1 + 1) 0
          rw [hn2] at x2 y2
          replace x2 : (e1 + 1) ≤ e2 := x2
          replace y2 : e2 ≤ L := y2 (by omega)
          refine r_c9i (pc := 64) C hfl k_X2_88 (c_readNumber (m := 3) hr hR (by omega) (by omega) hn2) hr.1 ca_X2 rfl rfl (Nat.le_of_ble_eq_true rfl) (by decide) (by decide) dX2_readArguments_64 ?_
          refine r_iast (pc := 67) (x := 0 + 1 + 1) C hr.2.1 rfl (by omega) (by decide) dX2_readArguments_67 ?_
          refine r_I (I' := rI I r e2 5 (upd (upd (upd nm 0 (nI n0)) (0 + 1) (nI n1)) (0 + 1 + 1) (nI n2))) rI_st ?_
          refine r_aload_n (pc := 68) C 3 dX2_readArguments_68 rfl rfl ?_
          refine r_get9I (pc := 69) C f_X2_9 hr.1 (Or.inl rfl) dX2_readArguments_69 ?_
          refine r_t (y := nI e2) rI_0 ?_
          refine r_iload_n (pc := 72) C 0 dX2_readArguments_72 rfl rfl ?_
          refine r_cneN (pc := 73) (tgt := 78) C dX2_readArguments_73 rfl (by omega) (by omega) (fun c_73 => ?_) (fun c_73 => ?_)
          · skip
            have d2 := c_73
            refine r_iincN (pc := 78) (m := 1) (lo' := [(2, _), (3, _), (1, _), (0, _)]) C 1 dX2_readArguments_78 rfl rfl (by decide) rfl ?_
            refine r_goto (pc := 81) (tgt := 10) C dX2_readArguments_81 rfl ?_
            refine r_iload_n (pc := 10) C 0 dX2_readArguments_10 rfl rfl ?_
            refine r_aload_n (pc := 11) C 2 dX2_readArguments_11 rfl rfl ?_
            refine r_cKi (pc := 12) C hfl k_X2_76 (c_slen (i := 13) (by omega)) (C.Z.2.2.2.2.1 13 (by omega)).1 (As := []) rfl rfl (Nat.le_of_ble_eq_true rfl) (by decide) (by decide) dX2_readArguments_12 ?_
            refine r_t (y := nI 3) (by decide) ?_
            refine r_cgeN (pc := 15) (tgt := 84) C dX2_readArguments_15 rfl (by omega) (by omega) (fun c_15 => ?_) (fun c_15 => False.elim (by omega))
            refine r_iconst (pc := 84) (v := 1) C dX2_readArguments_84 rfl ?_
            exact r_zret (pc := 85) C rfl dX2_readArguments_85 (by have z : agv c L [3, 1, 3] p = (true, e2, [n0, n1, n2]) := (by rw [agv_3 hn0 d0 hs0, agv_3 hn1 d1 hs1, agv_2 hn2 d2]); show RG I r 5 (agv c L [3, 1, 3] p) X T _ _ _ _; rw [z]; exact ⟨rfl, rfl, congrArg (fun z => some (Value.int z)) (bI_t rfl).symm, _, rfl, fun _ k hk => match k, hk with | 0, _ => rfl | 1, _ => rfl | 2, _ => rfl | k + 3, hk => absurd hk (Nat.not_lt.mpr (Nat.le_add_left _ _))⟩) (by decide)
          · skip
            refine r_iconst (pc := 76) (v := 0) C dX2_readArguments_76 rfl ?_
            exact r_zret (pc := 77) C rfl dX2_readArguments_77 (by have z : agv c L [3, 1, 3] p = (false, (e1 + 1), n0 :: n1 :: []) := (by rw [agv_3 hn0 d0 hs0, agv_3 hn1 d1 hs1, agv_1 hn2 c_73]); show RG I r 5 (agv c L [3, 1, 3] p) X T _ _ _ _; rw [z]; exact ⟨rfl, rfl, congrArg (fun z => some (Value.int z)) (bI_f Bool.false_ne_true).symm, _, (by rw [c_73]), fun h => absurd h Bool.false_ne_true⟩) (by decide)
        · skip
          refine r_I (I' := rI I r e1 5 (upd (upd nm 0 (nI n0)) (0 + 1) (nI n1))) (by rw [if_neg c_33]) ?_
          refine r_iconst (pc := 36) (v := 0) C dX2_readArguments_36 rfl ?_
          exact r_zret (pc := 37) C rfl dX2_readArguments_37 (by have z : agv c L [3, 1, 3] p = (false, e1, n0 :: []) := (by rw [agv_3 hn0 d0 hs0, agv_4 hn1 d1 c_33]); show RG I r 5 (agv c L [3, 1, 3] p) X T _ _ _ _; rw [z]; exact ⟨rfl, rfl, congrArg (fun z => some (Value.int z)) (bI_f Bool.false_ne_true).symm, _, rfl, fun h => absurd h Bool.false_ne_true⟩) (by decide)
      · skip
        refine r_iconst (pc := 76) (v := 0) C dX2_readArguments_76 rfl ?_
        exact r_zret (pc := 77) C rfl dX2_readArguments_77 (by have z : agv c L [3, 1, 3] p = (false, (e0 + 1), n0 :: []) := (by rw [agv_3 hn0 d0 hs0, agv_1 hn1 c_73]); show RG I r 5 (agv c L [3, 1, 3] p) X T _ _ _ _; rw [z]; exact ⟨rfl, rfl, congrArg (fun z => some (Value.int z)) (bI_f Bool.false_ne_true).symm, _, (by rw [c_73]), fun h => absurd h Bool.false_ne_true⟩) (by decide)
    · skip
      refine r_I (I' := rI I r e0 5 (upd nm 0 (nI n0))) (by rw [if_neg c_33]) ?_
      refine r_iconst (pc := 36) (v := 0) C dX2_readArguments_36 rfl ?_
      exact r_zret (pc := 37) C rfl dX2_readArguments_37 (by have z : agv c L [3, 1, 3] p = (false, e0, []) := (by rw [agv_4 hn0 d0 c_33]); show RG I r 5 (agv c L [3, 1, 3] p) X T _ _ _ _; rw [z]; exact ⟨rfl, rfl, congrArg (fun z => some (Value.int z)) (bI_f Bool.false_ne_true).symm, _, rfl, fun h => absurd h Bool.false_ne_true⟩) (by decide)
  · skip
    refine r_iconst (pc := 76) (v := 0) C dX2_readArguments_76 rfl ?_
    exact r_zret (pc := 77) C rfl dX2_readArguments_77 (by have z : agv c L [3, 1, 3] p = (false, p, []) := (by rw [agv_1 hn0 c_73]); show RG I r 5 (agv c L [3, 1, 3] p) X T _ _ _ _; rw [z]; exact ⟨rfl, rfl, congrArg (fun z => some (Value.int z)) (bI_f Bool.false_ne_true).symm, _, (by rw [c_73]), fun h => absurd h Bool.false_ne_true⟩) (by decide)

set_option maxHeartbeats 1000000 in
theorem c_args_6 {g : GG} {X : va_W} {T : TT} {I : II} {r L : Nat} {c : Nat → Nat} (hr : isRd T r) (hR : Rdr I r L c) {p : Nat} {nm : Nat → Int32} (hp : p ≤ L)  : Mc g yX2_readArguments cX2_readArguments 4 (some .boolean) 4 0 0 [.ref r] X T (rI I r p 6 nm) (RG I r 6 (agv c L (shL 6) p) X T) := by
  have hL := hR.2.1
  refine Mc.of (by decide) (Nat.le_of_ble_eq_true rfl) (fun k hfl C => ?_)
  refine r_lo (lo' := [(0, _)]) rfl ?_
  refine r_aload_n (pc := 0) C 0 dX2_readArguments_0 rfl rfl ?_
  refine r_get9V (pc := 1) (i := 6) C f_X2_21 hr.1 rI_1 (by omega) dX2_readArguments_1 ?_
  refine r_getO (pc := 4) C (C.Z.2.2.1 6 (by omega)).2.2.2 (gx 2280 (by decide +kernel) (by decide +kernel)) dX2_readArguments_4 ?_
  refine r_st (st' := .ref (ga g (100 + 14)) :: _) rfl ?_
  refine r_astore_n (pc := 7) (lo' := [(1, _), (0, _)]) C dX2_readArguments_7 rfl (by decide) rfl ?_
  refine r_iconst (pc := 8) (v := 0) C dX2_readArguments_8 rfl ?_
  refine r_istore_n (pc := 9) (lo' := [(2, _), (1, _), (0, _)]) C dX2_readArguments_9 rfl (by decide) rfl ?_
  refine r_iload_n (pc := 10) C 0 dX2_readArguments_10 rfl rfl ?_
  refine r_aload_n (pc := 11) C 1 dX2_readArguments_11 rfl rfl ?_
  refine r_cKi (pc := 12) C hfl k_X2_76 (c_slen (i := 14) (by omega)) (C.Z.2.2.2.2.1 14 (by omega)).1 (As := []) rfl rfl (Nat.le_of_ble_eq_true rfl) (by decide) (by decide) dX2_readArguments_12 ?_
  refine r_t (y := nI 2) (by decide) ?_
  refine r_cgeN (pc := 15) (tgt := 84) C dX2_readArguments_15 rfl (by omega) (by omega) (fun c_15 => False.elim (by omega)) (fun c_15 => ?_)
  refine r_iload_n (pc := 18) C 0 dX2_readArguments_18 rfl rfl ?_
  refine r_iconst (pc := 19) (v := 5) C dX2_readArguments_19 rfl ?_
  refine r_cgeN (pc := 20) (tgt := 84) C dX2_readArguments_20 rfl (by omega) (by omega) (fun c_20 => False.elim (by omega)) (fun c_20 => ?_)
  refine r_iload_n (pc := 23) C 0 dX2_readArguments_23 rfl rfl ?_
  refine r_ifleN (pc := 24) (tgt := 38) C dX2_readArguments_24 rfl (by omega) (fun c_24 => ?_) (fun c_24 => False.elim (by omega))
  refine r_aload_n (pc := 38) C 2 dX2_readArguments_38 rfl rfl ?_
  refine r_get9I (pc := 39) C f_X2_9 hr.1 (Or.inl rfl) dX2_readArguments_39 ?_
  refine r_t (y := nI p) rI_0 ?_
  refine r_istore_n (pc := 42) (lo' := [(3, _), (2, _), (1, _), (0, _)]) C dX2_readArguments_42 rfl (by decide) rfl ?_
  refine r_aload_n (pc := 43) C 3 dX2_readArguments_43 rfl rfl ?_
  refine r_get9R (pc := 44) (x := r + 1) C f_X2_24 hr.1 (Or.inl rfl) rfl dX2_readArguments_44 ?_
  refine r_iload_n (pc := 47) C 1 dX2_readArguments_47 rfl rfl ?_
  refine r_aload_n (pc := 48) C 3 dX2_readArguments_48 rfl rfl ?_
  refine r_aload_n (pc := 49) C 2 dX2_readArguments_49 rfl rfl ?_
  refine r_iload_n (pc := 50) C 1 dX2_readArguments_50 rfl rfl ?_
  refine r_cKi (pc := 51) C hfl k_X2_81 (c_schar (i := 14) (q := 0) (by omega) (by decide)) (C.Z.2.2.2.2.1 14 (by omega)).1 (As := [_]) rfl rfl (Nat.le_of_ble_eq_true rfl) (by decide) (by decide) dX2_readArguments_51 ?_
  refine r_t (y := nI 110) (by decide) ?_
  refine r_bipush (pc := 54) (v := 100) C dX2_readArguments_54 rfl ?_
  refine r_cneN (pc := 56) (tgt := 63) C dX2_readArguments_56 rfl (by omega) (by omega) (fun c_56 => ?_) (fun c_56 => False.elim (by omega))
  refine r_iconst (pc := 63) (v := 3) C dX2_readArguments_63 rfl ?_
  obtain ⟨e0, n0, hn0⟩ : ∃ e n, nmv c L 3 p 0 = (e, n) := ⟨_, _, rfl⟩
  obtain ⟨x0, y0, -⟩ := nmv_le (c := c) (L := L) 3 p 0
  rw [hn0] at x0 y0
  replace x0 : p ≤ e0 := x0
  replace y0 : e0 ≤ L := y0 (by omega)
  refine r_c9i (pc := 64) C hfl k_X2_88 (c_readNumber (m := 3) hr hR (by omega) (by omega) hn0) hr.1 ca_X2 rfl rfl (Nat.le_of_ble_eq_true rfl) (by decide) (by decide) dX2_readArguments_64 ?_
  refine r_iast (pc := 67) (x := 0) C hr.2.1 rfl (by omega) (by decide) dX2_readArguments_67 ?_
  refine r_I (I' := rI I r e0 6 (upd nm 0 (nI n0))) rI_st ?_
  refine r_aload_n (pc := 68) C 3 dX2_readArguments_68 rfl rfl ?_
  refine r_get9I (pc := 69) C f_X2_9 hr.1 (Or.inl rfl) dX2_readArguments_69 ?_
  refine r_t (y := nI e0) rI_0 ?_
  refine r_iload_n (pc := 72) C 0 dX2_readArguments_72 rfl rfl ?_
  refine r_cneN (pc := 73) (tgt := 78) C dX2_readArguments_73 rfl (by omega) (by omega) (fun c_73 => ?_) (fun c_73 => ?_)
  · skip
    have d0 := c_73
    refine r_iincN (pc := 78) (m := 1) (lo' := [(2, _), (3, _), (1, _), (0, _)]) C 1 dX2_readArguments_78 rfl rfl (by decide) rfl ?_
    refine r_goto (pc := 81) (tgt := 10) C dX2_readArguments_81 rfl ?_
    refine r_iload_n (pc := 10) C 0 dX2_readArguments_10 rfl rfl ?_
    refine r_aload_n (pc := 11) C 2 dX2_readArguments_11 rfl rfl ?_
    refine r_cKi (pc := 12) C hfl k_X2_76 (c_slen (i := 14) (by omega)) (C.Z.2.2.2.2.1 14 (by omega)).1 (As := []) rfl rfl (Nat.le_of_ble_eq_true rfl) (by decide) (by decide) dX2_readArguments_12 ?_
    refine r_t (y := nI 2) (by decide) ?_
    refine r_cgeN (pc := 15) (tgt := 84) C dX2_readArguments_15 rfl (by omega) (by omega) (fun c_15 => False.elim (by omega)) (fun c_15 => ?_)
    refine r_iload_n (pc := 18) C 0 dX2_readArguments_18 rfl rfl ?_
    refine r_iconst (pc := 19) (v := 5) C dX2_readArguments_19 rfl ?_
    refine r_cgeN (pc := 20) (tgt := 84) C dX2_readArguments_20 rfl (by omega) (by omega) (fun c_20 => False.elim (by omega)) (fun c_20 => ?_)
    refine r_iload_n (pc := 23) C 0 dX2_readArguments_23 rfl rfl ?_
    refine r_ifleN (pc := 24) (tgt := 38) C dX2_readArguments_24 rfl (by omega) (fun c_24 => False.elim (by omega)) (fun c_24 => ?_)
    refine r_aload_n (pc := 27) C 3 dX2_readArguments_27 rfl rfl ?_
    refine r_bipush (pc := 28) (v := 32) C dX2_readArguments_28 rfl ?_
    refine r_c9i (pc := 30) C hfl k_X2_50 (c_sign (x := 32) hr hR (p := e0) (by omega) (by decide)) hr.1 ca_X2 rfl rfl (Nat.le_of_ble_eq_true rfl) (by decide) (by decide) dX2_readArguments_30 ?_
    refine r_ifneB (pc := 33) (tgt := 38) C dX2_readArguments_33 rfl (fun c_33 => ?_) (fun c_33 => ?_)
    · skip
      have hs0 := c_33
      refine r_I (I' := rI I r (e0 + 1) 6 (upd nm 0 (nI n0))) (by rw [if_pos c_33]) ?_
      refine r_aload_n (pc := 38) C 3 dX2_readArguments_38 rfl rfl ?_
      refine r_get9I (pc := 39) C f_X2_9 hr.1 (Or.inl rfl) dX2_readArguments_39 ?_
      refine r_t (y := nI ((e0 + 1))) rI_0 ?_
      refine r_istore_n (pc := 42) (lo' := [(3, _), (2, _), (1, _), (0, _)]) C dX2_readArguments_42 rfl (by decide) rfl ?_
      refine r_aload_n (pc := 43) C 3 dX2_readArguments_43 rfl rfl ?_
      refine r_get9R (pc := 44) (x := r + 1) C f_X2_24 hr.1 (Or.inl rfl) rfl dX2_readArguments_44 ?_
      refine r_iload_n (pc := 47) C 1 dX2_readArguments_47 rfl rfl ?_
      refine r_aload_n (pc := 48) C 3 dX2_readArguments_48 rfl rfl ?_
      refine r_aload_n (pc := 49) C 2 dX2_readArguments_49 rfl rfl ?_
      refine r_iload_n (pc := 50) C 1 dX2_readArguments_50 rfl rfl ?_
      refine r_cKi (pc := 51) C hfl k_X2_81 (c_schar (i := 14) (q := 0 + 1) (by omega) (by decide)) (C.Z.2.2.2.2.1 14 (by omega)).1 (As := [_]) rfl rfl (Nat.le_of_ble_eq_true rfl) (by decide) (by decide) dX2_readArguments_51 ?_
      refine r_t (y := nI 110) (by decide) ?_
      refine r_bipush (pc := 54) (v := 100) C dX2_readArguments_54 rfl ?_
      refine r_cneN (pc := 56) (tgt := 63) C dX2_readArguments_56 rfl (by omega) (by omega) (fun c_56 => ?_) (fun c_56 => False.elim (by omega))
      refine r_iconst (pc := 63) (v := 3) C dX2_readArguments_63 rfl ?_
      obtain ⟨e1, n1, hn1⟩ : ∃ e n, nmv c L 3 (e0 + 1) 0 = (e, n) := ⟨_, _, rfl⟩
      obtain ⟨x1, y1, -⟩ := nmv_le (c := c) (L := L) 3 (e0 + 1) 0
      rw [hn1] at x1 y1
      replace x1 : (e0 + 1) ≤ e1 := x1
      replace y1 : e1 ≤ L := y1 (by omega)
      refine r_c9i (pc := 64) C hfl k_X2_88 (c_readNumber (m := 3) hr hR (by omega) (by omega) hn1) hr.1 ca_X2 rfl rfl (Nat.le_of_ble_eq_true rfl) (by decide) (by decide) dX2_readArguments_64 ?_
      refine r_iast (pc := 67) (x := 0 + 1) C hr.2.1 rfl (by omega) (by decide) dX2_readArguments_67 ?_
      refine r_I (I' := rI I r e1 6 (upd (upd nm 0 (nI n0)) (0 + 1) (nI n1))) rI_st ?_
      refine r_aload_n (pc := 68) C 3 dX2_readArguments_68 rfl rfl ?_
      refine r_get9I (pc := 69) C f_X2_9 hr.1 (Or.inl rfl) dX2_readArguments_69 ?_
      refine r_t (y := nI e1) rI_0 ?_
      refine r_iload_n (pc := 72) C 0 dX2_readArguments_72 rfl rfl ?_
      refine r_cneN (pc := 73) (tgt := 78) C dX2_readArguments_73 rfl (by omega) (by omega) (fun c_73 => ?_) (fun c_73 => ?_)
      · skip
        have d1 := c_73
        refine r_iincN (pc := 78) (m := 1) (lo' := [(2, _), (3, _), (1, _), (0, _)]) C 1 dX2_readArguments_78 rfl rfl (by decide) rfl ?_
        refine r_goto (pc := 81) (tgt := 10) C dX2_readArguments_81 rfl ?_
        refine r_iload_n (pc := 10) C 0 dX2_readArguments_10 rfl rfl ?_
        refine r_aload_n (pc := 11) C 2 dX2_readArguments_11 rfl rfl ?_
        refine r_cKi (pc := 12) C hfl k_X2_76 (c_slen (i := 14) (by omega)) (C.Z.2.2.2.2.1 14 (by omega)).1 (As := []) rfl rfl (Nat.le_of_ble_eq_true rfl) (by decide) (by decide) dX2_readArguments_12 ?_
        refine r_t (y := nI 2) (by decide) ?_
        refine r_cgeN (pc := 15) (tgt := 84) C dX2_readArguments_15 rfl (by omega) (by omega) (fun c_15 => ?_) (fun c_15 => False.elim (by omega))
        refine r_iconst (pc := 84) (v := 1) C dX2_readArguments_84 rfl ?_
        exact r_zret (pc := 85) C rfl dX2_readArguments_85 (by have z : agv c L [3, 3] p = (true, e1, [n0, n1]) := (by rw [agv_3 hn0 d0 hs0, agv_2 hn1 d1]); show RG I r 6 (agv c L [3, 3] p) X T _ _ _ _; rw [z]; exact ⟨rfl, rfl, congrArg (fun z => some (Value.int z)) (bI_t rfl).symm, _, rfl, fun _ k hk => match k, hk with | 0, _ => rfl | 1, _ => rfl | k + 2, hk => absurd hk (Nat.not_lt.mpr (Nat.le_add_left _ _))⟩) (by decide)
      · skip
        refine r_iconst (pc := 76) (v := 0) C dX2_readArguments_76 rfl ?_
        exact r_zret (pc := 77) C rfl dX2_readArguments_77 (by have z : agv c L [3, 3] p = (false, (e0 + 1), n0 :: []) := (by rw [agv_3 hn0 d0 hs0, agv_1 hn1 c_73]); show RG I r 6 (agv c L [3, 3] p) X T _ _ _ _; rw [z]; exact ⟨rfl, rfl, congrArg (fun z => some (Value.int z)) (bI_f Bool.false_ne_true).symm, _, (by rw [c_73]), fun h => absurd h Bool.false_ne_true⟩) (by decide)
    · skip
      refine r_I (I' := rI I r e0 6 (upd nm 0 (nI n0))) (by rw [if_neg c_33]) ?_
      refine r_iconst (pc := 36) (v := 0) C dX2_readArguments_36 rfl ?_
      exact r_zret (pc := 37) C rfl dX2_readArguments_37 (by have z : agv c L [3, 3] p = (false, e0, []) := (by rw [agv_4 hn0 d0 c_33]); show RG I r 6 (agv c L [3, 3] p) X T _ _ _ _; rw [z]; exact ⟨rfl, rfl, congrArg (fun z => some (Value.int z)) (bI_f Bool.false_ne_true).symm, _, rfl, fun h => absurd h Bool.false_ne_true⟩) (by decide)
  · skip
    refine r_iconst (pc := 76) (v := 0) C dX2_readArguments_76 rfl ?_
    exact r_zret (pc := 77) C rfl dX2_readArguments_77 (by have z : agv c L [3, 3] p = (false, p, []) := (by rw [agv_1 hn0 c_73]); show RG I r 6 (agv c L [3, 3] p) X T _ _ _ _; rw [z]; exact ⟨rfl, rfl, congrArg (fun z => some (Value.int z)) (bI_f Bool.false_ne_true).symm, _, (by rw [c_73]), fun h => absurd h Bool.false_ne_true⟩) (by decide)

set_option maxHeartbeats 1000000 in
theorem c_args_7 {g : GG} {X : va_W} {T : TT} {I : II} {r L : Nat} {c : Nat → Nat} (hr : isRd T r) (hR : Rdr I r L c) {p : Nat} {nm : Nat → Int32} (hp : p ≤ L)  : Mc g yX2_readArguments cX2_readArguments 4 (some .boolean) 4 0 0 [.ref r] X T (rI I r p 7 nm) (RG I r 7 (agv c L (shL 7) p) X T) := by
  have hL := hR.2.1
  refine Mc.of (by decide) (Nat.le_of_ble_eq_true rfl) (fun k hfl C => ?_)
  refine r_lo (lo' := [(0, _)]) rfl ?_
  refine r_aload_n (pc := 0) C 0 dX2_readArguments_0 rfl rfl ?_
  refine r_get9V (pc := 1) (i := 7) C f_X2_21 hr.1 rI_1 (by omega) dX2_readArguments_1 ?_
  refine r_getO (pc := 4) C (C.Z.2.2.1 7 (by omega)).2.2.2 (gx 2280 (by decide +kernel) (by decide +kernel)) dX2_readArguments_4 ?_
  refine r_st (st' := .ref (ga g (100 + 10)) :: _) rfl ?_
  refine r_astore_n (pc := 7) (lo' := [(1, _), (0, _)]) C dX2_readArguments_7 rfl (by decide) rfl ?_
  refine r_iconst (pc := 8) (v := 0) C dX2_readArguments_8 rfl ?_
  refine r_istore_n (pc := 9) (lo' := [(2, _), (1, _), (0, _)]) C dX2_readArguments_9 rfl (by decide) rfl ?_
  refine r_iload_n (pc := 10) C 0 dX2_readArguments_10 rfl rfl ?_
  refine r_aload_n (pc := 11) C 1 dX2_readArguments_11 rfl rfl ?_
  refine r_cKi (pc := 12) C hfl k_X2_76 (c_slen (i := 10) (by omega)) (C.Z.2.2.2.2.1 10 (by omega)).1 (As := []) rfl rfl (Nat.le_of_ble_eq_true rfl) (by decide) (by decide) dX2_readArguments_12 ?_
  refine r_t (y := nI 3) (by decide) ?_
  refine r_cgeN (pc := 15) (tgt := 84) C dX2_readArguments_15 rfl (by omega) (by omega) (fun c_15 => False.elim (by omega)) (fun c_15 => ?_)
  refine r_iload_n (pc := 18) C 0 dX2_readArguments_18 rfl rfl ?_
  refine r_iconst (pc := 19) (v := 5) C dX2_readArguments_19 rfl ?_
  refine r_cgeN (pc := 20) (tgt := 84) C dX2_readArguments_20 rfl (by omega) (by omega) (fun c_20 => False.elim (by omega)) (fun c_20 => ?_)
  refine r_iload_n (pc := 23) C 0 dX2_readArguments_23 rfl rfl ?_
  refine r_ifleN (pc := 24) (tgt := 38) C dX2_readArguments_24 rfl (by omega) (fun c_24 => ?_) (fun c_24 => False.elim (by omega))
  refine r_aload_n (pc := 38) C 2 dX2_readArguments_38 rfl rfl ?_
  refine r_get9I (pc := 39) C f_X2_9 hr.1 (Or.inl rfl) dX2_readArguments_39 ?_
  refine r_t (y := nI p) rI_0 ?_
  refine r_istore_n (pc := 42) (lo' := [(3, _), (2, _), (1, _), (0, _)]) C dX2_readArguments_42 rfl (by decide) rfl ?_
  refine r_aload_n (pc := 43) C 3 dX2_readArguments_43 rfl rfl ?_
  refine r_get9R (pc := 44) (x := r + 1) C f_X2_24 hr.1 (Or.inl rfl) rfl dX2_readArguments_44 ?_
  refine r_iload_n (pc := 47) C 1 dX2_readArguments_47 rfl rfl ?_
  refine r_aload_n (pc := 48) C 3 dX2_readArguments_48 rfl rfl ?_
  refine r_aload_n (pc := 49) C 2 dX2_readArguments_49 rfl rfl ?_
  refine r_iload_n (pc := 50) C 1 dX2_readArguments_50 rfl rfl ?_
  refine r_cKi (pc := 51) C hfl k_X2_81 (c_schar (i := 10) (q := 0) (by omega) (by decide)) (C.Z.2.2.2.2.1 10 (by omega)).1 (As := [_]) rfl rfl (Nat.le_of_ble_eq_true rfl) (by decide) (by decide) dX2_readArguments_51 ?_
  refine r_t (y := nI 100) (by decide) ?_
  refine r_bipush (pc := 54) (v := 100) C dX2_readArguments_54 rfl ?_
  refine r_cneN (pc := 56) (tgt := 63) C dX2_readArguments_56 rfl (by omega) (by omega) (fun c_56 => False.elim (by omega)) (fun c_56 => ?_)
  refine r_iconst (pc := 59) (v := 1) C dX2_readArguments_59 rfl ?_
  refine r_goto (pc := 60) (tgt := 64) C dX2_readArguments_60 rfl ?_
  obtain ⟨e0, n0, hn0⟩ : ∃ e n, nmv c L 1 p 0 = (e, n) := ⟨_, _, rfl⟩
  obtain ⟨x0, y0, -⟩ := nmv_le (c := c) (L := L) 1 p 0
  rw [hn0] at x0 y0
  replace x0 : p ≤ e0 := x0
  replace y0 : e0 ≤ L := y0 (by omega)
  refine r_c9i (pc := 64) C hfl k_X2_88 (c_readNumber (m := 1) hr hR (by omega) (by omega) hn0) hr.1 ca_X2 rfl rfl (Nat.le_of_ble_eq_true rfl) (by decide) (by decide) dX2_readArguments_64 ?_
  refine r_iast (pc := 67) (x := 0) C hr.2.1 rfl (by omega) (by decide) dX2_readArguments_67 ?_
  refine r_I (I' := rI I r e0 7 (upd nm 0 (nI n0))) rI_st ?_
  refine r_aload_n (pc := 68) C 3 dX2_readArguments_68 rfl rfl ?_
  refine r_get9I (pc := 69) C f_X2_9 hr.1 (Or.inl rfl) dX2_readArguments_69 ?_
  refine r_t (y := nI e0) rI_0 ?_
  refine r_iload_n (pc := 72) C 0 dX2_readArguments_72 rfl rfl ?_
  refine r_cneN (pc := 73) (tgt := 78) C dX2_readArguments_73 rfl (by omega) (by omega) (fun c_73 => ?_) (fun c_73 => ?_)
  · skip
    have d0 := c_73
    refine r_iincN (pc := 78) (m := 1) (lo' := [(2, _), (3, _), (1, _), (0, _)]) C 1 dX2_readArguments_78 rfl rfl (by decide) rfl ?_
    refine r_goto (pc := 81) (tgt := 10) C dX2_readArguments_81 rfl ?_
    refine r_iload_n (pc := 10) C 0 dX2_readArguments_10 rfl rfl ?_
    refine r_aload_n (pc := 11) C 2 dX2_readArguments_11 rfl rfl ?_
    refine r_cKi (pc := 12) C hfl k_X2_76 (c_slen (i := 10) (by omega)) (C.Z.2.2.2.2.1 10 (by omega)).1 (As := []) rfl rfl (Nat.le_of_ble_eq_true rfl) (by decide) (by decide) dX2_readArguments_12 ?_
    refine r_t (y := nI 3) (by decide) ?_
    refine r_cgeN (pc := 15) (tgt := 84) C dX2_readArguments_15 rfl (by omega) (by omega) (fun c_15 => False.elim (by omega)) (fun c_15 => ?_)
    refine r_iload_n (pc := 18) C 0 dX2_readArguments_18 rfl rfl ?_
    refine r_iconst (pc := 19) (v := 5) C dX2_readArguments_19 rfl ?_
    refine r_cgeN (pc := 20) (tgt := 84) C dX2_readArguments_20 rfl (by omega) (by omega) (fun c_20 => False.elim (by omega)) (fun c_20 => ?_)
    refine r_iload_n (pc := 23) C 0 dX2_readArguments_23 rfl rfl ?_
    refine r_ifleN (pc := 24) (tgt := 38) C dX2_readArguments_24 rfl (by omega) (fun c_24 => False.elim (by omega)) (fun c_24 => ?_)
    refine r_aload_n (pc := 27) C 3 dX2_readArguments_27 rfl rfl ?_
    refine r_bipush (pc := 28) (v := 32) C dX2_readArguments_28 rfl ?_
    refine r_c9i (pc := 30) C hfl k_X2_50 (c_sign (x := 32) hr hR (p := e0) (by omega) (by decide)) hr.1 ca_X2 rfl rfl (Nat.le_of_ble_eq_true rfl) (by decide) (by decide) dX2_readArguments_30 ?_
    refine r_ifneB (pc := 33) (tgt := 38) C dX2_readArguments_33 rfl (fun c_33 => ?_) (fun c_33 => ?_)
    · skip
      have hs0 := c_33
      refine r_I (I' := rI I r (e0 + 1) 7 (upd nm 0 (nI n0))) (by rw [if_pos c_33]) ?_
      refine r_aload_n (pc := 38) C 3 dX2_readArguments_38 rfl rfl ?_
      refine r_get9I (pc := 39) C f_X2_9 hr.1 (Or.inl rfl) dX2_readArguments_39 ?_
      refine r_t (y := nI ((e0 + 1))) rI_0 ?_
      refine r_istore_n (pc := 42) (lo' := [(3, _), (2, _), (1, _), (0, _)]) C dX2_readArguments_42 rfl (by decide) rfl ?_
      refine r_aload_n (pc := 43) C 3 dX2_readArguments_43 rfl rfl ?_
      refine r_get9R (pc := 44) (x := r + 1) C f_X2_24 hr.1 (Or.inl rfl) rfl dX2_readArguments_44 ?_
      refine r_iload_n (pc := 47) C 1 dX2_readArguments_47 rfl rfl ?_
      refine r_aload_n (pc := 48) C 3 dX2_readArguments_48 rfl rfl ?_
      refine r_aload_n (pc := 49) C 2 dX2_readArguments_49 rfl rfl ?_
      refine r_iload_n (pc := 50) C 1 dX2_readArguments_50 rfl rfl ?_
      refine r_cKi (pc := 51) C hfl k_X2_81 (c_schar (i := 10) (q := 0 + 1) (by omega) (by decide)) (C.Z.2.2.2.2.1 10 (by omega)).1 (As := [_]) rfl rfl (Nat.le_of_ble_eq_true rfl) (by decide) (by decide) dX2_readArguments_51 ?_
      refine r_t (y := nI 100) (by decide) ?_
      refine r_bipush (pc := 54) (v := 100) C dX2_readArguments_54 rfl ?_
      refine r_cneN (pc := 56) (tgt := 63) C dX2_readArguments_56 rfl (by omega) (by omega) (fun c_56 => False.elim (by omega)) (fun c_56 => ?_)
      refine r_iconst (pc := 59) (v := 1) C dX2_readArguments_59 rfl ?_
      refine r_goto (pc := 60) (tgt := 64) C dX2_readArguments_60 rfl ?_
      obtain ⟨e1, n1, hn1⟩ : ∃ e n, nmv c L 1 (e0 + 1) 0 = (e, n) := ⟨_, _, rfl⟩
      obtain ⟨x1, y1, -⟩ := nmv_le (c := c) (L := L) 1 (e0 + 1) 0
      rw [hn1] at x1 y1
      replace x1 : (e0 + 1) ≤ e1 := x1
      replace y1 : e1 ≤ L := y1 (by omega)
      refine r_c9i (pc := 64) C hfl k_X2_88 (c_readNumber (m := 1) hr hR (by omega) (by omega) hn1) hr.1 ca_X2 rfl rfl (Nat.le_of_ble_eq_true rfl) (by decide) (by decide) dX2_readArguments_64 ?_
      refine r_iast (pc := 67) (x := 0 + 1) C hr.2.1 rfl (by omega) (by decide) dX2_readArguments_67 ?_
      refine r_I (I' := rI I r e1 7 (upd (upd nm 0 (nI n0)) (0 + 1) (nI n1))) rI_st ?_
      refine r_aload_n (pc := 68) C 3 dX2_readArguments_68 rfl rfl ?_
      refine r_get9I (pc := 69) C f_X2_9 hr.1 (Or.inl rfl) dX2_readArguments_69 ?_
      refine r_t (y := nI e1) rI_0 ?_
      refine r_iload_n (pc := 72) C 0 dX2_readArguments_72 rfl rfl ?_
      refine r_cneN (pc := 73) (tgt := 78) C dX2_readArguments_73 rfl (by omega) (by omega) (fun c_73 => ?_) (fun c_73 => ?_)
      · skip
        have d1 := c_73
        refine r_iincN (pc := 78) (m := 1) (lo' := [(2, _), (3, _), (1, _), (0, _)]) C 1 dX2_readArguments_78 rfl rfl (by decide) rfl ?_
        refine r_goto (pc := 81) (tgt := 10) C dX2_readArguments_81 rfl ?_
        refine r_iload_n (pc := 10) C 0 dX2_readArguments_10 rfl rfl ?_
        refine r_aload_n (pc := 11) C 2 dX2_readArguments_11 rfl rfl ?_
        refine r_cKi (pc := 12) C hfl k_X2_76 (c_slen (i := 10) (by omega)) (C.Z.2.2.2.2.1 10 (by omega)).1 (As := []) rfl rfl (Nat.le_of_ble_eq_true rfl) (by decide) (by decide) dX2_readArguments_12 ?_
        refine r_t (y := nI 3) (by decide) ?_
        refine r_cgeN (pc := 15) (tgt := 84) C dX2_readArguments_15 rfl (by omega) (by omega) (fun c_15 => False.elim (by omega)) (fun c_15 => ?_)
        refine r_iload_n (pc := 18) C 0 dX2_readArguments_18 rfl rfl ?_
        refine r_iconst (pc := 19) (v := 5) C dX2_readArguments_19 rfl ?_
        refine r_cgeN (pc := 20) (tgt := 84) C dX2_readArguments_20 rfl (by omega) (by omega) (fun c_20 => False.elim (by omega)) (fun c_20 => ?_)
        refine r_iload_n (pc := 23) C 0 dX2_readArguments_23 rfl rfl ?_
        refine r_ifleN (pc := 24) (tgt := 38) C dX2_readArguments_24 rfl (by omega) (fun c_24 => False.elim (by omega)) (fun c_24 => ?_)
        refine r_aload_n (pc := 27) C 3 dX2_readArguments_27 rfl rfl ?_
        refine r_bipush (pc := 28) (v := 32) C dX2_readArguments_28 rfl ?_
        refine r_c9i (pc := 30) C hfl k_X2_50 (c_sign (x := 32) hr hR (p := e1) (by omega) (by decide)) hr.1 ca_X2 rfl rfl (Nat.le_of_ble_eq_true rfl) (by decide) (by decide) dX2_readArguments_30 ?_
        refine r_ifneB (pc := 33) (tgt := 38) C dX2_readArguments_33 rfl (fun c_33 => ?_) (fun c_33 => ?_)
        · skip
          have hs1 := c_33
          refine r_I (I' := rI I r (e1 + 1) 7 (upd (upd nm 0 (nI n0)) (0 + 1) (nI n1))) (by rw [if_pos c_33]) ?_
          refine r_aload_n (pc := 38) C 3 dX2_readArguments_38 rfl rfl ?_
          refine r_get9I (pc := 39) C f_X2_9 hr.1 (Or.inl rfl) dX2_readArguments_39 ?_
          refine r_t (y := nI ((e1 + 1))) rI_0 ?_
          refine r_istore_n (pc := 42) (lo' := [(3, _), (2, _), (1, _), (0, _)]) C dX2_readArguments_42 rfl (by decide) rfl ?_
          refine r_aload_n (pc := 43) C 3 dX2_readArguments_43 rfl rfl ?_
          refine r_get9R (pc := 44) (x := r + 1) C f_X2_24 hr.1 (Or.inl rfl) rfl dX2_readArguments_44 ?_
          refine r_iload_n (pc := 47) C 1 dX2_readArguments_47 rfl rfl ?_
          refine r_aload_n (pc := 48) C 3 dX2_readArguments_48 rfl rfl ?_
          refine r_aload_n (pc := 49) C 2 dX2_readArguments_49 rfl rfl ?_
          refine r_iload_n (pc := 50) C 1 dX2_readArguments_50 rfl rfl ?_
          refine r_cKi (pc := 51) C hfl k_X2_81 (c_schar (i := 10) (q := 0 + 1 + 1) (by omega) (by decide)) (C.Z.2.2.2.2.1 10 (by omega)).1 (As := [_]) rfl rfl (Nat.le_of_ble_eq_true rfl) (by decide) (by decide) dX2_readArguments_51 ?_
          refine r_t (y := nI 110) (by decide) ?_
          refine r_bipush (pc := 54) (v := 100) C dX2_readArguments_54 rfl ?_
          refine r_cneN (pc := 56) (tgt := 63) C dX2_readArguments_56 rfl (by omega) (by omega) (fun c_56 => ?_) (fun c_56 => False.elim (by omega))
          refine r_iconst (pc := 63) (v := 3) C dX2_readArguments_63 rfl ?_
          obtain ⟨e2, n2, hn2⟩ : ∃ e n, nmv c L 3 (e1 + 1) 0 = (e, n) := ⟨_, _, rfl⟩
          obtain ⟨x2, y2, -⟩ := nmv_le (c := c) (L := L) 3 (e1 + 1) 0
          rw [hn2] at x2 y2
          replace x2 : (e1 + 1) ≤ e2 := x2
          replace y2 : e2 ≤ L := y2 (by omega)
          refine r_c9i (pc := 64) C hfl k_X2_88 (c_readNumber (m := 3) hr hR (by omega) (by omega) hn2) hr.1 ca_X2 rfl rfl (Nat.le_of_ble_eq_true rfl) (by decide) (by decide) dX2_readArguments_64 ?_
          refine r_iast (pc := 67) (x := 0 + 1 + 1) C hr.2.1 rfl (by omega) (by decide) dX2_readArguments_67 ?_
          refine r_I (I' := rI I r e2 7 (upd (upd (upd nm 0 (nI n0)) (0 + 1) (nI n1)) (0 + 1 + 1) (nI n2))) rI_st ?_
          refine r_aload_n (pc := 68) C 3 dX2_readArguments_68 rfl rfl ?_
          refine r_get9I (pc := 69) C f_X2_9 hr.1 (Or.inl rfl) dX2_readArguments_69 ?_
          refine r_t (y := nI e2) rI_0 ?_
          refine r_iload_n (pc := 72) C 0 dX2_readArguments_72 rfl rfl ?_
          refine r_cneN (pc := 73) (tgt := 78) C dX2_readArguments_73 rfl (by omega) (by omega) (fun c_73 => ?_) (fun c_73 => ?_)
          · skip
            have d2 := c_73
            refine r_iincN (pc := 78) (m := 1) (lo' := [(2, _), (3, _), (1, _), (0, _)]) C 1 dX2_readArguments_78 rfl rfl (by decide) rfl ?_
            refine r_goto (pc := 81) (tgt := 10) C dX2_readArguments_81 rfl ?_
            refine r_iload_n (pc := 10) C 0 dX2_readArguments_10 rfl rfl ?_
            refine r_aload_n (pc := 11) C 2 dX2_readArguments_11 rfl rfl ?_
            refine r_cKi (pc := 12) C hfl k_X2_76 (c_slen (i := 10) (by omega)) (C.Z.2.2.2.2.1 10 (by omega)).1 (As := []) rfl rfl (Nat.le_of_ble_eq_true rfl) (by decide) (by decide) dX2_readArguments_12 ?_
            refine r_t (y := nI 3) (by decide) ?_
            refine r_cgeN (pc := 15) (tgt := 84) C dX2_readArguments_15 rfl (by omega) (by omega) (fun c_15 => ?_) (fun c_15 => False.elim (by omega))
            refine r_iconst (pc := 84) (v := 1) C dX2_readArguments_84 rfl ?_
            exact r_zret (pc := 85) C rfl dX2_readArguments_85 (by have z : agv c L [1, 1, 3] p = (true, e2, [n0, n1, n2]) := (by rw [agv_3 hn0 d0 hs0, agv_3 hn1 d1 hs1, agv_2 hn2 d2]); show RG I r 7 (agv c L [1, 1, 3] p) X T _ _ _ _; rw [z]; exact ⟨rfl, rfl, congrArg (fun z => some (Value.int z)) (bI_t rfl).symm, _, rfl, fun _ k hk => match k, hk with | 0, _ => rfl | 1, _ => rfl | 2, _ => rfl | k + 3, hk => absurd hk (Nat.not_lt.mpr (Nat.le_add_left _ _))⟩) (by decide)
          · skip
            refine r_iconst (pc := 76) (v := 0) C dX2_readArguments_76 rfl ?_
            exact r_zret (pc := 77) C rfl dX2_readArguments_77 (by have z : agv c L [1, 1, 3] p = (false, (e1 + 1), n0 :: n1 :: []) := (by rw [agv_3 hn0 d0 hs0, agv_3 hn1 d1 hs1, agv_1 hn2 c_73]); show RG I r 7 (agv c L [1, 1, 3] p) X T _ _ _ _; rw [z]; exact ⟨rfl, rfl, congrArg (fun z => some (Value.int z)) (bI_f Bool.false_ne_true).symm, _, (by rw [c_73]), fun h => absurd h Bool.false_ne_true⟩) (by decide)
        · skip
          refine r_I (I' := rI I r e1 7 (upd (upd nm 0 (nI n0)) (0 + 1) (nI n1))) (by rw [if_neg c_33]) ?_
          refine r_iconst (pc := 36) (v := 0) C dX2_readArguments_36 rfl ?_
          exact r_zret (pc := 37) C rfl dX2_readArguments_37 (by have z : agv c L [1, 1, 3] p = (false, e1, n0 :: []) := (by rw [agv_3 hn0 d0 hs0, agv_4 hn1 d1 c_33]); show RG I r 7 (agv c L [1, 1, 3] p) X T _ _ _ _; rw [z]; exact ⟨rfl, rfl, congrArg (fun z => some (Value.int z)) (bI_f Bool.false_ne_true).symm, _, rfl, fun h => absurd h Bool.false_ne_true⟩) (by decide)
      · skip
        refine r_iconst (pc := 76) (v := 0) C dX2_readArguments_76 rfl ?_
        exact r_zret (pc := 77) C rfl dX2_readArguments_77 (by have z : agv c L [1, 1, 3] p = (false, (e0 + 1), n0 :: []) := (by rw [agv_3 hn0 d0 hs0, agv_1 hn1 c_73]); show RG I r 7 (agv c L [1, 1, 3] p) X T _ _ _ _; rw [z]; exact ⟨rfl, rfl, congrArg (fun z => some (Value.int z)) (bI_f Bool.false_ne_true).symm, _, (by rw [c_73]), fun h => absurd h Bool.false_ne_true⟩) (by decide)
    · skip
      refine r_I (I' := rI I r e0 7 (upd nm 0 (nI n0))) (by rw [if_neg c_33]) ?_
      refine r_iconst (pc := 36) (v := 0) C dX2_readArguments_36 rfl ?_
      exact r_zret (pc := 37) C rfl dX2_readArguments_37 (by have z : agv c L [1, 1, 3] p = (false, e0, []) := (by rw [agv_4 hn0 d0 c_33]); show RG I r 7 (agv c L [1, 1, 3] p) X T _ _ _ _; rw [z]; exact ⟨rfl, rfl, congrArg (fun z => some (Value.int z)) (bI_f Bool.false_ne_true).symm, _, rfl, fun h => absurd h Bool.false_ne_true⟩) (by decide)
  · skip
    refine r_iconst (pc := 76) (v := 0) C dX2_readArguments_76 rfl ?_
    exact r_zret (pc := 77) C rfl dX2_readArguments_77 (by have z : agv c L [1, 1, 3] p = (false, p, []) := (by rw [agv_1 hn0 c_73]); show RG I r 7 (agv c L [1, 1, 3] p) X T _ _ _ _; rw [z]; exact ⟨rfl, rfl, congrArg (fun z => some (Value.int z)) (bI_f Bool.false_ne_true).symm, _, (by rw [c_73]), fun h => absurd h Bool.false_ne_true⟩) (by decide)

set_option maxHeartbeats 1000000 in
theorem c_args_8 {g : GG} {X : va_W} {T : TT} {I : II} {r L : Nat} {c : Nat → Nat} (hr : isRd T r) (hR : Rdr I r L c) {p : Nat} {nm : Nat → Int32} (hp : p ≤ L)  : Mc g yX2_readArguments cX2_readArguments 4 (some .boolean) 4 0 0 [.ref r] X T (rI I r p 8 nm) (RG I r 8 (agv c L (shL 8) p) X T) := by
  have hL := hR.2.1
  refine Mc.of (by decide) (Nat.le_of_ble_eq_true rfl) (fun k hfl C => ?_)
  refine r_lo (lo' := [(0, _)]) rfl ?_
  refine r_aload_n (pc := 0) C 0 dX2_readArguments_0 rfl rfl ?_
  refine r_get9V (pc := 1) (i := 8) C f_X2_21 hr.1 rI_1 (by omega) dX2_readArguments_1 ?_
  refine r_getO (pc := 4) C (C.Z.2.2.1 8 (by omega)).2.2.2 (gx 2280 (by decide +kernel) (by decide +kernel)) dX2_readArguments_4 ?_
  refine r_st (st' := .ref (ga g (100 + 9)) :: _) rfl ?_
  refine r_astore_n (pc := 7) (lo' := [(1, _), (0, _)]) C dX2_readArguments_7 rfl (by decide) rfl ?_
  refine r_iconst (pc := 8) (v := 0) C dX2_readArguments_8 rfl ?_
  refine r_istore_n (pc := 9) (lo' := [(2, _), (1, _), (0, _)]) C dX2_readArguments_9 rfl (by decide) rfl ?_
  refine r_iload_n (pc := 10) C 0 dX2_readArguments_10 rfl rfl ?_
  refine r_aload_n (pc := 11) C 1 dX2_readArguments_11 rfl rfl ?_
  refine r_cKi (pc := 12) C hfl k_X2_76 (c_slen (i := 9) (by omega)) (C.Z.2.2.2.2.1 9 (by omega)).1 (As := []) rfl rfl (Nat.le_of_ble_eq_true rfl) (by decide) (by decide) dX2_readArguments_12 ?_
  refine r_t (y := nI 1) (by decide) ?_
  refine r_cgeN (pc := 15) (tgt := 84) C dX2_readArguments_15 rfl (by omega) (by omega) (fun c_15 => False.elim (by omega)) (fun c_15 => ?_)
  refine r_iload_n (pc := 18) C 0 dX2_readArguments_18 rfl rfl ?_
  refine r_iconst (pc := 19) (v := 5) C dX2_readArguments_19 rfl ?_
  refine r_cgeN (pc := 20) (tgt := 84) C dX2_readArguments_20 rfl (by omega) (by omega) (fun c_20 => False.elim (by omega)) (fun c_20 => ?_)
  refine r_iload_n (pc := 23) C 0 dX2_readArguments_23 rfl rfl ?_
  refine r_ifleN (pc := 24) (tgt := 38) C dX2_readArguments_24 rfl (by omega) (fun c_24 => ?_) (fun c_24 => False.elim (by omega))
  refine r_aload_n (pc := 38) C 2 dX2_readArguments_38 rfl rfl ?_
  refine r_get9I (pc := 39) C f_X2_9 hr.1 (Or.inl rfl) dX2_readArguments_39 ?_
  refine r_t (y := nI p) rI_0 ?_
  refine r_istore_n (pc := 42) (lo' := [(3, _), (2, _), (1, _), (0, _)]) C dX2_readArguments_42 rfl (by decide) rfl ?_
  refine r_aload_n (pc := 43) C 3 dX2_readArguments_43 rfl rfl ?_
  refine r_get9R (pc := 44) (x := r + 1) C f_X2_24 hr.1 (Or.inl rfl) rfl dX2_readArguments_44 ?_
  refine r_iload_n (pc := 47) C 1 dX2_readArguments_47 rfl rfl ?_
  refine r_aload_n (pc := 48) C 3 dX2_readArguments_48 rfl rfl ?_
  refine r_aload_n (pc := 49) C 2 dX2_readArguments_49 rfl rfl ?_
  refine r_iload_n (pc := 50) C 1 dX2_readArguments_50 rfl rfl ?_
  refine r_cKi (pc := 51) C hfl k_X2_81 (c_schar (i := 9) (q := 0) (by omega) (by decide)) (C.Z.2.2.2.2.1 9 (by omega)).1 (As := [_]) rfl rfl (Nat.le_of_ble_eq_true rfl) (by decide) (by decide) dX2_readArguments_51 ?_
  refine r_t (y := nI 110) (by decide) ?_
  refine r_bipush (pc := 54) (v := 100) C dX2_readArguments_54 rfl ?_
  refine r_cneN (pc := 56) (tgt := 63) C dX2_readArguments_56 rfl (by omega) (by omega) (fun c_56 => ?_) (fun c_56 => False.elim (by omega))
  refine r_iconst (pc := 63) (v := 3) C dX2_readArguments_63 rfl ?_
  obtain ⟨e0, n0, hn0⟩ : ∃ e n, nmv c L 3 p 0 = (e, n) := ⟨_, _, rfl⟩
  obtain ⟨x0, y0, -⟩ := nmv_le (c := c) (L := L) 3 p 0
  rw [hn0] at x0 y0
  replace x0 : p ≤ e0 := x0
  replace y0 : e0 ≤ L := y0 (by omega)
  refine r_c9i (pc := 64) C hfl k_X2_88 (c_readNumber (m := 3) hr hR (by omega) (by omega) hn0) hr.1 ca_X2 rfl rfl (Nat.le_of_ble_eq_true rfl) (by decide) (by decide) dX2_readArguments_64 ?_
  refine r_iast (pc := 67) (x := 0) C hr.2.1 rfl (by omega) (by decide) dX2_readArguments_67 ?_
  refine r_I (I' := rI I r e0 8 (upd nm 0 (nI n0))) rI_st ?_
  refine r_aload_n (pc := 68) C 3 dX2_readArguments_68 rfl rfl ?_
  refine r_get9I (pc := 69) C f_X2_9 hr.1 (Or.inl rfl) dX2_readArguments_69 ?_
  refine r_t (y := nI e0) rI_0 ?_
  refine r_iload_n (pc := 72) C 0 dX2_readArguments_72 rfl rfl ?_
  refine r_cneN (pc := 73) (tgt := 78) C dX2_readArguments_73 rfl (by omega) (by omega) (fun c_73 => ?_) (fun c_73 => ?_)
  · skip
    have d0 := c_73
    refine r_iincN (pc := 78) (m := 1) (lo' := [(2, _), (3, _), (1, _), (0, _)]) C 1 dX2_readArguments_78 rfl rfl (by decide) rfl ?_
    refine r_goto (pc := 81) (tgt := 10) C dX2_readArguments_81 rfl ?_
    refine r_iload_n (pc := 10) C 0 dX2_readArguments_10 rfl rfl ?_
    refine r_aload_n (pc := 11) C 2 dX2_readArguments_11 rfl rfl ?_
    refine r_cKi (pc := 12) C hfl k_X2_76 (c_slen (i := 9) (by omega)) (C.Z.2.2.2.2.1 9 (by omega)).1 (As := []) rfl rfl (Nat.le_of_ble_eq_true rfl) (by decide) (by decide) dX2_readArguments_12 ?_
    refine r_t (y := nI 1) (by decide) ?_
    refine r_cgeN (pc := 15) (tgt := 84) C dX2_readArguments_15 rfl (by omega) (by omega) (fun c_15 => ?_) (fun c_15 => False.elim (by omega))
    refine r_iconst (pc := 84) (v := 1) C dX2_readArguments_84 rfl ?_
    exact r_zret (pc := 85) C rfl dX2_readArguments_85 (by have z : agv c L [3] p = (true, e0, [n0]) := (by rw [agv_2 hn0 d0]); show RG I r 8 (agv c L [3] p) X T _ _ _ _; rw [z]; exact ⟨rfl, rfl, congrArg (fun z => some (Value.int z)) (bI_t rfl).symm, _, rfl, fun _ k hk => match k, hk with | 0, _ => rfl | k + 1, hk => absurd hk (Nat.not_lt.mpr (Nat.le_add_left _ _))⟩) (by decide)
  · skip
    refine r_iconst (pc := 76) (v := 0) C dX2_readArguments_76 rfl ?_
    exact r_zret (pc := 77) C rfl dX2_readArguments_77 (by have z : agv c L [3] p = (false, p, []) := (by rw [agv_1 hn0 c_73]); show RG I r 8 (agv c L [3] p) X T _ _ _ _; rw [z]; exact ⟨rfl, rfl, congrArg (fun z => some (Value.int z)) (bI_f Bool.false_ne_true).symm, _, (by rw [c_73]), fun h => absurd h Bool.false_ne_true⟩) (by decide)

theorem c_args {g : GG} {X : va_W} {T : TT} {I : II} {r L : Nat} {c : Nat → Nat} (hr : isRd T r) (hR : Rdr I r L c) {p v : Nat} {nm : Nat → Int32} (hp : p ≤ L) (hv : v < 9) : Mc g yX2_readArguments cX2_readArguments 4 (some .boolean) 4 0 0 [.ref r] X T (rI I r p v nm) (RG I r v (agv c L (shL v) p) X T) := match v, hv with
  | 0, _ => c_args_0 hr hR hp
  | 1, _ => c_args_1 hr hR hp
  | 2, _ => c_args_2 hr hR hp
  | 3, _ => c_args_3 hr hR hp
  | 4, _ => c_args_4 hr hR hp
  | 5, _ => c_args_5 hr hR hp
  | 6, _ => c_args_6 hr hR hp
  | 7, _ => c_args_7 hr hR hp
  | 8, _ => c_args_8 hr hR hp
