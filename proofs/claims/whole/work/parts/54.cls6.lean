set_option maxHeartbeats 1000000 in
theorem c_X5_remember {g : GG} {X : va_W} {T : TT} {I : II} {h : Nat} (hH : isHs T h) {b n c : Nat} (hn : n < 8) (hc : c ≤ 8) (hn1 : I h 1 = nI n) (hc1 : I h 0 = nI c) (hdb : isDk T b) {w : Nat → Int32} {B N E : Nat} {pa pb : Nat → Nat} (hV : DV I b w B N E pb) (hpa : PmOk I (h + 2 + 42 * n) pa) (hdis : b + 42 ≤ h ∨ h + 338 ≤ b) (hB : w 1 = nI B) (hN : w 2 = nI N) : Mc g yX5_remember cX5_remember 2 none 3 0 0 [.ref h, .ref b] X T I (HR I h n c X T w B N E pa) := by
  refine Mc.of (by decide) (Nat.le_of_ble_eq_true rfl) (fun k hfl C => ?_)
  refine r_lo (lo' := [(0, _), (1, _)]) rfl ?_
  refine r_aload_n (pc := 0) C 0 dX5_remember_0 rfl rfl ?_
  refine r_getR (pc := 1) (x := h + 1) C f_X5_20 hH.1 rfl rfl dX5_remember_1 ?_
  refine r_aload_n (pc := 4) C 0 dX5_remember_4 rfl rfl ?_
  refine r_getI (pc := 5) C f_X5_15 hH.1 rfl dX5_remember_5 ?_
  refine r_t (y := nI n) hn1 ?_
  refine r_aald (pc := 8) (x := n) (y := h + 2 + 42 * n) C hH.2.1 (Or.inr (Or.inr rfl)) rfl (by omega) (by decide) rfl dX5_remember_8 ?_
  refine r_aload_n (pc := 9) C 1 dX5_remember_9 rfl rfl ?_
  refine r_callV (pc := 10) C hfl k_X5_25 (c_X3_copyFrom (hH.2.2 n hn) hdb hV hpa (by omega) hB hN) ((Dk_0 (hH.2.2 n hn))) ca_X3 rfl rfl (Nat.le_of_ble_eq_true rfl) (by decide) (by decide) dX5_remember_10 (fun r2 X2 T2 J2 h2 => ?_)
  obtain ⟨rfl, rfl, rfl, hW2⟩ := h2
  refine r_st (st' := _) rfl ?_
  refine r_aload_n (pc := 13) C 0 dX5_remember_13 rfl rfl ?_
  refine r_aload_n (pc := 14) C 0 dX5_remember_14 rfl rfl ?_
  refine r_getI (pc := 15) C f_X5_15 hH.1 rfl dX5_remember_15 ?_
  refine r_t (y := nI n) ((congrFun (hW2.1 h (by omega)) 1).trans hn1) ?_
  refine r_iconst (pc := 18) (v := 1) C dX5_remember_18 rfl ?_
  refine r_iaddN (pc := 19) C dX5_remember_19 ?_
  refine r_bipush (pc := 20) (v := 8) C dX5_remember_20 rfl ?_
  refine r_cgeN (pc := 22) (tgt := 34) C dX5_remember_22 rfl (by omega) (by omega) (fun c_22 => ?_) (fun c_22 => ?_)
  · skip
    refine r_iconst (pc := 34) (v := 0) C dX5_remember_34 rfl ?_
    refine r_putI (pc := 35) C f_X5_15 hH.1 rfl rfl rfl dX5_remember_35 ?_
    refine r_aload_n (pc := 38) C 0 dX5_remember_38 rfl rfl ?_
    refine r_aload_n (pc := 39) C 0 dX5_remember_39 rfl rfl ?_
    refine r_getI (pc := 40) C f_X5_9 hH.1 rfl dX5_remember_40 ?_
    refine r_t (y := nI c) ((u2_o (by decide)).trans ((congrFun (hW2.1 h (by omega)) 0).trans hc1)) ?_
    refine r_iconst (pc := 43) (v := 1) C dX5_remember_43 rfl ?_
    refine r_iaddN (pc := 44) C dX5_remember_44 ?_
    refine r_bipush (pc := 45) (v := 8) C dX5_remember_45 rfl ?_
    refine r_min (pc := 47) C k_X5_29 (Nat.le_of_ble_eq_true rfl) (by decide) dX5_remember_47 ?_
    refine r_t (y := nI (hsC c)) (mn8 hc) ?_
    refine r_putI (pc := 50) C f_X5_9 hH.1 rfl rfl rfl dX5_remember_50 ?_
    exact r_vret (pc := 53) C dX5_remember_53 ⟨rfl, rfl, rfl, J2, hW2, by rw [hsN, if_neg (Nat.not_lt.mpr c_22)]⟩ (by decide)
  · skip
    refine r_aload_n (pc := 25) C 0 dX5_remember_25 rfl rfl ?_
    refine r_getI (pc := 26) C f_X5_15 hH.1 rfl dX5_remember_26 ?_
    refine r_t (y := nI n) ((congrFun (hW2.1 h (by omega)) 1).trans hn1) ?_
    refine r_iconst (pc := 29) (v := 1) C dX5_remember_29 rfl ?_
    refine r_iaddN (pc := 30) C dX5_remember_30 ?_
    refine r_goto (pc := 31) (tgt := 35) C dX5_remember_31 rfl ?_
    refine r_putI (pc := 35) C f_X5_15 hH.1 rfl rfl rfl dX5_remember_35 ?_
    refine r_aload_n (pc := 38) C 0 dX5_remember_38 rfl rfl ?_
    refine r_aload_n (pc := 39) C 0 dX5_remember_39 rfl rfl ?_
    refine r_getI (pc := 40) C f_X5_9 hH.1 rfl dX5_remember_40 ?_
    refine r_t (y := nI c) ((u2_o (by decide)).trans ((congrFun (hW2.1 h (by omega)) 0).trans hc1)) ?_
    refine r_iconst (pc := 43) (v := 1) C dX5_remember_43 rfl ?_
    refine r_iaddN (pc := 44) C dX5_remember_44 ?_
    refine r_bipush (pc := 45) (v := 8) C dX5_remember_45 rfl ?_
    refine r_min (pc := 47) C k_X5_29 (Nat.le_of_ble_eq_true rfl) (by decide) dX5_remember_47 ?_
    refine r_t (y := nI (hsC c)) (mn8 hc) ?_
    refine r_putI (pc := 50) C f_X5_9 hH.1 rfl rfl rfl dX5_remember_50 ?_
    exact r_vret (pc := 53) C dX5_remember_53 ⟨rfl, rfl, rfl, J2, hW2, by rw [hsN, if_pos c_22]⟩ (by decide)

set_option maxHeartbeats 1000000 in
theorem c_X5_takeBack__s {g : GG} {X : va_W} {T : TT} {I : II} {h : Nat} (hH : isHs T h) {a n c m : Nat} (hn : n < 8) (hc : c ≤ 8) (hc0 : 0 < c) (hm : (0 < n ∧ m = n - 1) ∨ (n = 0 ∧ m = 7)) (hn1 : I h 1 = nI n) (hc1 : I h 0 = nI c) (hda : isDk T a) {w : Nat → Int32} {B N E : Nat} {pa pb : Nat → Nat} (hV : DV I (h + 2 + 42 * m) w B N E pb) (hpa : PmOk I a pa) (hdis : a + 42 ≤ h ∨ h + 338 ≤ a) (hB : w 1 = nI B) (hN : w 2 = nI N) : Mc g yX5_takeBack cX5_takeBack 2 none 3 0 0 [.ref h, .ref a] X T I (HT I h m c a X T w B N E pa) := by
  have hm8 : m < 8 := by omega
  refine Mc.of (by decide) (Nat.le_of_ble_eq_true rfl) (fun k hfl C => ?_)
  refine r_lo (lo' := [(0, _), (1, _)]) rfl ?_
  refine r_aload_n (pc := 0) C 0 dX5_takeBack_0 rfl rfl ?_
  refine r_getI (pc := 1) C f_X5_9 hH.1 rfl dX5_takeBack_1 ?_
  refine r_t (y := nI c) hc1 ?_
  refine r_ifleN (pc := 4) (tgt := 52) C dX5_takeBack_4 rfl (by omega) (fun c_4 => False.elim (by omega)) (fun c_4 => ?_)
  refine r_aload_n (pc := 7) C 0 dX5_takeBack_7 rfl rfl ?_
  refine r_aload_n (pc := 8) C 0 dX5_takeBack_8 rfl rfl ?_
  refine r_getI (pc := 9) C f_X5_15 hH.1 rfl dX5_takeBack_9 ?_
  refine r_t (y := nI n) hn1 ?_
  refine r_ifleN (pc := 12) (tgt := 24) C dX5_takeBack_12 rfl (by omega) (fun c_12 => ?_) (fun c_12 => ?_)
  · skip
    refine r_bipush (pc := 24) (v := 7) C dX5_takeBack_24 rfl ?_
    refine r_t (y := nI m) (congrArg nI (by omega)) ?_
    refine r_putI (pc := 26) C f_X5_15 hH.1 rfl rfl rfl dX5_takeBack_26 ?_
    refine r_aload_n (pc := 29) C 1 dX5_takeBack_29 rfl rfl ?_
    refine r_aload_n (pc := 30) C 0 dX5_takeBack_30 rfl rfl ?_
    refine r_getR (pc := 31) (x := h + 1) C f_X5_20 hH.1 rfl rfl dX5_takeBack_31 ?_
    refine r_aload_n (pc := 34) C 0 dX5_takeBack_34 rfl rfl ?_
    refine r_getI (pc := 35) C f_X5_15 hH.1 rfl dX5_takeBack_35 ?_
    refine r_t (y := nI m) u2_g ?_
    refine r_aald (pc := 38) (x := m) (y := h + 2 + 42 * m) C hH.2.1 (Or.inr (Or.inr rfl)) rfl (by omega) (by decide) rfl dX5_takeBack_38 ?_
    refine r_callV (pc := 39) C hfl k_X5_25 (c_X3_copyFrom hda (hH.2.2 m hm8) (hV.mv (fun x hx => u2_r (by omega))) (hpa.mv (u2_r (by omega))) (by omega) hB hN) ((Dk_0 hda)) ca_X3 rfl rfl (Nat.le_of_ble_eq_true rfl) (by decide) (by decide) dX5_takeBack_39 (fun r2 X2 T2 J2 h2 => ?_)
    obtain ⟨rfl, rfl, rfl, hW2⟩ := h2
    refine r_st (st' := _) rfl ?_
    refine r_aload_n (pc := 42) C 0 dX5_takeBack_42 rfl rfl ?_
    refine r_dup (pc := 43) C dX5_takeBack_43 rfl ?_
    refine r_getI (pc := 44) C f_X5_9 hH.1 rfl dX5_takeBack_44 ?_
    refine r_t (y := nI c) ((congrFun (hW2.1 h (by omega)) 0).trans ((u2_o (by decide)).trans hc1)) ?_
    refine r_iconst (pc := 47) (v := 1) C dX5_takeBack_47 rfl ?_
    refine r_isub (pc := 48) C dX5_takeBack_48 ?_
    refine r_t (y := nI ((c - 1))) (pk_sub (by omega)) ?_
    refine r_putI (pc := 49) C f_X5_9 hH.1 rfl rfl rfl dX5_takeBack_49 ?_
    exact r_vret (pc := 52) C dX5_takeBack_52 ⟨rfl, rfl, rfl, J2, hW2, rfl⟩ (by decide)
  · skip
    refine r_aload_n (pc := 15) C 0 dX5_takeBack_15 rfl rfl ?_
    refine r_getI (pc := 16) C f_X5_15 hH.1 rfl dX5_takeBack_16 ?_
    refine r_t (y := nI n) hn1 ?_
    refine r_iconst (pc := 19) (v := 1) C dX5_takeBack_19 rfl ?_
    refine r_isub (pc := 20) C dX5_takeBack_20 ?_
    refine r_t (y := nI m) ((pk_sub (by omega)).trans (congrArg nI (by omega))) ?_
    refine r_goto (pc := 21) (tgt := 26) C dX5_takeBack_21 rfl ?_
    refine r_putI (pc := 26) C f_X5_15 hH.1 rfl rfl rfl dX5_takeBack_26 ?_
    refine r_aload_n (pc := 29) C 1 dX5_takeBack_29 rfl rfl ?_
    refine r_aload_n (pc := 30) C 0 dX5_takeBack_30 rfl rfl ?_
    refine r_getR (pc := 31) (x := h + 1) C f_X5_20 hH.1 rfl rfl dX5_takeBack_31 ?_
    refine r_aload_n (pc := 34) C 0 dX5_takeBack_34 rfl rfl ?_
    refine r_getI (pc := 35) C f_X5_15 hH.1 rfl dX5_takeBack_35 ?_
    refine r_t (y := nI m) u2_g ?_
    refine r_aald (pc := 38) (x := m) (y := h + 2 + 42 * m) C hH.2.1 (Or.inr (Or.inr rfl)) rfl (by omega) (by decide) rfl dX5_takeBack_38 ?_
    refine r_callV (pc := 39) C hfl k_X5_25 (c_X3_copyFrom hda (hH.2.2 m hm8) (hV.mv (fun x hx => u2_r (by omega))) (hpa.mv (u2_r (by omega))) (by omega) hB hN) ((Dk_0 hda)) ca_X3 rfl rfl (Nat.le_of_ble_eq_true rfl) (by decide) (by decide) dX5_takeBack_39 (fun r2 X2 T2 J2 h2 => ?_)
    obtain ⟨rfl, rfl, rfl, hW2⟩ := h2
    refine r_st (st' := _) rfl ?_
    refine r_aload_n (pc := 42) C 0 dX5_takeBack_42 rfl rfl ?_
    refine r_dup (pc := 43) C dX5_takeBack_43 rfl ?_
    refine r_getI (pc := 44) C f_X5_9 hH.1 rfl dX5_takeBack_44 ?_
    refine r_t (y := nI c) ((congrFun (hW2.1 h (by omega)) 0).trans ((u2_o (by decide)).trans hc1)) ?_
    refine r_iconst (pc := 47) (v := 1) C dX5_takeBack_47 rfl ?_
    refine r_isub (pc := 48) C dX5_takeBack_48 ?_
    refine r_t (y := nI ((c - 1))) (pk_sub (by omega)) ?_
    refine r_putI (pc := 49) C f_X5_9 hH.1 rfl rfl rfl dX5_takeBack_49 ?_
    exact r_vret (pc := 52) C dX5_takeBack_52 ⟨rfl, rfl, rfl, J2, hW2, rfl⟩ (by decide)

set_option maxHeartbeats 1000000 in
theorem c_X5_takeBack__0 {g : GG} {X : va_W} {T : TT} {I : II} {h : Nat} (hH : isHs T h) {a : Nat} (hc1 : I h 0 = nI 0) : Mc g yX5_takeBack cX5_takeBack 2 none 3 0 0 [.ref h, .ref a] X T I (Ex none X T I) := by
  refine Mc.of (by decide) (Nat.le_of_ble_eq_true rfl) (fun k hfl C => ?_)
  refine r_lo (lo' := [(0, _), (1, _)]) rfl ?_
  refine r_aload_n (pc := 0) C 0 dX5_takeBack_0 rfl rfl ?_
  refine r_getI (pc := 1) C f_X5_9 hH.1 rfl dX5_takeBack_1 ?_
  refine r_t (y := nI 0) hc1 ?_
  refine r_ifleN (pc := 4) (tgt := 52) C dX5_takeBack_4 rfl (by omega) (fun c_4 => ?_) (fun c_4 => False.elim (by omega))
  exact r_vret (pc := 52) C dX5_takeBack_52 ⟨rfl, rfl, rfl, rfl⟩ (by decide)

set_option maxHeartbeats 1000000 in
theorem c_X5_forgetAll {g : GG} {X : va_W} {T : TT} {I : II} {h : Nat} (hH : isHs T h) : Mc g yX5_forgetAll cX5_forgetAll 1 none 1 0 0 [.ref h] X T I (Ex none X T (u2 I h 0 (nI 0))) := by
  refine Mc.of (by decide) (Nat.le_of_ble_eq_true rfl) (fun k hfl C => ?_)
  refine r_lo (lo' := [(0, _)]) rfl ?_
  refine r_aload_n (pc := 0) C 0 dX5_forgetAll_0 rfl rfl ?_
  refine r_iconst (pc := 1) (v := 0) C dX5_forgetAll_1 rfl ?_
  refine r_putI (pc := 2) C f_X5_9 hH.1 rfl rfl rfl dX5_forgetAll_2 ?_
  exact r_vret (pc := 5) C dX5_forgetAll_5 ⟨rfl, rfl, rfl, rfl⟩ (by decide)
