/-- what the balance leaves -/
def BAL (I0 : II) (x : Nat) (X : va_W) (T : TT) (w : Nat → Int32) (B N : Nat) : PhiT := fun r X' T' I' => X' = X ∧ T' = T ∧ (∀ y, ¬ (x + 85 ≤ y ∧ y < x + 85 + 42) → I' y = I0 y) ∧ (∃ pt, PmOk I' (x + 85) pt) ∧ ((r = some (.int (nI 1)) ∧ coinsV w B = nI 1000 + w 9 ∧ ∀ m, m < 4 → unitsC w B N m = w (18 + m)) ∨ (r = some (.int (nI 0)) ∧ ¬ (coinsV w B = nI 1000 + w 9 ∧ ∀ m, m < 4 → unitsC w B N m = w (18 + m))))
set_option maxHeartbeats 1000000 in
theorem q_daysToDefaultByDays__s {g : GG} {X : va_W} {T : TT} {I : II} {x : Nat} (hcl : isCl T x) {w : Nat → Int32} {B N E : Nat} {pm : Nat → Nat} (hV : DV I (x + 1) w B N E pm) {D U : Nat} (hG : Gd w B N E D U) (hS : Sd w N) (hDx : D + 61 ≤ 100000) {p85 : Nat → Nat} (hp85 : PmOk I (x + 85) p85) {id : Int32} {s : Nat} (hs : s < N) (hr : atS w N id (nI s)) : Mx g yX9_daysToDefaultByDays cX9_daysToDefaultByDays 2 (some .int) 9 0 0 [.ref x, .int id] X T I (TV I x (trV id w N 61 0) X T) NoX := by
  have hd := hcl.2.1
  have hB := hG.B.1
  have hN := hG.N.1
  have hB6 := hG.B.2
  have hN10 := hG.N.2
  refine Mx.of (by decide) (Nat.le_of_ble_eq_true rfl) (fun k hfl hxt C => ?_)
  refine r_lo (lo' := [(0, _), (1, _)]) rfl ?_
  refine r_aload_n (pc := 0) C 0 dX9_daysToDefaultByDays_0 rfl rfl ?_
  refine r_iload_n (pc := 1) C 1 dX9_daysToDefaultByDays_1 rfl rfl ?_
  refine r_xV (pc := 2) C hfl hxt k_X9_218 (q_requireLoan__s hcl hV hN hs hr) (fun _ _ _ _ h => h.elim) hcl.1 ca_X9 rfl rfl (Nat.le_of_ble_eq_true rfl) (by decide) (by decide) dX9_daysToDefaultByDays_2 (fun r2 X2 T2 I2 h2 => ?_)
  obtain ⟨e1, e2, e3, e4⟩ := h2
  subst r2
  subst X2
  subst T2
  subst I2
  refine r_st (st' := .ref _ :: _) rfl ?_
  refine r_pop (pc := 5) C dX9_daysToDefaultByDays_5 rfl ?_
  refine r_aload_n (pc := 6) C 0 dX9_daysToDefaultByDays_6 rfl rfl ?_
  refine r_iload_n (pc := 7) C 1 dX9_daysToDefaultByDays_7 rfl rfl ?_
  refine r_xV (pc := 8) C hfl hxt k_X9_258 (q_daysLeftByTrial hcl hV hG hS hDx hp85) (fun _ _ _ _ h => h.elim) hcl.1 ca_X9 rfl rfl (Nat.le_of_ble_eq_true rfl) (by decide) (by decide) dX9_daysToDefaultByDays_8 (fun r5 X5 T5 J5 h5 => ?_)
  obtain ⟨e5, f5, g5, hF5, pt5, hp5⟩ := h5
  subst r5
  subst X5
  subst T5
  refine r_st (st' := .int _ :: _) rfl ?_
  refine r_xret ?_
  exact r_iret (pc := 11) C dX9_daysToDefaultByDays_11 ⟨rfl, rfl, rfl, hF5, pt5, hp5⟩ (by decide)

set_option maxHeartbeats 1000000 in
theorem q_daysToDefaultByDays__n {g : GG} {X : va_W} {T : TT} {I : II} {x : Nat} (hcl : isCl T x) {w : Nat → Int32} {B N E : Nat} {pm : Nat → Nat} (hV : DV I (x + 1) w B N E pm)  (hN : w 2 = nI N) {id : Int32} (hr : atS w N id (-1)) : Mx g yX9_daysToDefaultByDays cX9_daysToDefaultByDays 2 (some .int) 8 1 6 [.ref x, .int id] X T I No (Th (exc 1) X T I) := by
  have hd := hcl.2.1
  refine Mx.of (by decide) (Nat.le_of_ble_eq_true rfl) (fun k hfl hxt C => ?_)
  refine r_lo (lo' := [(0, _), (1, _)]) rfl ?_
  refine r_aload_n (pc := 0) C 0 dX9_daysToDefaultByDays_0 rfl rfl ?_
  refine r_iload_n (pc := 1) C 1 dX9_daysToDefaultByDays_1 rfl rfl ?_
  refine r_xV (pc := 2) C hfl hxt k_X9_218 (q_requireLoan__n hcl hV hN hr) (fun _ _ _ _ h => h) hcl.1 ca_X9 rfl rfl (Nat.le_of_ble_eq_true rfl) (by decide) (by decide) dX9_daysToDefaultByDays_2 (fun r2 X2 T2 I2 h2 => ?_)
  exact h2.elim

set_option maxHeartbeats 1000000 in
theorem q_isBalanced {g : GG} {X : va_W} {T : TT} {I : II} {x : Nat} (hcl : isCl T x) {w : Nat → Int32} {B N E : Nat} {pm : Nat → Nat} (hV : DV I (x + 1) w B N E pm) {D U : Nat} (hG : Gd w B N E D U) (hS : Sd w N) (hDx : D + 61 ≤ 100000) {p85 : Nat → Nat} (hp85 : PmOk I (x + 85) p85) (hB : w 1 = nI B) (hN : w 2 = nI N) (hT : ∀ s, s < N → dlV w s = nI (trV (w (58 + 10 * s + 0)) w N 61 0)) : Mx g yX9_isBalanced cX9_isBalanced 3 (some .boolean) 9 0 0 [.ref x] X T I (BAL I x X T w B N) NoX := by
  have hd := hcl.2.1
  have hB := hG.B.1
  have hN := hG.N.1
  have hB6 := hG.B.2
  have hN10 := hG.N.2
  refine Mx.of (by decide) (Nat.le_of_ble_eq_true rfl) (fun k hfl hxt C => ?_)
  refine r_lo (lo' := [(0, _)]) rfl ?_
  refine r_aload_n (pc := 0) C 0 dX9_isBalanced_0 rfl rfl ?_
  refine r_getR (pc := 1) (x := x + 1) C f_X9_10 hcl.1 rfl rfl dX9_isBalanced_1 ?_
  refine r_cVi (pc := 4) C hfl k_X9_335 (c_X3_allCoins hd hV hB) ((Dk_0 hd)) ca_X3 rfl rfl (Nat.le_of_ble_eq_true rfl) (by decide) (by decide) dX9_isBalanced_4 ?_
  refine r_sipush (pc := 7) (v := 1000) C dX9_isBalanced_7 rfl ?_
  refine r_aload_n (pc := 10) C 0 dX9_isBalanced_10 rfl rfl ?_
  refine r_getR (pc := 11) (x := x + 1) C f_X9_10 hcl.1 rfl rfl dX9_isBalanced_11 ?_
  refine r_getI (pc := 14) C f_X9_352 ((Dk_0 hd)) rfl dX9_isBalanced_14 ?_
  refine r_t (hV.get at_broughtCoins) ?_
  refine r_iadd (pc := 17) C dX9_isBalanced_17 ?_
  refine r_ceq (pc := 18) (tgt := 23) C dX9_isBalanced_18 rfl (fun c_18 => ?_) (fun c_18 => ?_)
  · skip
    refine r_iconst (pc := 23) (v := 0) C dX9_isBalanced_23 rfl ?_
    refine r_istore_n (pc := 24) (lo' := [(1, _), (0, _)]) C dX9_isBalanced_24 rfl (by decide) rfl ?_
    have loop_25 : ∀ (n_25 : Nat) (q : Nat), 4 - q < n_25 → (q ≤ 4) → (∀ m, m < q → unitsC w B N m = w (18 + m)) → Go g k 3 (Qx g k (BAL I x X T w B N) NoX 0 0) 0 0 25 [(0, .ref x), (1, .int (nI q))] [] X T I := by
      intro n_25
      induction n_25 with
      | zero => intro _ h_; exact absurd h_ (Nat.not_lt_zero _)
      | succ n_25 ih_25 =>
        intro q hq hq4 hinv
        refine r_iload_n (pc := 25) C 1 dX9_isBalanced_25 rfl rfl ?_
        refine r_iconst (pc := 26) (v := 4) C dX9_isBalanced_26 rfl ?_
        refine r_cgeN (pc := 27) (tgt := 58) C dX9_isBalanced_27 rfl (by omega) (by omega) (fun c_27 => ?_) (fun c_27 => ?_)
        · skip
          refine r_iconst (pc := 58) (v := 0) C dX9_isBalanced_58 rfl ?_
          refine r_istore_n (pc := 59) (lo' := [(1, _), (0, _)]) C dX9_isBalanced_59 rfl (by decide) rfl ?_
          have loop_60 : ∀ (n_60 : Nat) (s : Nat) (J : II) (pt : Nat → Nat), N - s < n_60 → (s ≤ N) → (∀ y, ¬ (x + 85 ≤ y ∧ y < x + 85 + 42) → J y = I y) → (PmOk J (x + 85) pt) → Go g k 3 (Qx g k (BAL I x X T w B N) NoX 0 0) 0 0 60 [(0, .ref x), (1, .int (nI s))] [] X T J := by
            intro n_60
            induction n_60 with
            | zero => intro _ _ _ h_; exact absurd h_ (Nat.not_lt_zero _)
            | succ n_60 ih_60 =>
              intro s J pt hs0 hs1 hF hpt
              have hVJ := hV.mv (I := J) (fun y hy => hF y (by omega))
              refine r_iload_n (pc := 60) C 1 dX9_isBalanced_60 rfl rfl ?_
              refine r_aload_n (pc := 61) C 0 dX9_isBalanced_61 rfl rfl ?_
              refine r_getR (pc := 62) (x := x + 1) C f_X9_10 hcl.1 rfl rfl dX9_isBalanced_62 ?_
              refine r_getI (pc := 65) C f_X9_200 ((Dk_0 hd)) rfl dX9_isBalanced_65 ?_
              refine r_t (hVJ.get at_loanTotal) ?_
              refine r_t (y := nI N) hN ?_
              refine r_cgeN (pc := 68) (tgt := 108) C dX9_isBalanced_68 rfl (by omega) (by omega) (fun c_68 => ?_) (fun c_68 => ?_)
              · skip
                refine r_iconst (pc := 108) (v := 1) C dX9_isBalanced_108 rfl ?_
                refine r_xret ?_
                exact r_zret (pc := 109) C rfl dX9_isBalanced_109 ⟨rfl, rfl, hF, ⟨pt, hpt⟩, Or.inl ⟨rfl, c_18, fun m hm => hinv m (by omega)⟩⟩ (by decide)
              · skip
                have hsN : s < N := by omega
                refine r_aload_n (pc := 71) C 0 dX9_isBalanced_71 rfl rfl ?_
                refine r_getR (pc := 72) (x := x + 1) C f_X9_10 hcl.1 rfl rfl dX9_isBalanced_72 ?_
                refine r_getR (pc := 75) (x := x + 1 + 5) C f_X9_209 ((Dk_0 hd)) rfl rfl dX9_isBalanced_75 ?_
                refine r_iload_n (pc := 78) C 1 dX9_isBalanced_78 rfl rfl ?_
                refine r_lald (pc := 79) (x := s) (p := pm s) C ((Dk_5 hd)) rfl (by omega) (hVJ.p (by omega)) (hVJ.l (by omega)) dX9_isBalanced_79 ?_
                refine r_astore_n (pc := 80) (lo' := [(2, _), (0, _), (1, _)]) C dX9_isBalanced_80 rfl (by decide) rfl ?_
                refine r_aload_n (pc := 81) C 1 dX9_isBalanced_81 rfl rfl ?_
                refine r_getR (pc := 82) (x := x + 1) C f_X9_10 hcl.1 rfl rfl dX9_isBalanced_82 ?_
                refine r_aload_n (pc := 85) C 0 dX9_isBalanced_85 rfl rfl ?_
                refine r_cVi (pc := 86) C hfl k_X9_254 (c_X3_daysLeft hd hVJ hsN) ((Dk_0 hd)) ca_X3 rfl rfl (Nat.le_of_ble_eq_true rfl) (by decide) (by decide) dX9_isBalanced_86 ?_
                refine r_aload_n (pc := 89) C 1 dX9_isBalanced_89 rfl rfl ?_
                refine r_aload_n (pc := 90) C 0 dX9_isBalanced_90 rfl rfl ?_
                refine r_getI (pc := 91) C f_X9_213 ((Dk_l hd (hVJ.l (by omega)))) rfl dX9_isBalanced_91 ?_
                refine r_t (hVJ.get (at_loan (i := 0) hsN (by decide))) ?_
                refine r_xV (pc := 94) C hfl hxt k_X9_258 (q_daysLeftByTrial hcl hVJ hG hS hDx hpt) (fun _ _ _ _ h => h.elim) hcl.1 ca_X9 rfl rfl (Nat.le_of_ble_eq_true rfl) (by decide) (by decide) dX9_isBalanced_94 (fun r5 X5 T5 J5 h5 => ?_)
                obtain ⟨e5, f5, g5, hF5, pt5, hp5⟩ := h5
                subst r5
                subst X5
                subst T5
                refine r_st (st' := .int _ :: _) rfl ?_
                refine r_ceq (pc := 97) (tgt := 102) C dX9_isBalanced_97 rfl (fun c_97 => ?_) (fun c_97 => False.elim (by exact c_97 (hT s hsN)))
                refine r_iincN (pc := 102) (m := 1) (lo' := [(1, _), (2, _), (0, _)]) C 2 dX9_isBalanced_102 rfl rfl (by decide) rfl ?_
                refine r_goto (pc := 105) (tgt := 60) C dX9_isBalanced_105 rfl ?_
                refine r_ls [2, 0] rfl ?_
                exact ih_60 (s + 1) _ _ (by omega) (by omega) (fun y hy => (hF5 y hy).trans (hF y hy)) hp5
          refine r_ls [1, 0] rfl ?_
          exact loop_60 (N + 1) 0 _ _ (by omega) (by omega) (fun _ _ => rfl) hp85
        · skip
          have hq1 : q < 4 := by omega
          refine r_aload_n (pc := 30) C 0 dX9_isBalanced_30 rfl rfl ?_
          refine r_getR (pc := 31) (x := x + 1) C f_X9_10 hcl.1 rfl rfl dX9_isBalanced_31 ?_
          refine r_iload_n (pc := 34) C 1 dX9_isBalanced_34 rfl rfl ?_
          refine r_cVi (pc := 35) C hfl k_X9_338 (c_X3_allUnits hd hV hq1 hB hN) ((Dk_0 hd)) ca_X3 rfl rfl (Nat.le_of_ble_eq_true rfl) (by decide) (by decide) dX9_isBalanced_35 ?_
          refine r_aload_n (pc := 38) C 0 dX9_isBalanced_38 rfl rfl ?_
          refine r_getR (pc := 39) (x := x + 1) C f_X9_10 hcl.1 rfl rfl dX9_isBalanced_39 ?_
          refine r_getR (pc := 42) (x := x + 1 + 3) C f_X9_355 ((Dk_0 hd)) rfl rfl dX9_isBalanced_42 ?_
          refine r_iload_n (pc := 45) C 1 dX9_isBalanced_45 rfl rfl ?_
          refine r_iald (pc := 46) (x := q) C ((Dk_3 hd)) rfl (by omega) (by decide) dX9_isBalanced_46 ?_
          refine r_t (hV.get (at_bu (by omega))) ?_
          refine r_ceq (pc := 47) (tgt := 52) C dX9_isBalanced_47 rfl (fun c_47 => ?_) (fun c_47 => ?_)
          · skip
            refine r_iincN (pc := 52) (m := 1) (lo' := [(1, _), (0, _)]) C 1 dX9_isBalanced_52 rfl rfl (by decide) rfl ?_
            refine r_goto (pc := 55) (tgt := 25) C dX9_isBalanced_55 rfl ?_
            refine r_ls [1, 0] rfl ?_
            exact ih_25 (q + 1) (by omega) (by omega) (fun m hm => by rcases Nat.lt_or_ge m q with h | h; exact hinv m h; obtain rfl : m = q := (by omega); exact c_47)
          · skip
            refine r_iconst (pc := 50) (v := 0) C dX9_isBalanced_50 rfl ?_
            refine r_xret ?_
            exact r_zret (pc := 51) C rfl dX9_isBalanced_51 ⟨rfl, rfl, fun _ _ => rfl, ⟨p85, hp85⟩, Or.inr ⟨rfl, fun z => c_47 (z.2 q hq1)⟩⟩ (by decide)
    refine r_ls [1, 0] rfl ?_
    exact loop_25 5 0 (by omega) (by omega) (fun m hm => absurd hm (by omega))
  · skip
    refine r_iconst (pc := 21) (v := 0) C dX9_isBalanced_21 rfl ?_
    refine r_xret ?_
    exact r_zret (pc := 22) C rfl dX9_isBalanced_22 ⟨rfl, rfl, fun _ _ => rfl, ⟨p85, hp85⟩, Or.inr ⟨rfl, fun z => c_18 z.1⟩⟩ (by decide)
