set_option maxHeartbeats 1000000 in
theorem q_day {g : GG} {X : va_W} {T : TT} {I : II} {x : Nat} (hcl : isCl T x) {w : Nat → Int32} {B N E : Nat} {pm : Nat → Nat} (hV : DV I (x + 1) w B N E pm)  : Mx g yX9_day cX9_day 1 (some .int) 8 0 0 [.ref x] X T I (Ex (some (.int (w 0))) X T I) NoX := by
  have hd := hcl.2.1
  have hB6 := hV.hB
  have hN10 := hV.hN
  have hE20 := hV.hE
  refine Mx.of (by decide) (Nat.le_of_ble_eq_true rfl) (fun k hfl hxt C => ?_)
  refine r_lo (lo' := [(0, _)]) rfl ?_
  refine r_aload_n (pc := 0) C 0 dX9_day_0 rfl rfl ?_
  refine r_getR (pc := 1) (x := x + 1) C f_X9_10 hcl.1 rfl rfl dX9_day_1 ?_
  refine r_getI (pc := 4) C f_X9_150 ((Dk_0 hd)) rfl dX9_day_4 ?_
  refine r_t (hV.get at_today) ?_
  refine r_xret ?_
  exact r_iret (pc := 7) C dX9_day_7 ⟨rfl, rfl, rfl, rfl⟩ (by decide)

set_option maxHeartbeats 1000000 in
theorem q_capital {g : GG} {X : va_W} {T : TT} {I : II} {x : Nat} (hcl : isCl T x) {w : Nat → Int32} {B N E : Nat} {pm : Nat → Nat} (hV : DV I (x + 1) w B N E pm)  : Mx g yX9_capital cX9_capital 1 (some .int) 8 0 0 [.ref x] X T I (Ex (some (.int (w 4))) X T I) NoX := by
  have hd := hcl.2.1
  have hB6 := hV.hB
  have hN10 := hV.hN
  have hE20 := hV.hE
  refine Mx.of (by decide) (Nat.le_of_ble_eq_true rfl) (fun k hfl hxt C => ?_)
  refine r_lo (lo' := [(0, _)]) rfl ?_
  refine r_aload_n (pc := 0) C 0 dX9_capital_0 rfl rfl ?_
  refine r_getR (pc := 1) (x := x + 1) C f_X9_10 hcl.1 rfl rfl dX9_capital_1 ?_
  refine r_getI (pc := 4) C f_X9_161 ((Dk_0 hd)) rfl dX9_capital_4 ?_
  refine r_t (hV.get at_funds) ?_
  refine r_xret ?_
  exact r_iret (pc := 7) C dX9_capital_7 ⟨rfl, rfl, rfl, rfl⟩ (by decide)

set_option maxHeartbeats 1000000 in
theorem q_borrowerCount {g : GG} {X : va_W} {T : TT} {I : II} {x : Nat} (hcl : isCl T x) {w : Nat → Int32} {B N E : Nat} {pm : Nat → Nat} (hV : DV I (x + 1) w B N E pm)  : Mx g yX9_borrowerCount cX9_borrowerCount 1 (some .int) 8 0 0 [.ref x] X T I (Ex (some (.int (w 1))) X T I) NoX := by
  have hd := hcl.2.1
  have hB6 := hV.hB
  have hN10 := hV.hN
  have hE20 := hV.hE
  refine Mx.of (by decide) (Nat.le_of_ble_eq_true rfl) (fun k hfl hxt C => ?_)
  refine r_lo (lo' := [(0, _)]) rfl ?_
  refine r_aload_n (pc := 0) C 0 dX9_borrowerCount_0 rfl rfl ?_
  refine r_getR (pc := 1) (x := x + 1) C f_X9_10 hcl.1 rfl rfl dX9_borrowerCount_1 ?_
  refine r_getI (pc := 4) C f_X9_167 ((Dk_0 hd)) rfl dX9_borrowerCount_4 ?_
  refine r_t (hV.get at_borrowerTotal) ?_
  refine r_xret ?_
  exact r_iret (pc := 7) C dX9_borrowerCount_7 ⟨rfl, rfl, rfl, rfl⟩ (by decide)

set_option maxHeartbeats 1000000 in
theorem q_loanCount {g : GG} {X : va_W} {T : TT} {I : II} {x : Nat} (hcl : isCl T x) {w : Nat → Int32} {B N E : Nat} {pm : Nat → Nat} (hV : DV I (x + 1) w B N E pm)  : Mx g yX9_loanCount cX9_loanCount 1 (some .int) 8 0 0 [.ref x] X T I (Ex (some (.int (w 2))) X T I) NoX := by
  have hd := hcl.2.1
  have hB6 := hV.hB
  have hN10 := hV.hN
  have hE20 := hV.hE
  refine Mx.of (by decide) (Nat.le_of_ble_eq_true rfl) (fun k hfl hxt C => ?_)
  refine r_lo (lo' := [(0, _)]) rfl ?_
  refine r_aload_n (pc := 0) C 0 dX9_loanCount_0 rfl rfl ?_
  refine r_getR (pc := 1) (x := x + 1) C f_X9_10 hcl.1 rfl rfl dX9_loanCount_1 ?_
  refine r_getI (pc := 4) C f_X9_200 ((Dk_0 hd)) rfl dX9_loanCount_4 ?_
  refine r_t (hV.get at_loanTotal) ?_
  refine r_xret ?_
  exact r_iret (pc := 7) C dX9_loanCount_7 ⟨rfl, rfl, rfl, rfl⟩ (by decide)

set_option maxHeartbeats 1000000 in
theorem q_repaidLoans {g : GG} {X : va_W} {T : TT} {I : II} {x : Nat} (hcl : isCl T x) {w : Nat → Int32} {B N E : Nat} {pm : Nat → Nat} (hV : DV I (x + 1) w B N E pm)  : Mx g yX9_repaidLoans cX9_repaidLoans 1 (some .int) 8 0 0 [.ref x] X T I (Ex (some (.int (w 6))) X T I) NoX := by
  have hd := hcl.2.1
  have hB6 := hV.hB
  have hN10 := hV.hN
  have hE20 := hV.hE
  refine Mx.of (by decide) (Nat.le_of_ble_eq_true rfl) (fun k hfl hxt C => ?_)
  refine r_lo (lo' := [(0, _)]) rfl ?_
  refine r_aload_n (pc := 0) C 0 dX9_repaidLoans_0 rfl rfl ?_
  refine r_getR (pc := 1) (x := x + 1) C f_X9_10 hcl.1 rfl rfl dX9_repaidLoans_1 ?_
  refine r_getI (pc := 4) C f_X9_326 ((Dk_0 hd)) rfl dX9_repaidLoans_4 ?_
  refine r_t (hV.get at_repaidTotal) ?_
  refine r_xret ?_
  exact r_iret (pc := 7) C dX9_repaidLoans_7 ⟨rfl, rfl, rfl, rfl⟩ (by decide)

set_option maxHeartbeats 1000000 in
theorem q_defaultedLoans {g : GG} {X : va_W} {T : TT} {I : II} {x : Nat} (hcl : isCl T x) {w : Nat → Int32} {B N E : Nat} {pm : Nat → Nat} (hV : DV I (x + 1) w B N E pm)  : Mx g yX9_defaultedLoans cX9_defaultedLoans 1 (some .int) 8 0 0 [.ref x] X T I (Ex (some (.int (w 7))) X T I) NoX := by
  have hd := hcl.2.1
  have hB6 := hV.hB
  have hN10 := hV.hN
  have hE20 := hV.hE
  refine Mx.of (by decide) (Nat.le_of_ble_eq_true rfl) (fun k hfl hxt C => ?_)
  refine r_lo (lo' := [(0, _)]) rfl ?_
  refine r_aload_n (pc := 0) C 0 dX9_defaultedLoans_0 rfl rfl ?_
  refine r_getR (pc := 1) (x := x + 1) C f_X9_10 hcl.1 rfl rfl dX9_defaultedLoans_1 ?_
  refine r_getI (pc := 4) C f_X9_329 ((Dk_0 hd)) rfl dX9_defaultedLoans_4 ?_
  refine r_t (hV.get at_defaultedTotal) ?_
  refine r_xret ?_
  exact r_iret (pc := 7) C dX9_defaultedLoans_7 ⟨rfl, rfl, rfl, rfl⟩ (by decide)

set_option maxHeartbeats 1000000 in
theorem q_losses {g : GG} {X : va_W} {T : TT} {I : II} {x : Nat} (hcl : isCl T x) {w : Nat → Int32} {B N E : Nat} {pm : Nat → Nat} (hV : DV I (x + 1) w B N E pm)  : Mx g yX9_losses cX9_losses 1 (some .int) 8 0 0 [.ref x] X T I (Ex (some (.int (w 8))) X T I) NoX := by
  have hd := hcl.2.1
  have hB6 := hV.hB
  have hN10 := hV.hN
  have hE20 := hV.hE
  refine Mx.of (by decide) (Nat.le_of_ble_eq_true rfl) (fun k hfl hxt C => ?_)
  refine r_lo (lo' := [(0, _)]) rfl ?_
  refine r_aload_n (pc := 0) C 0 dX9_losses_0 rfl rfl ?_
  refine r_getR (pc := 1) (x := x + 1) C f_X9_10 hcl.1 rfl rfl dX9_losses_1 ?_
  refine r_getI (pc := 4) C f_X9_332 ((Dk_0 hd)) rfl dX9_losses_4 ?_
  refine r_t (hV.get at_lossTotal) ?_
  refine r_xret ?_
  exact r_iret (pc := 7) C dX9_losses_7 ⟨rfl, rfl, rfl, rfl⟩ (by decide)

set_option maxHeartbeats 1000000 in
theorem q_ledgerSize {g : GG} {X : va_W} {T : TT} {I : II} {x : Nat} (hcl : isCl T x) {w : Nat → Int32} {B N E : Nat} {pm : Nat → Nat} (hV : DV I (x + 1) w B N E pm)  : Mx g yX9_ledgerSize cX9_ledgerSize 1 (some .int) 8 0 0 [.ref x] X T I (Ex (some (.int (w 5))) X T I) NoX := by
  have hd := hcl.2.1
  have hB6 := hV.hB
  have hN10 := hV.hN
  have hE20 := hV.hE
  refine Mx.of (by decide) (Nat.le_of_ble_eq_true rfl) (fun k hfl hxt C => ?_)
  refine r_lo (lo' := [(0, _)]) rfl ?_
  refine r_aload_n (pc := 0) C 0 dX9_ledgerSize_0 rfl rfl ?_
  refine r_getR (pc := 1) (x := x + 1) C f_X9_10 hcl.1 rfl rfl dX9_ledgerSize_1 ?_
  refine r_getR (pc := 4) (x := x + 1 + 6) C f_X9_297 ((Dk_0 hd)) rfl rfl dX9_ledgerSize_4 ?_
  refine r_getI (pc := 7) C f_X9_301 ((Dk_6 hd)) rfl dX9_ledgerSize_7 ?_
  refine r_t (hV.get at_size) ?_
  refine r_xret ?_
  exact r_iret (pc := 10) C dX9_ledgerSize_10 ⟨rfl, rfl, rfl, rfl⟩ (by decide)

set_option maxHeartbeats 1000000 in
theorem q_totalCoins {g : GG} {X : va_W} {T : TT} {I : II} {x : Nat} (hcl : isCl T x) {w : Nat → Int32} {B N E : Nat} {pm : Nat → Nat} (hV : DV I (x + 1) w B N E pm) (hB : w 1 = nI B)  : Mx g yX9_totalCoins cX9_totalCoins 1 (some .int) 8 0 0 [.ref x] X T I (Ex (some (.int (coinsV w B))) X T I) NoX := by
  have hd := hcl.2.1
  have hB6 := hV.hB
  have hN10 := hV.hN
  have hE20 := hV.hE
  refine Mx.of (by decide) (Nat.le_of_ble_eq_true rfl) (fun k hfl hxt C => ?_)
  refine r_lo (lo' := [(0, _)]) rfl ?_
  refine r_aload_n (pc := 0) C 0 dX9_totalCoins_0 rfl rfl ?_
  refine r_getR (pc := 1) (x := x + 1) C f_X9_10 hcl.1 rfl rfl dX9_totalCoins_1 ?_
  refine r_cVi (pc := 4) C hfl k_X9_335 (c_X3_allCoins hd hV hB) ((Dk_0 hd)) ca_X3 rfl rfl (Nat.le_of_ble_eq_true rfl) (by decide) (by decide) dX9_totalCoins_4 ?_
  refine r_xret ?_
  exact r_iret (pc := 7) C dX9_totalCoins_7 ⟨rfl, rfl, rfl, rfl⟩ (by decide)

set_option maxHeartbeats 1000000 in
theorem q_ledgerOf {g : GG} {X : va_W} {T : TT} {I : II} {x : Nat} (hcl : isCl T x) {w : Nat → Int32} {B N E : Nat} {pm : Nat → Nat} (hV : DV I (x + 1) w B N E pm) (hE : w 5 = nI E) {id : Int32} : Mx g yX9_ledgerOf cX9_ledgerOf 2 (some .int) 8 0 0 [.ref x, .int id] X T I (Ex (some (.int (ledV w E id))) X T I) NoX := by
  have hd := hcl.2.1
  have hB6 := hV.hB
  have hN10 := hV.hN
  have hE20 := hV.hE
  refine Mx.of (by decide) (Nat.le_of_ble_eq_true rfl) (fun k hfl hxt C => ?_)
  refine r_lo (lo' := [(0, _), (1, _)]) rfl ?_
  refine r_aload_n (pc := 0) C 0 dX9_ledgerOf_0 rfl rfl ?_
  refine r_getR (pc := 1) (x := x + 1) C f_X9_10 hcl.1 rfl rfl dX9_ledgerOf_1 ?_
  refine r_getR (pc := 4) (x := x + 1 + 6) C f_X9_297 ((Dk_0 hd)) rfl rfl dX9_ledgerOf_4 ?_
  refine r_iload_n (pc := 7) C 1 dX9_ledgerOf_7 rfl rfl ?_
  refine r_cVi (pc := 8) C hfl k_X9_323 (c_X6_sumFor hd hV hE) ((Dk_6 hd)) ca_X6 rfl rfl (Nat.le_of_ble_eq_true rfl) (by decide) (by decide) dX9_ledgerOf_8 ?_
  refine r_xret ?_
  exact r_iret (pc := 11) C dX9_ledgerOf_11 ⟨rfl, rfl, rfl, rfl⟩ (by decide)

set_option maxHeartbeats 1000000 in
theorem q_exists__s {g : GG} {X : va_W} {T : TT} {I : II} {x : Nat} (hcl : isCl T x) {w : Nat → Int32} {B N E : Nat} {pm : Nat → Nat} (hV : DV I (x + 1) w B N E pm) (hN : w 2 = nI N) {id : Int32} {s : Nat} (hs : s < N) (hr : atS w N id (nI s)) : Mx g yX9_exists cX9_exists 2 (some .boolean) 8 0 0 [.ref x, .int id] X T I (Ex (some (.int (nI 1))) X T I) NoX := by
  have hd := hcl.2.1
  have hB6 := hV.hB
  have hN10 := hV.hN
  have hE20 := hV.hE
  refine Mx.of (by decide) (Nat.le_of_ble_eq_true rfl) (fun k hfl hxt C => ?_)
  refine r_lo (lo' := [(0, _), (1, _)]) rfl ?_
  refine r_aload_n (pc := 0) C 0 dX9_exists_0 rfl rfl ?_
  refine r_getR (pc := 1) (x := x + 1) C f_X9_10 hcl.1 rfl rfl dX9_exists_1 ?_
  refine r_iload_n (pc := 4) C 1 dX9_exists_4 rfl rfl ?_
  refine r_cVr (pc := 5) C hfl k_X9_203 (c_X3_loanWithId__s hd hV hN hs hr) ((Dk_0 hd)) ca_X3 rfl rfl (Nat.le_of_ble_eq_true rfl) (by decide) (by decide) dX9_exists_5 ?_
  refine r_ifnullR (pc := 8) C dX9_exists_8 ?_
  refine r_iconst (pc := 11) (v := 1) C dX9_exists_11 rfl ?_
  refine r_goto (pc := 12) (tgt := 16) C dX9_exists_12 rfl ?_
  refine r_xret ?_
  exact r_zret (pc := 16) C rfl dX9_exists_16 ⟨rfl, rfl, rfl, rfl⟩ (by decide)

set_option maxHeartbeats 1000000 in
theorem q_exists__n {g : GG} {X : va_W} {T : TT} {I : II} {x : Nat} (hcl : isCl T x) {w : Nat → Int32} {B N E : Nat} {pm : Nat → Nat} (hV : DV I (x + 1) w B N E pm) (hN : w 2 = nI N) {id : Int32} (hr : atS w N id (-1)) : Mx g yX9_exists cX9_exists 2 (some .boolean) 8 0 0 [.ref x, .int id] X T I (Ex (some (.int (nI 0))) X T I) NoX := by
  have hd := hcl.2.1
  have hB6 := hV.hB
  have hN10 := hV.hN
  have hE20 := hV.hE
  refine Mx.of (by decide) (Nat.le_of_ble_eq_true rfl) (fun k hfl hxt C => ?_)
  refine r_lo (lo' := [(0, _), (1, _)]) rfl ?_
  refine r_aload_n (pc := 0) C 0 dX9_exists_0 rfl rfl ?_
  refine r_getR (pc := 1) (x := x + 1) C f_X9_10 hcl.1 rfl rfl dX9_exists_1 ?_
  refine r_iload_n (pc := 4) C 1 dX9_exists_4 rfl rfl ?_
  refine r_cVr (pc := 5) C hfl k_X9_203 (c_X3_loanWithId__n hd hV hN hr) ((Dk_0 hd)) ca_X3 rfl rfl (Nat.le_of_ble_eq_true rfl) (by decide) (by decide) dX9_exists_5 ?_
  refine r_ifnullN (pc := 8) (tgt := 15) C dX9_exists_8 rfl ?_
  refine r_iconst (pc := 15) (v := 0) C dX9_exists_15 rfl ?_
  refine r_xret ?_
  exact r_zret (pc := 16) C rfl dX9_exists_16 ⟨rfl, rfl, rfl, rfl⟩ (by decide)

set_option maxHeartbeats 1000000 in
theorem q_price__v {g : GG} {X : va_W} {T : TT} {I : II} {x : Nat} (hcl : isCl T x) {w : Nat → Int32} {B N E : Nat} {pm : Nat → Nat} (hV : DV I (x + 1) w B N E pm) {m : Nat} (m1 : m < 4) : Mx g yX9_price cX9_price 2 (some .int) 8 0 0 [.ref x, .int (nI m)] X T I (Ex (some (.int (w (10 + m)))) X T I) NoX := by
  have hd := hcl.2.1
  have hB6 := hV.hB
  have hN10 := hV.hN
  have hE20 := hV.hE
  refine Mx.of (by decide) (Nat.le_of_ble_eq_true rfl) (fun k hfl hxt C => ?_)
  refine r_lo (lo' := [(0, _), (1, _)]) rfl ?_
  refine r_iload_n (pc := 0) C 1 dX9_price_0 rfl rfl ?_
  refine r_xS (pc := 1) C hfl hxt k_X9_153 (q_requireKind__v m1) (fun _ _ _ _ h => h.elim) rfl rfl (Nat.le_of_ble_eq_true rfl) (by decide) (by decide) dX9_price_1 (fun r2 X2 T2 I2 h2 => ?_)
  obtain ⟨rfl, rfl, rfl, rfl⟩ := h2
  refine r_aload_n (pc := 4) C 0 dX9_price_4 rfl rfl ?_
  refine r_getR (pc := 5) (x := x + 1) C f_X9_10 hcl.1 rfl rfl dX9_price_5 ?_
  refine r_getR (pc := 8) (x := x + 1 + 1) C f_X9_157 ((Dk_0 hd)) rfl rfl dX9_price_8 ?_
  refine r_iload_n (pc := 11) C 1 dX9_price_11 rfl rfl ?_
  refine r_iald (pc := 12) (x := m) C ((Dk_1 hd)) rfl (by omega) (by decide) dX9_price_12 ?_
  refine r_t (hV.get (at_pr (by omega))) ?_
  refine r_xret ?_
  exact r_iret (pc := 13) C dX9_price_13 ⟨rfl, rfl, rfl, rfl⟩ (by decide)

set_option maxHeartbeats 1000000 in
theorem q_price__x {g : GG} {X : va_W} {T : TT} {I : II} {x : Nat} (hcl : isCl T x) {w : Nat → Int32} {B N E : Nat} {pm : Nat → Nat} (hV : DV I (x + 1) w B N E pm) {k_ : Int32} (hk : ¬ okK k_) : Mx g yX9_price cX9_price 2 (some .int) 8 1 6 [.ref x, .int k_] X T I No (Th (exc 2) X T I) := by
  have hd := hcl.2.1
  have hB6 := hV.hB
  have hN10 := hV.hN
  have hE20 := hV.hE
  refine Mx.of (by decide) (Nat.le_of_ble_eq_true rfl) (fun k hfl hxt C => ?_)
  refine r_lo (lo' := [(0, _), (1, _)]) rfl ?_
  refine r_iload_n (pc := 0) C 1 dX9_price_0 rfl rfl ?_
  refine r_xS (pc := 1) C hfl hxt k_X9_153 (q_requireKind__x hk) (fun _ _ _ _ h => h) rfl rfl (Nat.le_of_ble_eq_true rfl) (by decide) (by decide) dX9_price_1 (fun r2 X2 T2 I2 h2 => ?_)
  exact h2.elim

set_option maxHeartbeats 1000000 in
theorem q_stock__v {g : GG} {X : va_W} {T : TT} {I : II} {x : Nat} (hcl : isCl T x) {w : Nat → Int32} {B N E : Nat} {pm : Nat → Nat} (hV : DV I (x + 1) w B N E pm) {m : Nat} (m1 : m < 4) : Mx g yX9_stock cX9_stock 2 (some .int) 8 0 0 [.ref x, .int (nI m)] X T I (Ex (some (.int (w (14 + m)))) X T I) NoX := by
  have hd := hcl.2.1
  have hB6 := hV.hB
  have hN10 := hV.hN
  have hE20 := hV.hE
  refine Mx.of (by decide) (Nat.le_of_ble_eq_true rfl) (fun k hfl hxt C => ?_)
  refine r_lo (lo' := [(0, _), (1, _)]) rfl ?_
  refine r_iload_n (pc := 0) C 1 dX9_stock_0 rfl rfl ?_
  refine r_xS (pc := 1) C hfl hxt k_X9_153 (q_requireKind__v m1) (fun _ _ _ _ h => h.elim) rfl rfl (Nat.le_of_ble_eq_true rfl) (by decide) (by decide) dX9_stock_1 (fun r2 X2 T2 I2 h2 => ?_)
  obtain ⟨rfl, rfl, rfl, rfl⟩ := h2
  refine r_aload_n (pc := 4) C 0 dX9_stock_4 rfl rfl ?_
  refine r_getR (pc := 5) (x := x + 1) C f_X9_10 hcl.1 rfl rfl dX9_stock_5 ?_
  refine r_getR (pc := 8) (x := x + 1 + 2) C f_X9_164 ((Dk_0 hd)) rfl rfl dX9_stock_8 ?_
  refine r_iload_n (pc := 11) C 1 dX9_stock_11 rfl rfl ?_
  refine r_iald (pc := 12) (x := m) C ((Dk_2 hd)) rfl (by omega) (by decide) dX9_stock_12 ?_
  refine r_t (hV.get (at_st (by omega))) ?_
  refine r_xret ?_
  exact r_iret (pc := 13) C dX9_stock_13 ⟨rfl, rfl, rfl, rfl⟩ (by decide)

set_option maxHeartbeats 1000000 in
theorem q_stock__x {g : GG} {X : va_W} {T : TT} {I : II} {x : Nat} (hcl : isCl T x) {w : Nat → Int32} {B N E : Nat} {pm : Nat → Nat} (hV : DV I (x + 1) w B N E pm) {k_ : Int32} (hk : ¬ okK k_) : Mx g yX9_stock cX9_stock 2 (some .int) 8 1 6 [.ref x, .int k_] X T I No (Th (exc 2) X T I) := by
  have hd := hcl.2.1
  have hB6 := hV.hB
  have hN10 := hV.hN
  have hE20 := hV.hE
  refine Mx.of (by decide) (Nat.le_of_ble_eq_true rfl) (fun k hfl hxt C => ?_)
  refine r_lo (lo' := [(0, _), (1, _)]) rfl ?_
  refine r_iload_n (pc := 0) C 1 dX9_stock_0 rfl rfl ?_
  refine r_xS (pc := 1) C hfl hxt k_X9_153 (q_requireKind__x hk) (fun _ _ _ _ h => h) rfl rfl (Nat.le_of_ble_eq_true rfl) (by decide) (by decide) dX9_stock_1 (fun r2 X2 T2 I2 h2 => ?_)
  exact h2.elim

set_option maxHeartbeats 1000000 in
theorem q_totalUnits__v {g : GG} {X : va_W} {T : TT} {I : II} {x : Nat} (hcl : isCl T x) {w : Nat → Int32} {B N E : Nat} {pm : Nat → Nat} (hV : DV I (x + 1) w B N E pm) (hB : w 1 = nI B) (hN : w 2 = nI N) {m : Nat} (m1 : m < 4) : Mx g yX9_totalUnits cX9_totalUnits 2 (some .int) 8 0 0 [.ref x, .int (nI m)] X T I (Ex (some (.int (unitsC w B N m))) X T I) NoX := by
  have hd := hcl.2.1
  have hB6 := hV.hB
  have hN10 := hV.hN
  have hE20 := hV.hE
  refine Mx.of (by decide) (Nat.le_of_ble_eq_true rfl) (fun k hfl hxt C => ?_)
  refine r_lo (lo' := [(0, _), (1, _)]) rfl ?_
  refine r_iload_n (pc := 0) C 1 dX9_totalUnits_0 rfl rfl ?_
  refine r_xS (pc := 1) C hfl hxt k_X9_153 (q_requireKind__v m1) (fun _ _ _ _ h => h.elim) rfl rfl (Nat.le_of_ble_eq_true rfl) (by decide) (by decide) dX9_totalUnits_1 (fun r2 X2 T2 I2 h2 => ?_)
  obtain ⟨rfl, rfl, rfl, rfl⟩ := h2
  refine r_aload_n (pc := 4) C 0 dX9_totalUnits_4 rfl rfl ?_
  refine r_getR (pc := 5) (x := x + 1) C f_X9_10 hcl.1 rfl rfl dX9_totalUnits_5 ?_
  refine r_iload_n (pc := 8) C 1 dX9_totalUnits_8 rfl rfl ?_
  refine r_cVi (pc := 9) C hfl k_X9_338 (c_X3_allUnits hd hV m1 hB hN) ((Dk_0 hd)) ca_X3 rfl rfl (Nat.le_of_ble_eq_true rfl) (by decide) (by decide) dX9_totalUnits_9 ?_
  refine r_xret ?_
  exact r_iret (pc := 12) C dX9_totalUnits_12 ⟨rfl, rfl, rfl, rfl⟩ (by decide)

set_option maxHeartbeats 1000000 in
theorem q_totalUnits__x {g : GG} {X : va_W} {T : TT} {I : II} {x : Nat} (hcl : isCl T x) {w : Nat → Int32} {B N E : Nat} {pm : Nat → Nat} (hV : DV I (x + 1) w B N E pm) {k_ : Int32} (hk : ¬ okK k_) : Mx g yX9_totalUnits cX9_totalUnits 2 (some .int) 8 1 6 [.ref x, .int k_] X T I No (Th (exc 2) X T I) := by
  have hd := hcl.2.1
  have hB6 := hV.hB
  have hN10 := hV.hN
  have hE20 := hV.hE
  refine Mx.of (by decide) (Nat.le_of_ble_eq_true rfl) (fun k hfl hxt C => ?_)
  refine r_lo (lo' := [(0, _), (1, _)]) rfl ?_
  refine r_iload_n (pc := 0) C 1 dX9_totalUnits_0 rfl rfl ?_
  refine r_xS (pc := 1) C hfl hxt k_X9_153 (q_requireKind__x hk) (fun _ _ _ _ h => h) rfl rfl (Nat.le_of_ble_eq_true rfl) (by decide) (by decide) dX9_totalUnits_1 (fun r2 X2 T2 I2 h2 => ?_)
  exact h2.elim

set_option maxHeartbeats 1000000 in
theorem q_coins__v {g : GG} {X : va_W} {T : TT} {I : II} {x : Nat} (hcl : isCl T x) {w : Nat → Int32} {B N E : Nat} {pm : Nat → Nat} (hV : DV I (x + 1) w B N E pm) (hB : w 1 = nI B) {n : Nat} (n1 : n < B) : Mx g yX9_coins cX9_coins 2 (some .int) 8 0 0 [.ref x, .int (nI n)] X T I (Ex (some (.int (w (22 + 6 * n + 0)))) X T I) NoX := by
  have hd := hcl.2.1
  have hB6 := hV.hB
  have hN10 := hV.hN
  have hE20 := hV.hE
  refine Mx.of (by decide) (Nat.le_of_ble_eq_true rfl) (fun k hfl hxt C => ?_)
  refine r_lo (lo' := [(0, _), (1, _)]) rfl ?_
  refine r_aload_n (pc := 0) C 0 dX9_coins_0 rfl rfl ?_
  refine r_iload_n (pc := 1) C 1 dX9_coins_1 rfl rfl ?_
  refine r_xV (pc := 2) C hfl hxt k_X9_170 (q_requireBorrower__v hcl hV hB n1) (fun _ _ _ _ h => h.elim) hcl.1 ca_X9 rfl rfl (Nat.le_of_ble_eq_true rfl) (by decide) (by decide) dX9_coins_2 (fun r2 X2 T2 I2 h2 => ?_)
  obtain ⟨rfl, rfl, rfl, rfl⟩ := h2
  refine r_st (st' := .ref _ :: _) rfl ?_
  refine r_getI (pc := 5) C f_X9_174 ((Dk_b hd (by omega))) rfl dX9_coins_5 ?_
  refine r_t (hV.get (at_purse n1)) ?_
  refine r_xret ?_
  exact r_iret (pc := 8) C dX9_coins_8 ⟨rfl, rfl, rfl, rfl⟩ (by decide)

set_option maxHeartbeats 1000000 in
theorem q_coins__x {g : GG} {X : va_W} {T : TT} {I : II} {x : Nat} (hcl : isCl T x) {w : Nat → Int32} {B N E : Nat} {pm : Nat → Nat} (hV : DV I (x + 1) w B N E pm) (hB : w 1 = nI B) {n_ : Int32} (hx : ¬ okB B n_) : Mx g yX9_coins cX9_coins 2 (some .int) 8 1 6 [.ref x, .int n_] X T I No (Th (exc 2) X T I) := by
  have hd := hcl.2.1
  have hB6 := hV.hB
  have hN10 := hV.hN
  have hE20 := hV.hE
  refine Mx.of (by decide) (Nat.le_of_ble_eq_true rfl) (fun k hfl hxt C => ?_)
  refine r_lo (lo' := [(0, _), (1, _)]) rfl ?_
  refine r_aload_n (pc := 0) C 0 dX9_coins_0 rfl rfl ?_
  refine r_iload_n (pc := 1) C 1 dX9_coins_1 rfl rfl ?_
  refine r_xV (pc := 2) C hfl hxt k_X9_170 (q_requireBorrower__x hcl hV hB hx) (fun _ _ _ _ h => h) hcl.1 ca_X9 rfl rfl (Nat.le_of_ble_eq_true rfl) (by decide) (by decide) dX9_coins_2 (fun r2 X2 T2 I2 h2 => ?_)
  exact h2.elim

set_option maxHeartbeats 1000000 in
theorem q_defaults__v {g : GG} {X : va_W} {T : TT} {I : II} {x : Nat} (hcl : isCl T x) {w : Nat → Int32} {B N E : Nat} {pm : Nat → Nat} (hV : DV I (x + 1) w B N E pm) (hB : w 1 = nI B) {n : Nat} (n1 : n < B) : Mx g yX9_defaults cX9_defaults 2 (some .int) 8 0 0 [.ref x, .int (nI n)] X T I (Ex (some (.int (w (22 + 6 * n + 1)))) X T I) NoX := by
  have hd := hcl.2.1
  have hB6 := hV.hB
  have hN10 := hV.hN
  have hE20 := hV.hE
  refine Mx.of (by decide) (Nat.le_of_ble_eq_true rfl) (fun k hfl hxt C => ?_)
  refine r_lo (lo' := [(0, _), (1, _)]) rfl ?_
  refine r_aload_n (pc := 0) C 0 dX9_defaults_0 rfl rfl ?_
  refine r_iload_n (pc := 1) C 1 dX9_defaults_1 rfl rfl ?_
  refine r_xV (pc := 2) C hfl hxt k_X9_170 (q_requireBorrower__v hcl hV hB n1) (fun _ _ _ _ h => h.elim) hcl.1 ca_X9 rfl rfl (Nat.le_of_ble_eq_true rfl) (by decide) (by decide) dX9_defaults_2 (fun r2 X2 T2 I2 h2 => ?_)
  obtain ⟨rfl, rfl, rfl, rfl⟩ := h2
  refine r_st (st' := .ref _ :: _) rfl ?_
  refine r_getI (pc := 5) C f_X9_186 ((Dk_b hd (by omega))) rfl dX9_defaults_5 ?_
  refine r_t (hV.get (at_defaultTotal n1)) ?_
  refine r_xret ?_
  exact r_iret (pc := 8) C dX9_defaults_8 ⟨rfl, rfl, rfl, rfl⟩ (by decide)

set_option maxHeartbeats 1000000 in
theorem q_defaults__x {g : GG} {X : va_W} {T : TT} {I : II} {x : Nat} (hcl : isCl T x) {w : Nat → Int32} {B N E : Nat} {pm : Nat → Nat} (hV : DV I (x + 1) w B N E pm) (hB : w 1 = nI B) {n_ : Int32} (hx : ¬ okB B n_) : Mx g yX9_defaults cX9_defaults 2 (some .int) 8 1 6 [.ref x, .int n_] X T I No (Th (exc 2) X T I) := by
  have hd := hcl.2.1
  have hB6 := hV.hB
  have hN10 := hV.hN
  have hE20 := hV.hE
  refine Mx.of (by decide) (Nat.le_of_ble_eq_true rfl) (fun k hfl hxt C => ?_)
  refine r_lo (lo' := [(0, _), (1, _)]) rfl ?_
  refine r_aload_n (pc := 0) C 0 dX9_defaults_0 rfl rfl ?_
  refine r_iload_n (pc := 1) C 1 dX9_defaults_1 rfl rfl ?_
  refine r_xV (pc := 2) C hfl hxt k_X9_170 (q_requireBorrower__x hcl hV hB hx) (fun _ _ _ _ h => h) hcl.1 ca_X9 rfl rfl (Nat.le_of_ble_eq_true rfl) (by decide) (by decide) dX9_defaults_2 (fun r2 X2 T2 I2 h2 => ?_)
  exact h2.elim

set_option maxHeartbeats 1000000 in
theorem q_canBorrow__v {g : GG} {X : va_W} {T : TT} {I : II} {x : Nat} (hcl : isCl T x) {w : Nat → Int32} {B N E : Nat} {pm : Nat → Nat} (hV : DV I (x + 1) w B N E pm) (hB : w 1 = nI B) {n : Nat} (n1 : n < B) : Mx g yX9_canBorrow cX9_canBorrow 2 (some .boolean) 8 0 0 [.ref x, .int (nI n)] X T I (Ex (some (.int (bI (w (22 + 6 * n + 1) < nI 2)))) X T I) NoX := by
  have hd := hcl.2.1
  have hB6 := hV.hB
  have hN10 := hV.hN
  have hE20 := hV.hE
  refine Mx.of (by decide) (Nat.le_of_ble_eq_true rfl) (fun k hfl hxt C => ?_)
  refine r_lo (lo' := [(0, _), (1, _)]) rfl ?_
  refine r_aload_n (pc := 0) C 0 dX9_canBorrow_0 rfl rfl ?_
  refine r_iload_n (pc := 1) C 1 dX9_canBorrow_1 rfl rfl ?_
  refine r_xV (pc := 2) C hfl hxt k_X9_170 (q_requireBorrower__v hcl hV hB n1) (fun _ _ _ _ h => h.elim) hcl.1 ca_X9 rfl rfl (Nat.le_of_ble_eq_true rfl) (by decide) (by decide) dX9_canBorrow_2 (fun r2 X2 T2 I2 h2 => ?_)
  obtain ⟨rfl, rfl, rfl, rfl⟩ := h2
  refine r_st (st' := .ref _ :: _) rfl ?_
  refine r_cVi (pc := 5) C hfl k_X9_189 (c_X1_mayBorrow hd hV n1) ((Dk_b hd (by omega))) ca_X1 rfl rfl (Nat.le_of_ble_eq_true rfl) (by decide) (by decide) dX9_canBorrow_5 ?_
  refine r_xret ?_
  exact r_zret (pc := 8) C bI_n dX9_canBorrow_8 ⟨rfl, rfl, rfl, rfl⟩ (by decide)

set_option maxHeartbeats 1000000 in
theorem q_canBorrow__x {g : GG} {X : va_W} {T : TT} {I : II} {x : Nat} (hcl : isCl T x) {w : Nat → Int32} {B N E : Nat} {pm : Nat → Nat} (hV : DV I (x + 1) w B N E pm) (hB : w 1 = nI B) {n_ : Int32} (hx : ¬ okB B n_) : Mx g yX9_canBorrow cX9_canBorrow 2 (some .boolean) 8 1 6 [.ref x, .int n_] X T I No (Th (exc 2) X T I) := by
  have hd := hcl.2.1
  have hB6 := hV.hB
  have hN10 := hV.hN
  have hE20 := hV.hE
  refine Mx.of (by decide) (Nat.le_of_ble_eq_true rfl) (fun k hfl hxt C => ?_)
  refine r_lo (lo' := [(0, _), (1, _)]) rfl ?_
  refine r_aload_n (pc := 0) C 0 dX9_canBorrow_0 rfl rfl ?_
  refine r_iload_n (pc := 1) C 1 dX9_canBorrow_1 rfl rfl ?_
  refine r_xV (pc := 2) C hfl hxt k_X9_170 (q_requireBorrower__x hcl hV hB hx) (fun _ _ _ _ h => h) hcl.1 ca_X9 rfl rfl (Nat.le_of_ble_eq_true rfl) (by decide) (by decide) dX9_canBorrow_2 (fun r2 X2 T2 I2 h2 => ?_)
  exact h2.elim

set_option maxHeartbeats 1000000 in
theorem q_loansOf__v {g : GG} {X : va_W} {T : TT} {I : II} {x : Nat} (hcl : isCl T x) {w : Nat → Int32} {B N E : Nat} {pm : Nat → Nat} (hV : DV I (x + 1) w B N E pm) (hN : w 2 = nI N) (hB : w 1 = nI B) {n : Nat} (n1 : n < B) : Mx g yX9_loansOf cX9_loansOf 2 (some .int) 8 0 0 [.ref x, .int (nI n)] X T I (Ex (some (.int (withV w N (nI n)))) X T I) NoX := by
  have hd := hcl.2.1
  have hB6 := hV.hB
  have hN10 := hV.hN
  have hE20 := hV.hE
  refine Mx.of (by decide) (Nat.le_of_ble_eq_true rfl) (fun k hfl hxt C => ?_)
  refine r_lo (lo' := [(0, _), (1, _)]) rfl ?_
  refine r_aload_n (pc := 0) C 0 dX9_loansOf_0 rfl rfl ?_
  refine r_iload_n (pc := 1) C 1 dX9_loansOf_1 rfl rfl ?_
  refine r_xV (pc := 2) C hfl hxt k_X9_170 (q_requireBorrower__v hcl hV hB n1) (fun _ _ _ _ h => h.elim) hcl.1 ca_X9 rfl rfl (Nat.le_of_ble_eq_true rfl) (by decide) (by decide) dX9_loansOf_2 (fun r2 X2 T2 I2 h2 => ?_)
  obtain ⟨rfl, rfl, rfl, rfl⟩ := h2
  refine r_st (st' := .ref _ :: _) rfl ?_
  refine r_pop (pc := 5) C dX9_loansOf_5 rfl ?_
  refine r_aload_n (pc := 6) C 0 dX9_loansOf_6 rfl rfl ?_
  refine r_getR (pc := 7) (x := x + 1) C f_X9_10 hcl.1 rfl rfl dX9_loansOf_7 ?_
  refine r_iload_n (pc := 10) C 1 dX9_loansOf_10 rfl rfl ?_
  refine r_cVi (pc := 11) C hfl k_X9_193 (c_X3_loansHeldBy hd hV hN) ((Dk_0 hd)) ca_X3 rfl rfl (Nat.le_of_ble_eq_true rfl) (by decide) (by decide) dX9_loansOf_11 ?_
  refine r_xret ?_
  exact r_iret (pc := 14) C dX9_loansOf_14 ⟨rfl, rfl, rfl, rfl⟩ (by decide)

set_option maxHeartbeats 1000000 in
theorem q_loansOf__x {g : GG} {X : va_W} {T : TT} {I : II} {x : Nat} (hcl : isCl T x) {w : Nat → Int32} {B N E : Nat} {pm : Nat → Nat} (hV : DV I (x + 1) w B N E pm) (hB : w 1 = nI B) {n_ : Int32} (hx : ¬ okB B n_) : Mx g yX9_loansOf cX9_loansOf 2 (some .int) 8 1 6 [.ref x, .int n_] X T I No (Th (exc 2) X T I) := by
  have hd := hcl.2.1
  have hB6 := hV.hB
  have hN10 := hV.hN
  have hE20 := hV.hE
  refine Mx.of (by decide) (Nat.le_of_ble_eq_true rfl) (fun k hfl hxt C => ?_)
  refine r_lo (lo' := [(0, _), (1, _)]) rfl ?_
  refine r_aload_n (pc := 0) C 0 dX9_loansOf_0 rfl rfl ?_
  refine r_iload_n (pc := 1) C 1 dX9_loansOf_1 rfl rfl ?_
  refine r_xV (pc := 2) C hfl hxt k_X9_170 (q_requireBorrower__x hcl hV hB hx) (fun _ _ _ _ h => h) hcl.1 ca_X9 rfl rfl (Nat.le_of_ble_eq_true rfl) (by decide) (by decide) dX9_loansOf_2 (fun r2 X2 T2 I2 h2 => ?_)
  exact h2.elim

set_option maxHeartbeats 1000000 in
theorem q_debtOf__v {g : GG} {X : va_W} {T : TT} {I : II} {x : Nat} (hcl : isCl T x) {w : Nat → Int32} {B N E : Nat} {pm : Nat → Nat} (hV : DV I (x + 1) w B N E pm) (hN : w 2 = nI N) (hB : w 1 = nI B) {n : Nat} (n1 : n < B) : Mx g yX9_debtOf cX9_debtOf 2 (some .int) 8 0 0 [.ref x, .int (nI n)] X T I (Ex (some (.int (debtsV w N (nI n)))) X T I) NoX := by
  have hd := hcl.2.1
  have hB6 := hV.hB
  have hN10 := hV.hN
  have hE20 := hV.hE
  refine Mx.of (by decide) (Nat.le_of_ble_eq_true rfl) (fun k hfl hxt C => ?_)
  refine r_lo (lo' := [(0, _), (1, _)]) rfl ?_
  refine r_aload_n (pc := 0) C 0 dX9_debtOf_0 rfl rfl ?_
  refine r_iload_n (pc := 1) C 1 dX9_debtOf_1 rfl rfl ?_
  refine r_xV (pc := 2) C hfl hxt k_X9_170 (q_requireBorrower__v hcl hV hB n1) (fun _ _ _ _ h => h.elim) hcl.1 ca_X9 rfl rfl (Nat.le_of_ble_eq_true rfl) (by decide) (by decide) dX9_debtOf_2 (fun r2 X2 T2 I2 h2 => ?_)
  obtain ⟨rfl, rfl, rfl, rfl⟩ := h2
  refine r_st (st' := .ref _ :: _) rfl ?_
  refine r_pop (pc := 5) C dX9_debtOf_5 rfl ?_
  refine r_aload_n (pc := 6) C 0 dX9_debtOf_6 rfl rfl ?_
  refine r_getR (pc := 7) (x := x + 1) C f_X9_10 hcl.1 rfl rfl dX9_debtOf_7 ?_
  refine r_iload_n (pc := 10) C 1 dX9_debtOf_10 rfl rfl ?_
  refine r_cVi (pc := 11) C hfl k_X9_197 (c_X3_owedBy hd hV hN) ((Dk_0 hd)) ca_X3 rfl rfl (Nat.le_of_ble_eq_true rfl) (by decide) (by decide) dX9_debtOf_11 ?_
  refine r_xret ?_
  exact r_iret (pc := 14) C dX9_debtOf_14 ⟨rfl, rfl, rfl, rfl⟩ (by decide)

set_option maxHeartbeats 1000000 in
theorem q_debtOf__x {g : GG} {X : va_W} {T : TT} {I : II} {x : Nat} (hcl : isCl T x) {w : Nat → Int32} {B N E : Nat} {pm : Nat → Nat} (hV : DV I (x + 1) w B N E pm) (hB : w 1 = nI B) {n_ : Int32} (hx : ¬ okB B n_) : Mx g yX9_debtOf cX9_debtOf 2 (some .int) 8 1 6 [.ref x, .int n_] X T I No (Th (exc 2) X T I) := by
  have hd := hcl.2.1
  have hB6 := hV.hB
  have hN10 := hV.hN
  have hE20 := hV.hE
  refine Mx.of (by decide) (Nat.le_of_ble_eq_true rfl) (fun k hfl hxt C => ?_)
  refine r_lo (lo' := [(0, _), (1, _)]) rfl ?_
  refine r_aload_n (pc := 0) C 0 dX9_debtOf_0 rfl rfl ?_
  refine r_iload_n (pc := 1) C 1 dX9_debtOf_1 rfl rfl ?_
  refine r_xV (pc := 2) C hfl hxt k_X9_170 (q_requireBorrower__x hcl hV hB hx) (fun _ _ _ _ h => h) hcl.1 ca_X9 rfl rfl (Nat.le_of_ble_eq_true rfl) (by decide) (by decide) dX9_debtOf_2 (fun r2 X2 T2 I2 h2 => ?_)
  exact h2.elim

set_option maxHeartbeats 1000000 in
theorem q_units__v {g : GG} {X : va_W} {T : TT} {I : II} {x : Nat} (hcl : isCl T x) {w : Nat → Int32} {B N E : Nat} {pm : Nat → Nat} (hV : DV I (x + 1) w B N E pm) (hB : w 1 = nI B) {n : Nat} (n1 : n < B) {m : Nat} (m1 : m < 4) : Mx g yX9_units cX9_units 4 (some .int) 8 0 0 [.ref x, .int (nI n), .int (nI m)] X T I (Ex (some (.int (w (22 + 6 * n + (2 + m))))) X T I) NoX := by
  have hd := hcl.2.1
  have hB6 := hV.hB
  have hN10 := hV.hN
  have hE20 := hV.hE
  refine Mx.of (by decide) (Nat.le_of_ble_eq_true rfl) (fun k hfl hxt C => ?_)
  refine r_lo (lo' := [(0, _), (1, _), (2, _)]) rfl ?_
  refine r_aload_n (pc := 0) C 0 dX9_units_0 rfl rfl ?_
  refine r_iload_n (pc := 1) C 1 dX9_units_1 rfl rfl ?_
  refine r_xV (pc := 2) C hfl hxt k_X9_170 (q_requireBorrower__v hcl hV hB n1) (fun _ _ _ _ h => h.elim) hcl.1 ca_X9 rfl rfl (Nat.le_of_ble_eq_true rfl) (by decide) (by decide) dX9_units_2 (fun r2 X2 T2 I2 h2 => ?_)
  obtain ⟨rfl, rfl, rfl, rfl⟩ := h2
  refine r_st (st' := .ref _ :: _) rfl ?_
  refine r_astore_n (pc := 5) (lo' := [(3, _), (0, _), (1, _), (2, _)]) C dX9_units_5 rfl (by decide) rfl ?_
  refine r_iload_n (pc := 6) C 3 dX9_units_6 rfl rfl ?_
  refine r_xS (pc := 7) C hfl hxt k_X9_153 (q_requireKind__v m1) (fun _ _ _ _ h => h.elim) rfl rfl (Nat.le_of_ble_eq_true rfl) (by decide) (by decide) dX9_units_7 (fun r2 X2 T2 I2 h2 => ?_)
  obtain ⟨rfl, rfl, rfl, rfl⟩ := h2
  refine r_aload_n (pc := 10) C 0 dX9_units_10 rfl rfl ?_
  refine r_getR (pc := 11) (x := x + 1 + 10 + 2 * n + 1) C f_X9_179 ((Dk_b hd (by omega))) rfl rfl dX9_units_11 ?_
  refine r_iload_n (pc := 14) C 3 dX9_units_14 rfl rfl ?_
  refine r_iald (pc := 15) (x := m) C ((Dk_g hd (by omega))) rfl (by omega) (by decide) dX9_units_15 ?_
  refine r_t (hV.get (at_goods n1 (by omega))) ?_
  refine r_xret ?_
  exact r_iret (pc := 16) C dX9_units_16 ⟨rfl, rfl, rfl, rfl⟩ (by decide)

set_option maxHeartbeats 1000000 in
theorem q_units__xb {g : GG} {X : va_W} {T : TT} {I : II} {x : Nat} (hcl : isCl T x) {w : Nat → Int32} {B N E : Nat} {pm : Nat → Nat} (hV : DV I (x + 1) w B N E pm) (hB : w 1 = nI B) {n_ : Int32} (hx : ¬ okB B n_) {k_ : Int32} : Mx g yX9_units cX9_units 4 (some .int) 8 1 6 [.ref x, .int n_, .int k_] X T I No (Th (exc 2) X T I) := by
  have hd := hcl.2.1
  have hB6 := hV.hB
  have hN10 := hV.hN
  have hE20 := hV.hE
  refine Mx.of (by decide) (Nat.le_of_ble_eq_true rfl) (fun k hfl hxt C => ?_)
  refine r_lo (lo' := [(0, _), (1, _), (2, _)]) rfl ?_
  refine r_aload_n (pc := 0) C 0 dX9_units_0 rfl rfl ?_
  refine r_iload_n (pc := 1) C 1 dX9_units_1 rfl rfl ?_
  refine r_xV (pc := 2) C hfl hxt k_X9_170 (q_requireBorrower__x hcl hV hB hx) (fun _ _ _ _ h => h) hcl.1 ca_X9 rfl rfl (Nat.le_of_ble_eq_true rfl) (by decide) (by decide) dX9_units_2 (fun r2 X2 T2 I2 h2 => ?_)
  exact h2.elim

set_option maxHeartbeats 1000000 in
theorem q_units__xk {g : GG} {X : va_W} {T : TT} {I : II} {x : Nat} (hcl : isCl T x) {w : Nat → Int32} {B N E : Nat} {pm : Nat → Nat} (hV : DV I (x + 1) w B N E pm) (hB : w 1 = nI B) {n : Nat} (n1 : n < B) {k_ : Int32} (hk : ¬ okK k_) : Mx g yX9_units cX9_units 4 (some .int) 8 1 6 [.ref x, .int (nI n), .int k_] X T I No (Th (exc 2) X T I) := by
  have hd := hcl.2.1
  have hB6 := hV.hB
  have hN10 := hV.hN
  have hE20 := hV.hE
  refine Mx.of (by decide) (Nat.le_of_ble_eq_true rfl) (fun k hfl hxt C => ?_)
  refine r_lo (lo' := [(0, _), (1, _), (2, _)]) rfl ?_
  refine r_aload_n (pc := 0) C 0 dX9_units_0 rfl rfl ?_
  refine r_iload_n (pc := 1) C 1 dX9_units_1 rfl rfl ?_
  refine r_xV (pc := 2) C hfl hxt k_X9_170 (q_requireBorrower__v hcl hV hB n1) (fun _ _ _ _ h => h.elim) hcl.1 ca_X9 rfl rfl (Nat.le_of_ble_eq_true rfl) (by decide) (by decide) dX9_units_2 (fun r2 X2 T2 I2 h2 => ?_)
  obtain ⟨rfl, rfl, rfl, rfl⟩ := h2
  refine r_st (st' := .ref _ :: _) rfl ?_
  refine r_astore_n (pc := 5) (lo' := [(3, _), (0, _), (1, _), (2, _)]) C dX9_units_5 rfl (by decide) rfl ?_
  refine r_iload_n (pc := 6) C 3 dX9_units_6 rfl rfl ?_
  refine r_xS (pc := 7) C hfl hxt k_X9_153 (q_requireKind__x hk) (fun _ _ _ _ h => h) rfl rfl (Nat.le_of_ble_eq_true rfl) (by decide) (by decide) dX9_units_7 (fun r2 X2 T2 I2 h2 => ?_)
  exact h2.elim

set_option maxHeartbeats 1000000 in
theorem q_pledgedUnits__v {g : GG} {X : va_W} {T : TT} {I : II} {x : Nat} (hcl : isCl T x) {w : Nat → Int32} {B N E : Nat} {pm : Nat → Nat} (hV : DV I (x + 1) w B N E pm) (hN : w 2 = nI N) (hB : w 1 = nI B) {n : Nat} (n1 : n < B) {m : Nat} (m1 : m < 4) : Mx g yX9_pledgedUnits cX9_pledgedUnits 3 (some .int) 8 0 0 [.ref x, .int (nI n), .int (nI m)] X T I (Ex (some (.int (pledV w N (nI n) m))) X T I) NoX := by
  have hd := hcl.2.1
  have hB6 := hV.hB
  have hN10 := hV.hN
  have hE20 := hV.hE
  refine Mx.of (by decide) (Nat.le_of_ble_eq_true rfl) (fun k hfl hxt C => ?_)
  refine r_lo (lo' := [(0, _), (1, _), (2, _)]) rfl ?_
  refine r_aload_n (pc := 0) C 0 dX9_pledgedUnits_0 rfl rfl ?_
  refine r_iload_n (pc := 1) C 1 dX9_pledgedUnits_1 rfl rfl ?_
  refine r_xV (pc := 2) C hfl hxt k_X9_170 (q_requireBorrower__v hcl hV hB n1) (fun _ _ _ _ h => h.elim) hcl.1 ca_X9 rfl rfl (Nat.le_of_ble_eq_true rfl) (by decide) (by decide) dX9_pledgedUnits_2 (fun r2 X2 T2 I2 h2 => ?_)
  obtain ⟨rfl, rfl, rfl, rfl⟩ := h2
  refine r_st (st' := .ref _ :: _) rfl ?_
  refine r_pop (pc := 5) C dX9_pledgedUnits_5 rfl ?_
  refine r_iload_n (pc := 6) C 2 dX9_pledgedUnits_6 rfl rfl ?_
  refine r_xS (pc := 7) C hfl hxt k_X9_153 (q_requireKind__v m1) (fun _ _ _ _ h => h.elim) rfl rfl (Nat.le_of_ble_eq_true rfl) (by decide) (by decide) dX9_pledgedUnits_7 (fun r2 X2 T2 I2 h2 => ?_)
  obtain ⟨rfl, rfl, rfl, rfl⟩ := h2
  refine r_aload_n (pc := 10) C 0 dX9_pledgedUnits_10 rfl rfl ?_
  refine r_getR (pc := 11) (x := x + 1) C f_X9_10 hcl.1 rfl rfl dX9_pledgedUnits_11 ?_
  refine r_iload_n (pc := 14) C 1 dX9_pledgedUnits_14 rfl rfl ?_
  refine r_iload_n (pc := 15) C 2 dX9_pledgedUnits_15 rfl rfl ?_
  refine r_cVi (pc := 16) C hfl k_X9_182 (c_X3_pledgedBy hd hV m1 hN) ((Dk_0 hd)) ca_X3 rfl rfl (Nat.le_of_ble_eq_true rfl) (by decide) (by decide) dX9_pledgedUnits_16 ?_
  refine r_xret ?_
  exact r_iret (pc := 19) C dX9_pledgedUnits_19 ⟨rfl, rfl, rfl, rfl⟩ (by decide)

set_option maxHeartbeats 1000000 in
theorem q_pledgedUnits__xb {g : GG} {X : va_W} {T : TT} {I : II} {x : Nat} (hcl : isCl T x) {w : Nat → Int32} {B N E : Nat} {pm : Nat → Nat} (hV : DV I (x + 1) w B N E pm) (hB : w 1 = nI B) {n_ : Int32} (hx : ¬ okB B n_) {k_ : Int32} : Mx g yX9_pledgedUnits cX9_pledgedUnits 3 (some .int) 8 1 6 [.ref x, .int n_, .int k_] X T I No (Th (exc 2) X T I) := by
  have hd := hcl.2.1
  have hB6 := hV.hB
  have hN10 := hV.hN
  have hE20 := hV.hE
  refine Mx.of (by decide) (Nat.le_of_ble_eq_true rfl) (fun k hfl hxt C => ?_)
  refine r_lo (lo' := [(0, _), (1, _), (2, _)]) rfl ?_
  refine r_aload_n (pc := 0) C 0 dX9_pledgedUnits_0 rfl rfl ?_
  refine r_iload_n (pc := 1) C 1 dX9_pledgedUnits_1 rfl rfl ?_
  refine r_xV (pc := 2) C hfl hxt k_X9_170 (q_requireBorrower__x hcl hV hB hx) (fun _ _ _ _ h => h) hcl.1 ca_X9 rfl rfl (Nat.le_of_ble_eq_true rfl) (by decide) (by decide) dX9_pledgedUnits_2 (fun r2 X2 T2 I2 h2 => ?_)
  exact h2.elim

set_option maxHeartbeats 1000000 in
theorem q_pledgedUnits__xk {g : GG} {X : va_W} {T : TT} {I : II} {x : Nat} (hcl : isCl T x) {w : Nat → Int32} {B N E : Nat} {pm : Nat → Nat} (hV : DV I (x + 1) w B N E pm) (hB : w 1 = nI B) {n : Nat} (n1 : n < B) {k_ : Int32} (hk : ¬ okK k_) : Mx g yX9_pledgedUnits cX9_pledgedUnits 3 (some .int) 8 1 6 [.ref x, .int (nI n), .int k_] X T I No (Th (exc 2) X T I) := by
  have hd := hcl.2.1
  have hB6 := hV.hB
  have hN10 := hV.hN
  have hE20 := hV.hE
  refine Mx.of (by decide) (Nat.le_of_ble_eq_true rfl) (fun k hfl hxt C => ?_)
  refine r_lo (lo' := [(0, _), (1, _), (2, _)]) rfl ?_
  refine r_aload_n (pc := 0) C 0 dX9_pledgedUnits_0 rfl rfl ?_
  refine r_iload_n (pc := 1) C 1 dX9_pledgedUnits_1 rfl rfl ?_
  refine r_xV (pc := 2) C hfl hxt k_X9_170 (q_requireBorrower__v hcl hV hB n1) (fun _ _ _ _ h => h.elim) hcl.1 ca_X9 rfl rfl (Nat.le_of_ble_eq_true rfl) (by decide) (by decide) dX9_pledgedUnits_2 (fun r2 X2 T2 I2 h2 => ?_)
  obtain ⟨rfl, rfl, rfl, rfl⟩ := h2
  refine r_st (st' := .ref _ :: _) rfl ?_
  refine r_pop (pc := 5) C dX9_pledgedUnits_5 rfl ?_
  refine r_iload_n (pc := 6) C 2 dX9_pledgedUnits_6 rfl rfl ?_
  refine r_xS (pc := 7) C hfl hxt k_X9_153 (q_requireKind__x hk) (fun _ _ _ _ h => h) rfl rfl (Nat.le_of_ble_eq_true rfl) (by decide) (by decide) dX9_pledgedUnits_7 (fun r2 X2 T2 I2 h2 => ?_)
  exact h2.elim

set_option maxHeartbeats 1000000 in
theorem q_borrowerOf__s {g : GG} {X : va_W} {T : TT} {I : II} {x : Nat} (hcl : isCl T x) {w : Nat → Int32} {B N E : Nat} {pm : Nat → Nat} (hV : DV I (x + 1) w B N E pm) (hN : w 2 = nI N) {id : Int32} {s : Nat} (hs : s < N) (hr : atS w N id (nI s)) : Mx g yX9_borrowerOf cX9_borrowerOf 2 (some .int) 8 0 0 [.ref x, .int id] X T I (Ex (some (.int (w (58 + 10 * s + 1)))) X T I) NoX := by
  have hd := hcl.2.1
  have hB6 := hV.hB
  have hN10 := hV.hN
  have hE20 := hV.hE
  refine Mx.of (by decide) (Nat.le_of_ble_eq_true rfl) (fun k hfl hxt C => ?_)
  refine r_lo (lo' := [(0, _), (1, _)]) rfl ?_
  refine r_aload_n (pc := 0) C 0 dX9_borrowerOf_0 rfl rfl ?_
  refine r_iload_n (pc := 1) C 1 dX9_borrowerOf_1 rfl rfl ?_
  refine r_xV (pc := 2) C hfl hxt k_X9_218 (q_requireLoan__s hcl hV hN hs hr) (fun _ _ _ _ h => h.elim) hcl.1 ca_X9 rfl rfl (Nat.le_of_ble_eq_true rfl) (by decide) (by decide) dX9_borrowerOf_2 (fun r2 X2 T2 I2 h2 => ?_)
  obtain ⟨rfl, rfl, rfl, rfl⟩ := h2
  refine r_st (st' := .ref _ :: _) rfl ?_
  refine r_getI (pc := 5) C f_X9_221 ((Dk_l hd (hV.l (by omega)))) rfl dX9_borrowerOf_5 ?_
  refine r_t (hV.get (at_loan (i := 1) hs (by decide))) ?_
  refine r_xret ?_
  exact r_iret (pc := 8) C dX9_borrowerOf_8 ⟨rfl, rfl, rfl, rfl⟩ (by decide)

set_option maxHeartbeats 1000000 in
theorem q_borrowerOf__n {g : GG} {X : va_W} {T : TT} {I : II} {x : Nat} (hcl : isCl T x) {w : Nat → Int32} {B N E : Nat} {pm : Nat → Nat} (hV : DV I (x + 1) w B N E pm) (hN : w 2 = nI N) {id : Int32} (hr : atS w N id (-1)) : Mx g yX9_borrowerOf cX9_borrowerOf 2 (some .int) 8 1 6 [.ref x, .int id] X T I No (Th (exc 1) X T I) := by
  have hd := hcl.2.1
  have hB6 := hV.hB
  have hN10 := hV.hN
  have hE20 := hV.hE
  refine Mx.of (by decide) (Nat.le_of_ble_eq_true rfl) (fun k hfl hxt C => ?_)
  refine r_lo (lo' := [(0, _), (1, _)]) rfl ?_
  refine r_aload_n (pc := 0) C 0 dX9_borrowerOf_0 rfl rfl ?_
  refine r_iload_n (pc := 1) C 1 dX9_borrowerOf_1 rfl rfl ?_
  refine r_xV (pc := 2) C hfl hxt k_X9_218 (q_requireLoan__n hcl hV hN hr) (fun _ _ _ _ h => h) hcl.1 ca_X9 rfl rfl (Nat.le_of_ble_eq_true rfl) (by decide) (by decide) dX9_borrowerOf_2 (fun r2 X2 T2 I2 h2 => ?_)
  exact h2.elim

set_option maxHeartbeats 1000000 in
theorem q_principal__s {g : GG} {X : va_W} {T : TT} {I : II} {x : Nat} (hcl : isCl T x) {w : Nat → Int32} {B N E : Nat} {pm : Nat → Nat} (hV : DV I (x + 1) w B N E pm) (hN : w 2 = nI N) {id : Int32} {s : Nat} (hs : s < N) (hr : atS w N id (nI s)) : Mx g yX9_principal cX9_principal 2 (some .int) 8 0 0 [.ref x, .int id] X T I (Ex (some (.int (w (58 + 10 * s + 2)))) X T I) NoX := by
  have hd := hcl.2.1
  have hB6 := hV.hB
  have hN10 := hV.hN
  have hE20 := hV.hE
  refine Mx.of (by decide) (Nat.le_of_ble_eq_true rfl) (fun k hfl hxt C => ?_)
  refine r_lo (lo' := [(0, _), (1, _)]) rfl ?_
  refine r_aload_n (pc := 0) C 0 dX9_principal_0 rfl rfl ?_
  refine r_iload_n (pc := 1) C 1 dX9_principal_1 rfl rfl ?_
  refine r_xV (pc := 2) C hfl hxt k_X9_218 (q_requireLoan__s hcl hV hN hs hr) (fun _ _ _ _ h => h.elim) hcl.1 ca_X9 rfl rfl (Nat.le_of_ble_eq_true rfl) (by decide) (by decide) dX9_principal_2 (fun r2 X2 T2 I2 h2 => ?_)
  obtain ⟨rfl, rfl, rfl, rfl⟩ := h2
  refine r_st (st' := .ref _ :: _) rfl ?_
  refine r_getI (pc := 5) C f_X9_224 ((Dk_l hd (hV.l (by omega)))) rfl dX9_principal_5 ?_
  refine r_t (hV.get (at_loan (i := 2) hs (by decide))) ?_
  refine r_xret ?_
  exact r_iret (pc := 8) C dX9_principal_8 ⟨rfl, rfl, rfl, rfl⟩ (by decide)

set_option maxHeartbeats 1000000 in
theorem q_principal__n {g : GG} {X : va_W} {T : TT} {I : II} {x : Nat} (hcl : isCl T x) {w : Nat → Int32} {B N E : Nat} {pm : Nat → Nat} (hV : DV I (x + 1) w B N E pm) (hN : w 2 = nI N) {id : Int32} (hr : atS w N id (-1)) : Mx g yX9_principal cX9_principal 2 (some .int) 8 1 6 [.ref x, .int id] X T I No (Th (exc 1) X T I) := by
  have hd := hcl.2.1
  have hB6 := hV.hB
  have hN10 := hV.hN
  have hE20 := hV.hE
  refine Mx.of (by decide) (Nat.le_of_ble_eq_true rfl) (fun k hfl hxt C => ?_)
  refine r_lo (lo' := [(0, _), (1, _)]) rfl ?_
  refine r_aload_n (pc := 0) C 0 dX9_principal_0 rfl rfl ?_
  refine r_iload_n (pc := 1) C 1 dX9_principal_1 rfl rfl ?_
  refine r_xV (pc := 2) C hfl hxt k_X9_218 (q_requireLoan__n hcl hV hN hr) (fun _ _ _ _ h => h) hcl.1 ca_X9 rfl rfl (Nat.le_of_ble_eq_true rfl) (by decide) (by decide) dX9_principal_2 (fun r2 X2 T2 I2 h2 => ?_)
  exact h2.elim

set_option maxHeartbeats 1000000 in
theorem q_interest__s {g : GG} {X : va_W} {T : TT} {I : II} {x : Nat} (hcl : isCl T x) {w : Nat → Int32} {B N E : Nat} {pm : Nat → Nat} (hV : DV I (x + 1) w B N E pm) (hN : w 2 = nI N) {id : Int32} {s : Nat} (hs : s < N) (hr : atS w N id (nI s)) : Mx g yX9_interest cX9_interest 2 (some .int) 8 0 0 [.ref x, .int id] X T I (Ex (some (.int (w (58 + 10 * s + 3)))) X T I) NoX := by
  have hd := hcl.2.1
  have hB6 := hV.hB
  have hN10 := hV.hN
  have hE20 := hV.hE
  refine Mx.of (by decide) (Nat.le_of_ble_eq_true rfl) (fun k hfl hxt C => ?_)
  refine r_lo (lo' := [(0, _), (1, _)]) rfl ?_
  refine r_aload_n (pc := 0) C 0 dX9_interest_0 rfl rfl ?_
  refine r_iload_n (pc := 1) C 1 dX9_interest_1 rfl rfl ?_
  refine r_xV (pc := 2) C hfl hxt k_X9_218 (q_requireLoan__s hcl hV hN hs hr) (fun _ _ _ _ h => h.elim) hcl.1 ca_X9 rfl rfl (Nat.le_of_ble_eq_true rfl) (by decide) (by decide) dX9_interest_2 (fun r2 X2 T2 I2 h2 => ?_)
  obtain ⟨rfl, rfl, rfl, rfl⟩ := h2
  refine r_st (st' := .ref _ :: _) rfl ?_
  refine r_getI (pc := 5) C f_X9_227 ((Dk_l hd (hV.l (by omega)))) rfl dX9_interest_5 ?_
  refine r_t (hV.get (at_loan (i := 3) hs (by decide))) ?_
  refine r_xret ?_
  exact r_iret (pc := 8) C dX9_interest_8 ⟨rfl, rfl, rfl, rfl⟩ (by decide)

set_option maxHeartbeats 1000000 in
theorem q_interest__n {g : GG} {X : va_W} {T : TT} {I : II} {x : Nat} (hcl : isCl T x) {w : Nat → Int32} {B N E : Nat} {pm : Nat → Nat} (hV : DV I (x + 1) w B N E pm) (hN : w 2 = nI N) {id : Int32} (hr : atS w N id (-1)) : Mx g yX9_interest cX9_interest 2 (some .int) 8 1 6 [.ref x, .int id] X T I No (Th (exc 1) X T I) := by
  have hd := hcl.2.1
  have hB6 := hV.hB
  have hN10 := hV.hN
  have hE20 := hV.hE
  refine Mx.of (by decide) (Nat.le_of_ble_eq_true rfl) (fun k hfl hxt C => ?_)
  refine r_lo (lo' := [(0, _), (1, _)]) rfl ?_
  refine r_aload_n (pc := 0) C 0 dX9_interest_0 rfl rfl ?_
  refine r_iload_n (pc := 1) C 1 dX9_interest_1 rfl rfl ?_
  refine r_xV (pc := 2) C hfl hxt k_X9_218 (q_requireLoan__n hcl hV hN hr) (fun _ _ _ _ h => h) hcl.1 ca_X9 rfl rfl (Nat.le_of_ble_eq_true rfl) (by decide) (by decide) dX9_interest_2 (fun r2 X2 T2 I2 h2 => ?_)
  exact h2.elim

set_option maxHeartbeats 1000000 in
theorem q_rate__s {g : GG} {X : va_W} {T : TT} {I : II} {x : Nat} (hcl : isCl T x) {w : Nat → Int32} {B N E : Nat} {pm : Nat → Nat} (hV : DV I (x + 1) w B N E pm) (hN : w 2 = nI N) {id : Int32} {s : Nat} (hs : s < N) (hr : atS w N id (nI s)) : Mx g yX9_rate cX9_rate 2 (some .int) 8 0 0 [.ref x, .int id] X T I (Ex (some (.int (w (58 + 10 * s + 4)))) X T I) NoX := by
  have hd := hcl.2.1
  have hB6 := hV.hB
  have hN10 := hV.hN
  have hE20 := hV.hE
  refine Mx.of (by decide) (Nat.le_of_ble_eq_true rfl) (fun k hfl hxt C => ?_)
  refine r_lo (lo' := [(0, _), (1, _)]) rfl ?_
  refine r_aload_n (pc := 0) C 0 dX9_rate_0 rfl rfl ?_
  refine r_iload_n (pc := 1) C 1 dX9_rate_1 rfl rfl ?_
  refine r_xV (pc := 2) C hfl hxt k_X9_218 (q_requireLoan__s hcl hV hN hs hr) (fun _ _ _ _ h => h.elim) hcl.1 ca_X9 rfl rfl (Nat.le_of_ble_eq_true rfl) (by decide) (by decide) dX9_rate_2 (fun r2 X2 T2 I2 h2 => ?_)
  obtain ⟨rfl, rfl, rfl, rfl⟩ := h2
  refine r_st (st' := .ref _ :: _) rfl ?_
  refine r_getI (pc := 5) C f_X9_234 ((Dk_l hd (hV.l (by omega)))) rfl dX9_rate_5 ?_
  refine r_t (hV.get (at_loan (i := 4) hs (by decide))) ?_
  refine r_xret ?_
  exact r_iret (pc := 8) C dX9_rate_8 ⟨rfl, rfl, rfl, rfl⟩ (by decide)

set_option maxHeartbeats 1000000 in
theorem q_rate__n {g : GG} {X : va_W} {T : TT} {I : II} {x : Nat} (hcl : isCl T x) {w : Nat → Int32} {B N E : Nat} {pm : Nat → Nat} (hV : DV I (x + 1) w B N E pm) (hN : w 2 = nI N) {id : Int32} (hr : atS w N id (-1)) : Mx g yX9_rate cX9_rate 2 (some .int) 8 1 6 [.ref x, .int id] X T I No (Th (exc 1) X T I) := by
  have hd := hcl.2.1
  have hB6 := hV.hB
  have hN10 := hV.hN
  have hE20 := hV.hE
  refine Mx.of (by decide) (Nat.le_of_ble_eq_true rfl) (fun k hfl hxt C => ?_)
  refine r_lo (lo' := [(0, _), (1, _)]) rfl ?_
  refine r_aload_n (pc := 0) C 0 dX9_rate_0 rfl rfl ?_
  refine r_iload_n (pc := 1) C 1 dX9_rate_1 rfl rfl ?_
  refine r_xV (pc := 2) C hfl hxt k_X9_218 (q_requireLoan__n hcl hV hN hr) (fun _ _ _ _ h => h) hcl.1 ca_X9 rfl rfl (Nat.le_of_ble_eq_true rfl) (by decide) (by decide) dX9_rate_2 (fun r2 X2 T2 I2 h2 => ?_)
  exact h2.elim

set_option maxHeartbeats 1000000 in
theorem q_dueDay__s {g : GG} {X : va_W} {T : TT} {I : II} {x : Nat} (hcl : isCl T x) {w : Nat → Int32} {B N E : Nat} {pm : Nat → Nat} (hV : DV I (x + 1) w B N E pm) (hN : w 2 = nI N) {id : Int32} {s : Nat} (hs : s < N) (hr : atS w N id (nI s)) : Mx g yX9_dueDay cX9_dueDay 2 (some .int) 8 0 0 [.ref x, .int id] X T I (Ex (some (.int (w (58 + 10 * s + 5)))) X T I) NoX := by
  have hd := hcl.2.1
  have hB6 := hV.hB
  have hN10 := hV.hN
  have hE20 := hV.hE
  refine Mx.of (by decide) (Nat.le_of_ble_eq_true rfl) (fun k hfl hxt C => ?_)
  refine r_lo (lo' := [(0, _), (1, _)]) rfl ?_
  refine r_aload_n (pc := 0) C 0 dX9_dueDay_0 rfl rfl ?_
  refine r_iload_n (pc := 1) C 1 dX9_dueDay_1 rfl rfl ?_
  refine r_xV (pc := 2) C hfl hxt k_X9_218 (q_requireLoan__s hcl hV hN hs hr) (fun _ _ _ _ h => h.elim) hcl.1 ca_X9 rfl rfl (Nat.le_of_ble_eq_true rfl) (by decide) (by decide) dX9_dueDay_2 (fun r2 X2 T2 I2 h2 => ?_)
  obtain ⟨rfl, rfl, rfl, rfl⟩ := h2
  refine r_st (st' := .ref _ :: _) rfl ?_
  refine r_getI (pc := 5) C f_X9_237 ((Dk_l hd (hV.l (by omega)))) rfl dX9_dueDay_5 ?_
  refine r_t (hV.get (at_loan (i := 5) hs (by decide))) ?_
  refine r_xret ?_
  exact r_iret (pc := 8) C dX9_dueDay_8 ⟨rfl, rfl, rfl, rfl⟩ (by decide)

set_option maxHeartbeats 1000000 in
theorem q_dueDay__n {g : GG} {X : va_W} {T : TT} {I : II} {x : Nat} (hcl : isCl T x) {w : Nat → Int32} {B N E : Nat} {pm : Nat → Nat} (hV : DV I (x + 1) w B N E pm) (hN : w 2 = nI N) {id : Int32} (hr : atS w N id (-1)) : Mx g yX9_dueDay cX9_dueDay 2 (some .int) 8 1 6 [.ref x, .int id] X T I No (Th (exc 1) X T I) := by
  have hd := hcl.2.1
  have hB6 := hV.hB
  have hN10 := hV.hN
  have hE20 := hV.hE
  refine Mx.of (by decide) (Nat.le_of_ble_eq_true rfl) (fun k hfl hxt C => ?_)
  refine r_lo (lo' := [(0, _), (1, _)]) rfl ?_
  refine r_aload_n (pc := 0) C 0 dX9_dueDay_0 rfl rfl ?_
  refine r_iload_n (pc := 1) C 1 dX9_dueDay_1 rfl rfl ?_
  refine r_xV (pc := 2) C hfl hxt k_X9_218 (q_requireLoan__n hcl hV hN hr) (fun _ _ _ _ h => h) hcl.1 ca_X9 rfl rfl (Nat.le_of_ble_eq_true rfl) (by decide) (by decide) dX9_dueDay_2 (fun r2 X2 T2 I2 h2 => ?_)
  exact h2.elim

set_option maxHeartbeats 1000000 in
theorem q_debt__s {g : GG} {X : va_W} {T : TT} {I : II} {x : Nat} (hcl : isCl T x) {w : Nat → Int32} {B N E : Nat} {pm : Nat → Nat} (hV : DV I (x + 1) w B N E pm) (hN : w 2 = nI N) {id : Int32} {s : Nat} (hs : s < N) (hr : atS w N id (nI s)) : Mx g yX9_debt cX9_debt 2 (some .int) 8 0 0 [.ref x, .int id] X T I (Ex (some (.int (debtV w s))) X T I) NoX := by
  have hd := hcl.2.1
  have hB6 := hV.hB
  have hN10 := hV.hN
  have hE20 := hV.hE
  refine Mx.of (by decide) (Nat.le_of_ble_eq_true rfl) (fun k hfl hxt C => ?_)
  refine r_lo (lo' := [(0, _), (1, _)]) rfl ?_
  refine r_aload_n (pc := 0) C 0 dX9_debt_0 rfl rfl ?_
  refine r_iload_n (pc := 1) C 1 dX9_debt_1 rfl rfl ?_
  refine r_xV (pc := 2) C hfl hxt k_X9_218 (q_requireLoan__s hcl hV hN hs hr) (fun _ _ _ _ h => h.elim) hcl.1 ca_X9 rfl rfl (Nat.le_of_ble_eq_true rfl) (by decide) (by decide) dX9_debt_2 (fun r2 X2 T2 I2 h2 => ?_)
  obtain ⟨rfl, rfl, rfl, rfl⟩ := h2
  refine r_st (st' := .ref _ :: _) rfl ?_
  refine r_cVi (pc := 5) C hfl k_X9_230 (c_X7_owed hd hV hs) ((Dk_l hd (hV.l (by omega)))) ca_X7 rfl rfl (Nat.le_of_ble_eq_true rfl) (by decide) (by decide) dX9_debt_5 ?_
  refine r_xret ?_
  exact r_iret (pc := 8) C dX9_debt_8 ⟨rfl, rfl, rfl, rfl⟩ (by decide)

set_option maxHeartbeats 1000000 in
theorem q_debt__n {g : GG} {X : va_W} {T : TT} {I : II} {x : Nat} (hcl : isCl T x) {w : Nat → Int32} {B N E : Nat} {pm : Nat → Nat} (hV : DV I (x + 1) w B N E pm) (hN : w 2 = nI N) {id : Int32} (hr : atS w N id (-1)) : Mx g yX9_debt cX9_debt 2 (some .int) 8 1 6 [.ref x, .int id] X T I No (Th (exc 1) X T I) := by
  have hd := hcl.2.1
  have hB6 := hV.hB
  have hN10 := hV.hN
  have hE20 := hV.hE
  refine Mx.of (by decide) (Nat.le_of_ble_eq_true rfl) (fun k hfl hxt C => ?_)
  refine r_lo (lo' := [(0, _), (1, _)]) rfl ?_
  refine r_aload_n (pc := 0) C 0 dX9_debt_0 rfl rfl ?_
  refine r_iload_n (pc := 1) C 1 dX9_debt_1 rfl rfl ?_
  refine r_xV (pc := 2) C hfl hxt k_X9_218 (q_requireLoan__n hcl hV hN hr) (fun _ _ _ _ h => h) hcl.1 ca_X9 rfl rfl (Nat.le_of_ble_eq_true rfl) (by decide) (by decide) dX9_debt_2 (fun r2 X2 T2 I2 h2 => ?_)
  exact h2.elim

set_option maxHeartbeats 1000000 in
theorem q_collateralValue__s {g : GG} {X : va_W} {T : TT} {I : II} {x : Nat} (hcl : isCl T x) {w : Nat → Int32} {B N E : Nat} {pm : Nat → Nat} (hV : DV I (x + 1) w B N E pm) (hN : w 2 = nI N) {id : Int32} {s : Nat} (hs : s < N) (hr : atS w N id (nI s)) : Mx g yX9_collateralValue cX9_collateralValue 2 (some .int) 8 0 0 [.ref x, .int id] X T I (Ex (some (.int (valV w s))) X T I) NoX := by
  have hd := hcl.2.1
  have hB6 := hV.hB
  have hN10 := hV.hN
  have hE20 := hV.hE
  refine Mx.of (by decide) (Nat.le_of_ble_eq_true rfl) (fun k hfl hxt C => ?_)
  refine r_lo (lo' := [(0, _), (1, _)]) rfl ?_
  refine r_aload_n (pc := 0) C 0 dX9_collateralValue_0 rfl rfl ?_
  refine r_getR (pc := 1) (x := x + 1) C f_X9_10 hcl.1 rfl rfl dX9_collateralValue_1 ?_
  refine r_aload_n (pc := 4) C 0 dX9_collateralValue_4 rfl rfl ?_
  refine r_iload_n (pc := 5) C 1 dX9_collateralValue_5 rfl rfl ?_
  refine r_xV (pc := 6) C hfl hxt k_X9_218 (q_requireLoan__s hcl hV hN hs hr) (fun _ _ _ _ h => h.elim) hcl.1 ca_X9 rfl rfl (Nat.le_of_ble_eq_true rfl) (by decide) (by decide) dX9_collateralValue_6 (fun r2 X2 T2 I2 h2 => ?_)
  obtain ⟨rfl, rfl, rfl, rfl⟩ := h2
  refine r_st (st' := .ref _ :: _) rfl ?_
  refine r_getR (pc := 9) (x := x + 1 + 5 + 17 + 2 * pm s + 1) C f_X9_240 ((Dk_l hd (hV.l (by omega)))) rfl rfl dX9_collateralValue_9 ?_
  refine r_cVi (pc := 12) C hfl k_X9_243 (c_X3_valueOf hd hV ((Dk_p hd (hV.l (by omega))))) ((Dk_0 hd)) ca_X3 rfl rfl (Nat.le_of_ble_eq_true rfl) (by decide) (by decide) dX9_collateralValue_12 ?_
  refine r_t (hV.val hs) ?_
  refine r_xret ?_
  exact r_iret (pc := 15) C dX9_collateralValue_15 ⟨rfl, rfl, rfl, rfl⟩ (by decide)

set_option maxHeartbeats 1000000 in
theorem q_collateralValue__n {g : GG} {X : va_W} {T : TT} {I : II} {x : Nat} (hcl : isCl T x) {w : Nat → Int32} {B N E : Nat} {pm : Nat → Nat} (hV : DV I (x + 1) w B N E pm) (hN : w 2 = nI N) {id : Int32} (hr : atS w N id (-1)) : Mx g yX9_collateralValue cX9_collateralValue 2 (some .int) 8 1 6 [.ref x, .int id] X T I No (Th (exc 1) X T I) := by
  have hd := hcl.2.1
  have hB6 := hV.hB
  have hN10 := hV.hN
  have hE20 := hV.hE
  refine Mx.of (by decide) (Nat.le_of_ble_eq_true rfl) (fun k hfl hxt C => ?_)
  refine r_lo (lo' := [(0, _), (1, _)]) rfl ?_
  refine r_aload_n (pc := 0) C 0 dX9_collateralValue_0 rfl rfl ?_
  refine r_getR (pc := 1) (x := x + 1) C f_X9_10 hcl.1 rfl rfl dX9_collateralValue_1 ?_
  refine r_aload_n (pc := 4) C 0 dX9_collateralValue_4 rfl rfl ?_
  refine r_iload_n (pc := 5) C 1 dX9_collateralValue_5 rfl rfl ?_
  refine r_xV (pc := 6) C hfl hxt k_X9_218 (q_requireLoan__n hcl hV hN hr) (fun _ _ _ _ h => h) hcl.1 ca_X9 rfl rfl (Nat.le_of_ble_eq_true rfl) (by decide) (by decide) dX9_collateralValue_6 (fun r2 X2 T2 I2 h2 => ?_)
  exact h2.elim

set_option maxHeartbeats 1000000 in
theorem q_isCovered__s {g : GG} {X : va_W} {T : TT} {I : II} {x : Nat} (hcl : isCl T x) {w : Nat → Int32} {B N E : Nat} {pm : Nat → Nat} (hV : DV I (x + 1) w B N E pm) (hN : w 2 = nI N) {id : Int32} {s : Nat} (hs : s < N) (hr : atS w N id (nI s)) : Mx g yX9_isCovered cX9_isCovered 3 (some .boolean) 8 0 0 [.ref x, .int id] X T I (Ex (some (.int (bI (nI 3 * debtV w s ≤ nI 2 * valV w s)))) X T I) NoX := by
  have hd := hcl.2.1
  have hB6 := hV.hB
  have hN10 := hV.hN
  have hE20 := hV.hE
  refine Mx.of (by decide) (Nat.le_of_ble_eq_true rfl) (fun k hfl hxt C => ?_)
  refine r_lo (lo' := [(0, _), (1, _)]) rfl ?_
  refine r_aload_n (pc := 0) C 0 dX9_isCovered_0 rfl rfl ?_
  refine r_iload_n (pc := 1) C 1 dX9_isCovered_1 rfl rfl ?_
  refine r_xV (pc := 2) C hfl hxt k_X9_218 (q_requireLoan__s hcl hV hN hs hr) (fun _ _ _ _ h => h.elim) hcl.1 ca_X9 rfl rfl (Nat.le_of_ble_eq_true rfl) (by decide) (by decide) dX9_isCovered_2 (fun r2 X2 T2 I2 h2 => ?_)
  obtain ⟨rfl, rfl, rfl, rfl⟩ := h2
  refine r_st (st' := .ref _ :: _) rfl ?_
  refine r_astore_n (pc := 5) (lo' := [(2, _), (0, _), (1, _)]) C dX9_isCovered_5 rfl (by decide) rfl ?_
  refine r_aload_n (pc := 6) C 0 dX9_isCovered_6 rfl rfl ?_
  refine r_cVi (pc := 7) C hfl k_X9_230 (c_X7_owed hd hV hs) ((Dk_l hd (hV.l (by omega)))) ca_X7 rfl rfl (Nat.le_of_ble_eq_true rfl) (by decide) (by decide) dX9_isCovered_7 ?_
  refine r_aload_n (pc := 10) C 1 dX9_isCovered_10 rfl rfl ?_
  refine r_getR (pc := 11) (x := x + 1) C f_X9_10 hcl.1 rfl rfl dX9_isCovered_11 ?_
  refine r_aload_n (pc := 14) C 0 dX9_isCovered_14 rfl rfl ?_
  refine r_getR (pc := 15) (x := x + 1 + 5 + 17 + 2 * pm s + 1) C f_X9_240 ((Dk_l hd (hV.l (by omega)))) rfl rfl dX9_isCovered_15 ?_
  refine r_cVi (pc := 18) C hfl k_X9_243 (c_X3_valueOf hd hV ((Dk_p hd (hV.l (by omega))))) ((Dk_0 hd)) ca_X3 rfl rfl (Nat.le_of_ble_eq_true rfl) (by decide) (by decide) dX9_isCovered_18 ?_
  refine r_t (hV.val hs) ?_
  refine r_cSi (pc := 21) C hfl k_X9_247 c_X9_covers rfl rfl (Nat.le_of_ble_eq_true rfl) (by decide) (by decide) dX9_isCovered_21 ?_
  refine r_xret ?_
  exact r_zret (pc := 24) C bI_n dX9_isCovered_24 ⟨rfl, rfl, rfl, rfl⟩ (by decide)

set_option maxHeartbeats 1000000 in
theorem q_isCovered__n {g : GG} {X : va_W} {T : TT} {I : II} {x : Nat} (hcl : isCl T x) {w : Nat → Int32} {B N E : Nat} {pm : Nat → Nat} (hV : DV I (x + 1) w B N E pm) (hN : w 2 = nI N) {id : Int32} (hr : atS w N id (-1)) : Mx g yX9_isCovered cX9_isCovered 3 (some .boolean) 8 1 6 [.ref x, .int id] X T I No (Th (exc 1) X T I) := by
  have hd := hcl.2.1
  have hB6 := hV.hB
  have hN10 := hV.hN
  have hE20 := hV.hE
  refine Mx.of (by decide) (Nat.le_of_ble_eq_true rfl) (fun k hfl hxt C => ?_)
  refine r_lo (lo' := [(0, _), (1, _)]) rfl ?_
  refine r_aload_n (pc := 0) C 0 dX9_isCovered_0 rfl rfl ?_
  refine r_iload_n (pc := 1) C 1 dX9_isCovered_1 rfl rfl ?_
  refine r_xV (pc := 2) C hfl hxt k_X9_218 (q_requireLoan__n hcl hV hN hr) (fun _ _ _ _ h => h) hcl.1 ca_X9 rfl rfl (Nat.le_of_ble_eq_true rfl) (by decide) (by decide) dX9_isCovered_2 (fun r2 X2 T2 I2 h2 => ?_)
  exact h2.elim

set_option maxHeartbeats 1000000 in
theorem q_daysToDefault__s {g : GG} {X : va_W} {T : TT} {I : II} {x : Nat} (hcl : isCl T x) {w : Nat → Int32} {B N E : Nat} {pm : Nat → Nat} (hV : DV I (x + 1) w B N E pm) (hN : w 2 = nI N) {id : Int32} {s : Nat} (hs : s < N) (hr : atS w N id (nI s)) : Mx g yX9_daysToDefault cX9_daysToDefault 2 (some .int) 8 0 0 [.ref x, .int id] X T I (Ex (some (.int (dlV w s))) X T I) NoX := by
  have hd := hcl.2.1
  have hB6 := hV.hB
  have hN10 := hV.hN
  have hE20 := hV.hE
  refine Mx.of (by decide) (Nat.le_of_ble_eq_true rfl) (fun k hfl hxt C => ?_)
  refine r_lo (lo' := [(0, _), (1, _)]) rfl ?_
  refine r_aload_n (pc := 0) C 0 dX9_daysToDefault_0 rfl rfl ?_
  refine r_getR (pc := 1) (x := x + 1) C f_X9_10 hcl.1 rfl rfl dX9_daysToDefault_1 ?_
  refine r_aload_n (pc := 4) C 0 dX9_daysToDefault_4 rfl rfl ?_
  refine r_iload_n (pc := 5) C 1 dX9_daysToDefault_5 rfl rfl ?_
  refine r_xV (pc := 6) C hfl hxt k_X9_218 (q_requireLoan__s hcl hV hN hs hr) (fun _ _ _ _ h => h.elim) hcl.1 ca_X9 rfl rfl (Nat.le_of_ble_eq_true rfl) (by decide) (by decide) dX9_daysToDefault_6 (fun r2 X2 T2 I2 h2 => ?_)
  obtain ⟨rfl, rfl, rfl, rfl⟩ := h2
  refine r_st (st' := .ref _ :: _) rfl ?_
  refine r_cVi (pc := 9) C hfl k_X9_254 (c_X3_daysLeft hd hV hs) ((Dk_0 hd)) ca_X3 rfl rfl (Nat.le_of_ble_eq_true rfl) (by decide) (by decide) dX9_daysToDefault_9 ?_
  refine r_xret ?_
  exact r_iret (pc := 12) C dX9_daysToDefault_12 ⟨rfl, rfl, rfl, rfl⟩ (by decide)

set_option maxHeartbeats 1000000 in
theorem q_daysToDefault__n {g : GG} {X : va_W} {T : TT} {I : II} {x : Nat} (hcl : isCl T x) {w : Nat → Int32} {B N E : Nat} {pm : Nat → Nat} (hV : DV I (x + 1) w B N E pm) (hN : w 2 = nI N) {id : Int32} (hr : atS w N id (-1)) : Mx g yX9_daysToDefault cX9_daysToDefault 2 (some .int) 8 1 6 [.ref x, .int id] X T I No (Th (exc 1) X T I) := by
  have hd := hcl.2.1
  have hB6 := hV.hB
  have hN10 := hV.hN
  have hE20 := hV.hE
  refine Mx.of (by decide) (Nat.le_of_ble_eq_true rfl) (fun k hfl hxt C => ?_)
  refine r_lo (lo' := [(0, _), (1, _)]) rfl ?_
  refine r_aload_n (pc := 0) C 0 dX9_daysToDefault_0 rfl rfl ?_
  refine r_getR (pc := 1) (x := x + 1) C f_X9_10 hcl.1 rfl rfl dX9_daysToDefault_1 ?_
  refine r_aload_n (pc := 4) C 0 dX9_daysToDefault_4 rfl rfl ?_
  refine r_iload_n (pc := 5) C 1 dX9_daysToDefault_5 rfl rfl ?_
  refine r_xV (pc := 6) C hfl hxt k_X9_218 (q_requireLoan__n hcl hV hN hr) (fun _ _ _ _ h => h) hcl.1 ca_X9 rfl rfl (Nat.le_of_ble_eq_true rfl) (by decide) (by decide) dX9_daysToDefault_6 (fun r2 X2 T2 I2 h2 => ?_)
  exact h2.elim

set_option maxHeartbeats 1000000 in
theorem q_collateral__s {g : GG} {X : va_W} {T : TT} {I : II} {x : Nat} (hcl : isCl T x) {w : Nat → Int32} {B N E : Nat} {pm : Nat → Nat} (hV : DV I (x + 1) w B N E pm) (hN : w 2 = nI N) {id : Int32} {s : Nat} (hs : s < N) (hr : atS w N id (nI s)) {m : Nat} (m1 : m < 4) : Mx g yX9_collateral cX9_collateral 4 (some .int) 8 0 0 [.ref x, .int id, .int (nI m)] X T I (Ex (some (.int (w (58 + 10 * s + (6 + m))))) X T I) NoX := by
  have hd := hcl.2.1
  have hB6 := hV.hB
  have hN10 := hV.hN
  have hE20 := hV.hE
  refine Mx.of (by decide) (Nat.le_of_ble_eq_true rfl) (fun k hfl hxt C => ?_)
  refine r_lo (lo' := [(0, _), (1, _), (2, _)]) rfl ?_
  refine r_aload_n (pc := 0) C 0 dX9_collateral_0 rfl rfl ?_
  refine r_iload_n (pc := 1) C 1 dX9_collateral_1 rfl rfl ?_
  refine r_xV (pc := 2) C hfl hxt k_X9_218 (q_requireLoan__s hcl hV hN hs hr) (fun _ _ _ _ h => h.elim) hcl.1 ca_X9 rfl rfl (Nat.le_of_ble_eq_true rfl) (by decide) (by decide) dX9_collateral_2 (fun r2 X2 T2 I2 h2 => ?_)
  obtain ⟨rfl, rfl, rfl, rfl⟩ := h2
  refine r_st (st' := .ref _ :: _) rfl ?_
  refine r_astore_n (pc := 5) (lo' := [(3, _), (0, _), (1, _), (2, _)]) C dX9_collateral_5 rfl (by decide) rfl ?_
  refine r_iload_n (pc := 6) C 3 dX9_collateral_6 rfl rfl ?_
  refine r_xS (pc := 7) C hfl hxt k_X9_153 (q_requireKind__v m1) (fun _ _ _ _ h => h.elim) rfl rfl (Nat.le_of_ble_eq_true rfl) (by decide) (by decide) dX9_collateral_7 (fun r2 X2 T2 I2 h2 => ?_)
  obtain ⟨rfl, rfl, rfl, rfl⟩ := h2
  refine r_aload_n (pc := 10) C 0 dX9_collateral_10 rfl rfl ?_
  refine r_getR (pc := 11) (x := x + 1 + 5 + 17 + 2 * pm s + 1) C f_X9_240 ((Dk_l hd (hV.l (by omega)))) rfl rfl dX9_collateral_11 ?_
  refine r_iload_n (pc := 14) C 3 dX9_collateral_14 rfl rfl ?_
  refine r_iald (pc := 15) (x := m) C ((Dk_p hd (hV.l (by omega)))) rfl (by omega) (by decide) dX9_collateral_15 ?_
  refine r_t (hV.get (at_pledged hs (by omega))) ?_
  refine r_xret ?_
  exact r_iret (pc := 16) C dX9_collateral_16 ⟨rfl, rfl, rfl, rfl⟩ (by decide)

set_option maxHeartbeats 1000000 in
theorem q_collateral__n {g : GG} {X : va_W} {T : TT} {I : II} {x : Nat} (hcl : isCl T x) {w : Nat → Int32} {B N E : Nat} {pm : Nat → Nat} (hV : DV I (x + 1) w B N E pm) (hN : w 2 = nI N) {id : Int32} (hr : atS w N id (-1)) {k_ : Int32} : Mx g yX9_collateral cX9_collateral 4 (some .int) 8 1 6 [.ref x, .int id, .int k_] X T I No (Th (exc 1) X T I) := by
  have hd := hcl.2.1
  have hB6 := hV.hB
  have hN10 := hV.hN
  have hE20 := hV.hE
  refine Mx.of (by decide) (Nat.le_of_ble_eq_true rfl) (fun k hfl hxt C => ?_)
  refine r_lo (lo' := [(0, _), (1, _), (2, _)]) rfl ?_
  refine r_aload_n (pc := 0) C 0 dX9_collateral_0 rfl rfl ?_
  refine r_iload_n (pc := 1) C 1 dX9_collateral_1 rfl rfl ?_
  refine r_xV (pc := 2) C hfl hxt k_X9_218 (q_requireLoan__n hcl hV hN hr) (fun _ _ _ _ h => h) hcl.1 ca_X9 rfl rfl (Nat.le_of_ble_eq_true rfl) (by decide) (by decide) dX9_collateral_2 (fun r2 X2 T2 I2 h2 => ?_)
  exact h2.elim

set_option maxHeartbeats 1000000 in
theorem q_collateral__x {g : GG} {X : va_W} {T : TT} {I : II} {x : Nat} (hcl : isCl T x) {w : Nat → Int32} {B N E : Nat} {pm : Nat → Nat} (hV : DV I (x + 1) w B N E pm) (hN : w 2 = nI N) {id : Int32} {s : Nat} (hs : s < N) (hr : atS w N id (nI s)) {k_ : Int32} (hk : ¬ okK k_) : Mx g yX9_collateral cX9_collateral 4 (some .int) 8 1 6 [.ref x, .int id, .int k_] X T I No (Th (exc 2) X T I) := by
  have hd := hcl.2.1
  have hB6 := hV.hB
  have hN10 := hV.hN
  have hE20 := hV.hE
  refine Mx.of (by decide) (Nat.le_of_ble_eq_true rfl) (fun k hfl hxt C => ?_)
  refine r_lo (lo' := [(0, _), (1, _), (2, _)]) rfl ?_
  refine r_aload_n (pc := 0) C 0 dX9_collateral_0 rfl rfl ?_
  refine r_iload_n (pc := 1) C 1 dX9_collateral_1 rfl rfl ?_
  refine r_xV (pc := 2) C hfl hxt k_X9_218 (q_requireLoan__s hcl hV hN hs hr) (fun _ _ _ _ h => h.elim) hcl.1 ca_X9 rfl rfl (Nat.le_of_ble_eq_true rfl) (by decide) (by decide) dX9_collateral_2 (fun r2 X2 T2 I2 h2 => ?_)
  obtain ⟨rfl, rfl, rfl, rfl⟩ := h2
  refine r_st (st' := .ref _ :: _) rfl ?_
  refine r_astore_n (pc := 5) (lo' := [(3, _), (0, _), (1, _), (2, _)]) C dX9_collateral_5 rfl (by decide) rfl ?_
  refine r_iload_n (pc := 6) C 3 dX9_collateral_6 rfl rfl ?_
  refine r_xS (pc := 7) C hfl hxt k_X9_153 (q_requireKind__x hk) (fun _ _ _ _ h => h) rfl rfl (Nat.le_of_ble_eq_true rfl) (by decide) (by decide) dX9_collateral_7 (fun r2 X2 T2 I2 h2 => ?_)
  exact h2.elim

set_option maxHeartbeats 1000000 in
theorem q_ledgerDay__v {g : GG} {X : va_W} {T : TT} {I : II} {x : Nat} (hcl : isCl T x) {w : Nat → Int32} {B N E : Nat} {pm : Nat → Nat} (hV : DV I (x + 1) w B N E pm) (hE : w 5 = nI E) {e : Nat} (he : e < E) : Mx g yX9_ledgerDay cX9_ledgerDay 2 (some .int) 8 0 0 [.ref x, .int (nI e)] X T I (Ex (some (.int (w (158 + 3 * e + 0)))) X T I) NoX := by
  have hd := hcl.2.1
  have hB6 := hV.hB
  have hN10 := hV.hN
  have hE20 := hV.hE
  refine Mx.of (by decide) (Nat.le_of_ble_eq_true rfl) (fun k hfl hxt C => ?_)
  refine r_lo (lo' := [(0, _), (1, _)]) rfl ?_
  refine r_aload_n (pc := 0) C 0 dX9_ledgerDay_0 rfl rfl ?_
  refine r_iload_n (pc := 1) C 1 dX9_ledgerDay_1 rfl rfl ?_
  refine r_xV (pc := 2) C hfl hxt k_X9_314 (q_requireEntry__v hcl hV hE he) (fun _ _ _ _ h => h.elim) hcl.1 ca_X9 rfl rfl (Nat.le_of_ble_eq_true rfl) (by decide) (by decide) dX9_ledgerDay_2 (fun r2 X2 T2 I2 h2 => ?_)
  obtain ⟨rfl, rfl, rfl, rfl⟩ := h2
  refine r_aload_n (pc := 5) C 0 dX9_ledgerDay_5 rfl rfl ?_
  refine r_getR (pc := 6) (x := x + 1) C f_X9_10 hcl.1 rfl rfl dX9_ledgerDay_6 ?_
  refine r_getR (pc := 9) (x := x + 1 + 6) C f_X9_297 ((Dk_0 hd)) rfl rfl dX9_ledgerDay_9 ?_
  refine r_getR (pc := 12) (x := x + 1 + 6 + 1) C f_X9_317 ((Dk_6 hd)) rfl rfl dX9_ledgerDay_12 ?_
  refine r_iload_n (pc := 15) C 1 dX9_ledgerDay_15 rfl rfl ?_
  refine r_iald (pc := 16) (x := e) C ((Dk_7 hd)) rfl (by omega) (by decide) dX9_ledgerDay_16 ?_
  refine r_t (hV.get (at_ent0 (by omega))) ?_
  refine r_xret ?_
  exact r_iret (pc := 17) C dX9_ledgerDay_17 ⟨rfl, rfl, rfl, rfl⟩ (by decide)

set_option maxHeartbeats 1000000 in
theorem q_ledgerDay__x {g : GG} {X : va_W} {T : TT} {I : II} {x : Nat} (hcl : isCl T x) {w : Nat → Int32} {B N E : Nat} {pm : Nat → Nat} (hV : DV I (x + 1) w B N E pm) (hE : w 5 = nI E) {e_ : Int32} (he : ¬ okN E e_) : Mx g yX9_ledgerDay cX9_ledgerDay 2 (some .int) 8 1 6 [.ref x, .int e_] X T I No (Th (exc 1) X T I) := by
  have hd := hcl.2.1
  have hB6 := hV.hB
  have hN10 := hV.hN
  have hE20 := hV.hE
  refine Mx.of (by decide) (Nat.le_of_ble_eq_true rfl) (fun k hfl hxt C => ?_)
  refine r_lo (lo' := [(0, _), (1, _)]) rfl ?_
  refine r_aload_n (pc := 0) C 0 dX9_ledgerDay_0 rfl rfl ?_
  refine r_iload_n (pc := 1) C 1 dX9_ledgerDay_1 rfl rfl ?_
  refine r_xV (pc := 2) C hfl hxt k_X9_314 (q_requireEntry__x hcl hV hE he) (fun _ _ _ _ h => h) hcl.1 ca_X9 rfl rfl (Nat.le_of_ble_eq_true rfl) (by decide) (by decide) dX9_ledgerDay_2 (fun r2 X2 T2 I2 h2 => ?_)
  exact h2.elim

set_option maxHeartbeats 1000000 in
theorem q_ledgerLoan__v {g : GG} {X : va_W} {T : TT} {I : II} {x : Nat} (hcl : isCl T x) {w : Nat → Int32} {B N E : Nat} {pm : Nat → Nat} (hV : DV I (x + 1) w B N E pm) (hE : w 5 = nI E) {e : Nat} (he : e < E) : Mx g yX9_ledgerLoan cX9_ledgerLoan 2 (some .int) 8 0 0 [.ref x, .int (nI e)] X T I (Ex (some (.int (w (158 + 3 * e + 1)))) X T I) NoX := by
  have hd := hcl.2.1
  have hB6 := hV.hB
  have hN10 := hV.hN
  have hE20 := hV.hE
  refine Mx.of (by decide) (Nat.le_of_ble_eq_true rfl) (fun k hfl hxt C => ?_)
  refine r_lo (lo' := [(0, _), (1, _)]) rfl ?_
  refine r_aload_n (pc := 0) C 0 dX9_ledgerLoan_0 rfl rfl ?_
  refine r_iload_n (pc := 1) C 1 dX9_ledgerLoan_1 rfl rfl ?_
  refine r_xV (pc := 2) C hfl hxt k_X9_314 (q_requireEntry__v hcl hV hE he) (fun _ _ _ _ h => h.elim) hcl.1 ca_X9 rfl rfl (Nat.le_of_ble_eq_true rfl) (by decide) (by decide) dX9_ledgerLoan_2 (fun r2 X2 T2 I2 h2 => ?_)
  obtain ⟨rfl, rfl, rfl, rfl⟩ := h2
  refine r_aload_n (pc := 5) C 0 dX9_ledgerLoan_5 rfl rfl ?_
  refine r_getR (pc := 6) (x := x + 1) C f_X9_10 hcl.1 rfl rfl dX9_ledgerLoan_6 ?_
  refine r_getR (pc := 9) (x := x + 1 + 6) C f_X9_297 ((Dk_0 hd)) rfl rfl dX9_ledgerLoan_9 ?_
  refine r_getR (pc := 12) (x := x + 1 + 6 + 2) C f_X9_320 ((Dk_6 hd)) rfl rfl dX9_ledgerLoan_12 ?_
  refine r_iload_n (pc := 15) C 1 dX9_ledgerLoan_15 rfl rfl ?_
  refine r_iald (pc := 16) (x := e) C ((Dk_8 hd)) rfl (by omega) (by decide) dX9_ledgerLoan_16 ?_
  refine r_t (hV.get (at_ent1 (by omega))) ?_
  refine r_xret ?_
  exact r_iret (pc := 17) C dX9_ledgerLoan_17 ⟨rfl, rfl, rfl, rfl⟩ (by decide)

set_option maxHeartbeats 1000000 in
theorem q_ledgerLoan__x {g : GG} {X : va_W} {T : TT} {I : II} {x : Nat} (hcl : isCl T x) {w : Nat → Int32} {B N E : Nat} {pm : Nat → Nat} (hV : DV I (x + 1) w B N E pm) (hE : w 5 = nI E) {e_ : Int32} (he : ¬ okN E e_) : Mx g yX9_ledgerLoan cX9_ledgerLoan 2 (some .int) 8 1 6 [.ref x, .int e_] X T I No (Th (exc 1) X T I) := by
  have hd := hcl.2.1
  have hB6 := hV.hB
  have hN10 := hV.hN
  have hE20 := hV.hE
  refine Mx.of (by decide) (Nat.le_of_ble_eq_true rfl) (fun k hfl hxt C => ?_)
  refine r_lo (lo' := [(0, _), (1, _)]) rfl ?_
  refine r_aload_n (pc := 0) C 0 dX9_ledgerLoan_0 rfl rfl ?_
  refine r_iload_n (pc := 1) C 1 dX9_ledgerLoan_1 rfl rfl ?_
  refine r_xV (pc := 2) C hfl hxt k_X9_314 (q_requireEntry__x hcl hV hE he) (fun _ _ _ _ h => h) hcl.1 ca_X9 rfl rfl (Nat.le_of_ble_eq_true rfl) (by decide) (by decide) dX9_ledgerLoan_2 (fun r2 X2 T2 I2 h2 => ?_)
  exact h2.elim

set_option maxHeartbeats 1000000 in
theorem q_ledgerAmount__s {g : GG} {X : va_W} {T : TT} {I : II} {x : Nat} (hcl : isCl T x) {w : Nat → Int32} {B N E : Nat} {pm : Nat → Nat} (hV : DV I (x + 1) w B N E pm) (hE : w 5 = nI E) {e : Nat} (he : e < E) {dy id : Int32} (hr : atE w E dy id (nI e)) : Mx g yX9_ledgerAmount cX9_ledgerAmount 4 (some .int) 8 0 0 [.ref x, .int dy, .int id] X T I (Ex (some (.int (w (158 + 3 * e + 2)))) X T I) NoX := by
  have hd := hcl.2.1
  have hB6 := hV.hB
  have hN10 := hV.hN
  have hE20 := hV.hE
  refine Mx.of (by decide) (Nat.le_of_ble_eq_true rfl) (fun k hfl hxt C => ?_)
  refine r_lo (lo' := [(0, _), (1, _), (2, _)]) rfl ?_
  refine r_aload_n (pc := 0) C 0 dX9_ledgerAmount_0 rfl rfl ?_
  refine r_getR (pc := 1) (x := x + 1) C f_X9_10 hcl.1 rfl rfl dX9_ledgerAmount_1 ?_
  refine r_getR (pc := 4) (x := x + 1 + 6) C f_X9_297 ((Dk_0 hd)) rfl rfl dX9_ledgerAmount_4 ?_
  refine r_iload_n (pc := 7) C 1 dX9_ledgerAmount_7 rfl rfl ?_
  refine r_iload_n (pc := 8) C 2 dX9_ledgerAmount_8 rfl rfl ?_
  refine r_cVi (pc := 9) C hfl k_X9_306 (c_X6_positionOf hd hV hE hr) ((Dk_6 hd)) ca_X6 rfl rfl (Nat.le_of_ble_eq_true rfl) (by decide) (by decide) dX9_ledgerAmount_9 ?_
  refine r_istore_n (pc := 12) (lo' := [(3, _), (0, _), (1, _), (2, _)]) C dX9_ledgerAmount_12 rfl (by decide) rfl ?_
  refine r_iload_n (pc := 13) C 0 dX9_ledgerAmount_13 rfl rfl ?_
  refine r_ifgeN (pc := 14) (tgt := 28) C dX9_ledgerAmount_14 rfl (by omega) ?_
  refine r_aload_n (pc := 28) C 1 dX9_ledgerAmount_28 rfl rfl ?_
  refine r_getR (pc := 29) (x := x + 1) C f_X9_10 hcl.1 rfl rfl dX9_ledgerAmount_29 ?_
  refine r_getR (pc := 32) (x := x + 1 + 6) C f_X9_297 ((Dk_0 hd)) rfl rfl dX9_ledgerAmount_32 ?_
  refine r_getR (pc := 35) (x := x + 1 + 6 + 3) C f_X9_311 ((Dk_6 hd)) rfl rfl dX9_ledgerAmount_35 ?_
  refine r_iload_n (pc := 38) C 0 dX9_ledgerAmount_38 rfl rfl ?_
  refine r_iald (pc := 39) (x := e) C ((Dk_9 hd)) rfl (by omega) (by decide) dX9_ledgerAmount_39 ?_
  refine r_t (hV.get (at_ent2 (by omega))) ?_
  refine r_xret ?_
  exact r_iret (pc := 40) C dX9_ledgerAmount_40 ⟨rfl, rfl, rfl, rfl⟩ (by decide)

set_option maxHeartbeats 1000000 in
theorem q_ledgerAmount__n {g : GG} {X : va_W} {T : TT} {I : II} {x : Nat} (hcl : isCl T x) {w : Nat → Int32} {B N E : Nat} {pm : Nat → Nat} (hV : DV I (x + 1) w B N E pm) (hE : w 5 = nI E) {dy id : Int32} (hr : atE w E dy id (-1)) : Mx g yX9_ledgerAmount cX9_ledgerAmount 4 (some .int) 8 1 6 [.ref x, .int dy, .int id] X T I No (Th (exc 1) X T I) := by
  have hd := hcl.2.1
  have hB6 := hV.hB
  have hN10 := hV.hN
  have hE20 := hV.hE
  refine Mx.of (by decide) (Nat.le_of_ble_eq_true rfl) (fun k hfl hxt C => ?_)
  refine r_lo (lo' := [(0, _), (1, _), (2, _)]) rfl ?_
  refine r_aload_n (pc := 0) C 0 dX9_ledgerAmount_0 rfl rfl ?_
  refine r_getR (pc := 1) (x := x + 1) C f_X9_10 hcl.1 rfl rfl dX9_ledgerAmount_1 ?_
  refine r_getR (pc := 4) (x := x + 1 + 6) C f_X9_297 ((Dk_0 hd)) rfl rfl dX9_ledgerAmount_4 ?_
  refine r_iload_n (pc := 7) C 1 dX9_ledgerAmount_7 rfl rfl ?_
  refine r_iload_n (pc := 8) C 2 dX9_ledgerAmount_8 rfl rfl ?_
  refine r_cVi (pc := 9) C hfl k_X9_306 (c_X6_positionOf hd hV hE hr) ((Dk_6 hd)) ca_X6 rfl rfl (Nat.le_of_ble_eq_true rfl) (by decide) (by decide) dX9_ledgerAmount_9 ?_
  refine r_istore_n (pc := 12) (lo' := [(3, _), (0, _), (1, _), (2, _)]) C dX9_ledgerAmount_12 rfl (by decide) rfl ?_
  refine r_iload_n (pc := 13) C 0 dX9_ledgerAmount_13 rfl rfl ?_
  refine r_ifge (pc := 14) (tgt := 28) C dX9_ledgerAmount_14 rfl (fun c => absurd c (by decide)) (fun _ => ?_)
  exact r_thrW (pc := 17) (tx := "the ledger has no such entry") (sa := 609) C hfl hxt ex_119 (by decide) (Nat.le_of_ble_eq_true rfl) (by decide) dX9_ledgerAmount_17 dX9_ledgerAmount_20 dX9_ledgerAmount_21 dX9_ledgerAmount_24 dX9_ledgerAmount_27 ⟨rfl, rfl, rfl, rfl⟩

set_option maxHeartbeats 1000000 in
theorem q_idAt__v {g : GG} {X : va_W} {T : TT} {I : II} {x : Nat} (hcl : isCl T x) {w : Nat → Int32} {B N E : Nat} {pm : Nat → Nat} (hV : DV I (x + 1) w B N E pm) (hN : w 2 = nI N) {q : Nat} (hq : q < N) : Mx g yX9_idAt cX9_idAt 2 (some .int) 8 0 0 [.ref x, .int (nI q)] X T I (Ex (some (.int (w (58 + 10 * q + 0)))) X T I) NoX := by
  have hd := hcl.2.1
  have hB6 := hV.hB
  have hN10 := hV.hN
  have hE20 := hV.hE
  refine Mx.of (by decide) (Nat.le_of_ble_eq_true rfl) (fun k hfl hxt C => ?_)
  refine r_lo (lo' := [(0, _), (1, _)]) rfl ?_
  refine r_iload_n (pc := 0) C 1 dX9_idAt_0 rfl rfl ?_
  refine r_ifltN (pc := 1) C dX9_idAt_1 (by omega) ?_
  refine r_iload_n (pc := 4) C 1 dX9_idAt_4 rfl rfl ?_
  refine r_aload_n (pc := 5) C 0 dX9_idAt_5 rfl rfl ?_
  refine r_getR (pc := 6) (x := x + 1) C f_X9_10 hcl.1 rfl rfl dX9_idAt_6 ?_
  refine r_getI (pc := 9) C f_X9_200 ((Dk_0 hd)) rfl dX9_idAt_9 ?_
  refine r_t (hV.get at_loanTotal) ?_
  refine r_t (y := nI N) hN ?_
  refine r_cltN (pc := 12) (tgt := 25) C dX9_idAt_12 rfl (by omega) (by omega) (fun c_12 => ?_) (fun c_12 => False.elim (by omega))
  refine r_aload_n (pc := 25) C 0 dX9_idAt_25 rfl rfl ?_
  refine r_getR (pc := 26) (x := x + 1) C f_X9_10 hcl.1 rfl rfl dX9_idAt_26 ?_
  refine r_getR (pc := 29) (x := x + 1 + 5) C f_X9_209 ((Dk_0 hd)) rfl rfl dX9_idAt_29 ?_
  refine r_iload_n (pc := 32) C 1 dX9_idAt_32 rfl rfl ?_
  refine r_lald (pc := 33) (x := q) (p := pm q) C ((Dk_5 hd)) rfl (by omega) (hV.p (by omega)) (hV.l (by omega)) dX9_idAt_33 ?_
  refine r_getI (pc := 34) C f_X9_213 ((Dk_l hd (hV.l (by omega)))) rfl dX9_idAt_34 ?_
  refine r_t (hV.get (at_loan (i := 0) (by omega) (by decide))) ?_
  refine r_xret ?_
  exact r_iret (pc := 37) C dX9_idAt_37 ⟨rfl, rfl, rfl, rfl⟩ (by decide)

set_option maxHeartbeats 1000000 in
theorem q_idAt__x {g : GG} {X : va_W} {T : TT} {I : II} {x : Nat} (hcl : isCl T x) {w : Nat → Int32} {B N E : Nat} {pm : Nat → Nat} (hV : DV I (x + 1) w B N E pm) (hN : w 2 = nI N) {x_ : Int32} (hx : ¬ okN N x_) : Mx g yX9_idAt cX9_idAt 2 (some .int) 8 1 6 [.ref x, .int x_] X T I No (Th (exc 2) X T I) := by
  have hd := hcl.2.1
  have hB6 := hV.hB
  have hN10 := hV.hN
  have hE20 := hV.hE
  refine Mx.of (by decide) (Nat.le_of_ble_eq_true rfl) (fun k hfl hxt C => ?_)
  refine r_lo (lo' := [(0, _), (1, _)]) rfl ?_
  refine r_iload_n (pc := 0) C 1 dX9_idAt_0 rfl rfl ?_
  refine r_iflt (pc := 1) (tgt := 15) C dX9_idAt_1 rfl (fun c_1 => ?_) (fun c_1 => ?_)
  · skip
    exact r_thr (pc := 15) (tx := "no loan has this position") (sa := 507) C hfl hxt ex_129 (by decide) (Nat.le_of_ble_eq_true rfl) (by decide) dX9_idAt_15 dX9_idAt_18 dX9_idAt_19 dX9_idAt_21 dX9_idAt_24 ⟨rfl, rfl, rfl, rfl⟩
  · skip
    refine r_iload_n (pc := 4) C 1 dX9_idAt_4 rfl rfl ?_
    refine r_aload_n (pc := 5) C 0 dX9_idAt_5 rfl rfl ?_
    refine r_getR (pc := 6) (x := x + 1) C f_X9_10 hcl.1 rfl rfl dX9_idAt_6 ?_
    refine r_getI (pc := 9) C f_X9_200 ((Dk_0 hd)) rfl dX9_idAt_9 ?_
    refine r_t (hV.get at_loanTotal) ?_
    refine r_t (y := nI N) hN ?_
    refine r_clt (pc := 12) (tgt := 25) C dX9_idAt_12 rfl (fun c_12 => False.elim (by exact hx (okN_is (by omega) c_1 c_12))) (fun c_12 => ?_)
    exact r_thr (pc := 15) (tx := "no loan has this position") (sa := 507) C hfl hxt ex_129 (by decide) (Nat.le_of_ble_eq_true rfl) (by decide) dX9_idAt_15 dX9_idAt_18 dX9_idAt_19 dX9_idAt_21 dX9_idAt_24 ⟨rfl, rfl, rfl, rfl⟩

set_option maxHeartbeats 1000000 in
theorem q_riskiest__v {g : GG} {X : va_W} {T : TT} {I : II} {x : Nat} (hcl : isCl T x) {w : Nat → Int32} {B N E : Nat} {pm : Nat → Nat} (hV : DV I (x + 1) w B N E pm) (hN : w 2 = nI N) (h0 : 0 < N) : Mx g yX9_riskiest cX9_riskiest 2 (some .int) 8 0 0 [.ref x] X T I (Ex (some (.int (w (58 + 10 * bsI w (N - 1) 1 0 + 0)))) X T I) NoX := by
  have hd := hcl.2.1
  have hB6 := hV.hB
  have hN10 := hV.hN
  have hE20 := hV.hE
  have hbl := bsI_lt (w := w) (N := N) (N - 1) 1 0 h0 (by omega)
  refine Mx.of (by decide) (Nat.le_of_ble_eq_true rfl) (fun k hfl hxt C => ?_)
  refine r_lo (lo' := [(0, _)]) rfl ?_
  refine r_aload_n (pc := 0) C 0 dX9_riskiest_0 rfl rfl ?_
  refine r_getR (pc := 1) (x := x + 1) C f_X9_10 hcl.1 rfl rfl dX9_riskiest_1 ?_
  refine r_cVr (pc := 4) C hfl k_X9_286 (c_X3_firstToDefault__v hd hV hN h0) ((Dk_0 hd)) ca_X3 rfl rfl (Nat.le_of_ble_eq_true rfl) (by decide) (by decide) dX9_riskiest_4 ?_
  refine r_astore_n (pc := 7) (lo' := [(1, _), (0, _)]) C dX9_riskiest_7 rfl (by decide) rfl ?_
  refine r_aload_n (pc := 8) C 0 dX9_riskiest_8 rfl rfl ?_
  refine r_ifnnR (pc := 9) (tgt := 23) C dX9_riskiest_9 rfl ?_
  refine r_aload_n (pc := 23) C 0 dX9_riskiest_23 rfl rfl ?_
  refine r_getI (pc := 24) C f_X9_213 ((Dk_l hd (hV.l (by omega)))) rfl dX9_riskiest_24 ?_
  refine r_t (hV.get (at_loan (i := 0) hbl (by decide))) ?_
  refine r_xret ?_
  exact r_iret (pc := 27) C dX9_riskiest_27 ⟨rfl, rfl, rfl, rfl⟩ (by decide)

set_option maxHeartbeats 1000000 in
theorem q_riskiest__x {g : GG} {X : va_W} {T : TT} {I : II} {x : Nat} (hcl : isCl T x) {w : Nat → Int32} {B N E : Nat} {pm : Nat → Nat} (hV : DV I (x + 1) w B N E pm) (hN : w 2 = nI 0) : Mx g yX9_riskiest cX9_riskiest 2 (some .int) 8 1 6 [.ref x] X T I No (Th (exc 1) X T I) := by
  have hd := hcl.2.1
  have hB6 := hV.hB
  have hN10 := hV.hN
  have hE20 := hV.hE
  refine Mx.of (by decide) (Nat.le_of_ble_eq_true rfl) (fun k hfl hxt C => ?_)
  refine r_lo (lo' := [(0, _)]) rfl ?_
  refine r_aload_n (pc := 0) C 0 dX9_riskiest_0 rfl rfl ?_
  refine r_getR (pc := 1) (x := x + 1) C f_X9_10 hcl.1 rfl rfl dX9_riskiest_1 ?_
  refine r_cVr (pc := 4) C hfl k_X9_286 (c_X3_firstToDefault__x hd hV hN) ((Dk_0 hd)) ca_X3 rfl rfl (Nat.le_of_ble_eq_true rfl) (by decide) (by decide) dX9_riskiest_4 ?_
  refine r_astore_nN (pc := 7) (lo' := [(1, _), (0, _)]) C dX9_riskiest_7 rfl (by decide) rfl ?_
  refine r_aload_nN (pc := 8) C 0 dX9_riskiest_8 rfl rfl ?_
  refine r_ifnnN (pc := 9) C dX9_riskiest_9 ?_
  exact r_thrW (pc := 12) (tx := "there are no loans") (sa := 590) C hfl hxt ex_119 (by decide) (Nat.le_of_ble_eq_true rfl) (by decide) dX9_riskiest_12 dX9_riskiest_15 dX9_riskiest_16 dX9_riskiest_19 dX9_riskiest_22 ⟨rfl, rfl, rfl, rfl⟩

set_option maxHeartbeats 1000000 in
theorem q_loanByDebt__v {g : GG} {X : va_W} {T : TT} {I : II} {x : Nat} (hcl : isCl T x) {w : Nat → Int32} {B N E : Nat} {pm : Nat → Nat} (hV : DV I (x + 1) w B N E pm) (hN : w 2 = nI N) {j : Nat} (hj : j < N) {x_ : Int32} (hx : cbN w N j = x_) (hno : ∀ i, i < j → cbN w N i ≠ x_) : Mx g yX9_loanByDebt cX9_loanByDebt 3 (some .int) 8 0 0 [.ref x, .int x_] X T I (Ex (some (.int (w (58 + 10 * j + 0)))) X T I) NoX := by
  have hd := hcl.2.1
  have hB6 := hV.hB
  have hN10 := hV.hN
  have hE20 := hV.hE
  refine Mx.of (by decide) (Nat.le_of_ble_eq_true rfl) (fun k hfl hxt C => ?_)
  refine r_lo (lo' := [(0, _), (1, _)]) rfl ?_
  refine r_aload_n (pc := 0) C 0 dX9_loanByDebt_0 rfl rfl ?_
  refine r_getR (pc := 1) (x := x + 1) C f_X9_10 hcl.1 rfl rfl dX9_loanByDebt_1 ?_
  refine r_iload_n (pc := 4) C 1 dX9_loanByDebt_4 rfl rfl ?_
  refine r_cVr (pc := 5) C hfl k_X9_292 (c_X3_loanOfRank__v hd hV hN hj hx hno) ((Dk_0 hd)) ca_X3 rfl rfl (Nat.le_of_ble_eq_true rfl) (by decide) (by decide) dX9_loanByDebt_5 ?_
  refine r_astore_n (pc := 8) (lo' := [(2, _), (0, _), (1, _)]) C dX9_loanByDebt_8 rfl (by decide) rfl ?_
  refine r_aload_n (pc := 9) C 0 dX9_loanByDebt_9 rfl rfl ?_
  refine r_ifnnR (pc := 10) (tgt := 24) C dX9_loanByDebt_10 rfl ?_
  refine r_aload_n (pc := 24) C 0 dX9_loanByDebt_24 rfl rfl ?_
  refine r_getI (pc := 25) C f_X9_213 ((Dk_l hd (hV.l (by omega)))) rfl dX9_loanByDebt_25 ?_
  refine r_t (hV.get (at_loan (i := 0) hj (by decide))) ?_
  refine r_xret ?_
  exact r_iret (pc := 28) C dX9_loanByDebt_28 ⟨rfl, rfl, rfl, rfl⟩ (by decide)

set_option maxHeartbeats 1000000 in
theorem q_loanByDebt__x {g : GG} {X : va_W} {T : TT} {I : II} {x : Nat} (hcl : isCl T x) {w : Nat → Int32} {B N E : Nat} {pm : Nat → Nat} (hV : DV I (x + 1) w B N E pm) (hN : w 2 = nI N) {x_ : Int32} (hno : ∀ i, i < N → cbN w N i ≠ x_) : Mx g yX9_loanByDebt cX9_loanByDebt 3 (some .int) 8 1 6 [.ref x, .int x_] X T I No (Th (exc 1) X T I) := by
  have hd := hcl.2.1
  have hB6 := hV.hB
  have hN10 := hV.hN
  have hE20 := hV.hE
  refine Mx.of (by decide) (Nat.le_of_ble_eq_true rfl) (fun k hfl hxt C => ?_)
  refine r_lo (lo' := [(0, _), (1, _)]) rfl ?_
  refine r_aload_n (pc := 0) C 0 dX9_loanByDebt_0 rfl rfl ?_
  refine r_getR (pc := 1) (x := x + 1) C f_X9_10 hcl.1 rfl rfl dX9_loanByDebt_1 ?_
  refine r_iload_n (pc := 4) C 1 dX9_loanByDebt_4 rfl rfl ?_
  refine r_cVr (pc := 5) C hfl k_X9_292 (c_X3_loanOfRank__x hd hV hN hno) ((Dk_0 hd)) ca_X3 rfl rfl (Nat.le_of_ble_eq_true rfl) (by decide) (by decide) dX9_loanByDebt_5 ?_
  refine r_astore_nN (pc := 8) (lo' := [(2, _), (0, _), (1, _)]) C dX9_loanByDebt_8 rfl (by decide) rfl ?_
  refine r_aload_nN (pc := 9) C 0 dX9_loanByDebt_9 rfl rfl ?_
  refine r_ifnnN (pc := 10) C dX9_loanByDebt_10 ?_
  exact r_thrW (pc := 13) (tx := "no loan has this rank") (sa := 595) C hfl hxt ex_119 (by decide) (Nat.le_of_ble_eq_true rfl) (by decide) dX9_loanByDebt_13 dX9_loanByDebt_16 dX9_loanByDebt_17 dX9_loanByDebt_20 dX9_loanByDebt_23 ⟨rfl, rfl, rfl, rfl⟩
