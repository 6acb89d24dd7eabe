/-! The reads on both sides. -/
theorem Iv.rd {x M : Nat} {T : TT} {I : II} {s : AS} {n : Nat} (h : Iv x M T I s s n) : ∃ (D U B N E : Nat) (pm : Nat → Nat), Gd s.w B N E D U ∧ Sd s.w N ∧ DV I (x + 1) s.w B N E pm ∧ BD s D U n := by
  obtain ⟨-, -, -, ⟨D, U, hC, hB⟩, -, -⟩ := h
  obtain ⟨a1, ⟨B, N, E, hG, hS⟩, -⟩ := hC
  obtain ⟨pm, hV⟩ := a1.dv hG
  exact ⟨D, U, B, N, E, pm, hG, hS, hV, hB⟩

theorem op_day {g : GG} {X : va_W} {T : TT} {I : II} {x M n : Nat} {s : AS} (h : Iv x M T I s s n) (hn : n < 512) : Op g x M n s yX9_day cX9_day 1 (some .int) yX10_day cX10_day 1 (some .int) [] [] X T I := by
  obtain ⟨D, U, B, N, E, pm, hG, hS, hV, hBD⟩ := h.rd
  have hcl := h.1
  have hB := hG.B.1
  have hB6 := hG.B.2
  have hN := hG.N.1
  have hN10 := hG.N.2
  have hE := hG.E.1
  have hE20 := hG.E.2
  have hu := h.up (Nat.le_succ n)
  have hw := fun (T' : TT) (I' : II) (h' : Iv x M T' I' s s (n + 1)) => h'.2.2.2.2.2.1
  have hDD : D ≤ 40000 ∧ U ≤ 600 := by have := hBD.1; have := hBD.2; omega
  exact ⟨0, .int (s.w 0), s, ⟨Nat.zero_le _, fun _ => ⟨_, rfl⟩⟩, OpC.ve (q_day hcl hV) (by decide) hu, fun X9 T' I' h' => ⟨.int (s.w 0), ⟨fun _ => rfl, ⟨_, rfl⟩⟩, OpR.rd h' (hw T' I' h') (by decide) (c_day h'.2.1)⟩⟩

theorem op_capital {g : GG} {X : va_W} {T : TT} {I : II} {x M n : Nat} {s : AS} (h : Iv x M T I s s n) (hn : n < 512) : Op g x M n s yX9_capital cX9_capital 1 (some .int) yX10_capital cX10_capital 1 (some .int) [] [] X T I := by
  obtain ⟨D, U, B, N, E, pm, hG, hS, hV, hBD⟩ := h.rd
  have hcl := h.1
  have hB := hG.B.1
  have hB6 := hG.B.2
  have hN := hG.N.1
  have hN10 := hG.N.2
  have hE := hG.E.1
  have hE20 := hG.E.2
  have hu := h.up (Nat.le_succ n)
  have hw := fun (T' : TT) (I' : II) (h' : Iv x M T' I' s s (n + 1)) => h'.2.2.2.2.2.1
  have hDD : D ≤ 40000 ∧ U ≤ 600 := by have := hBD.1; have := hBD.2; omega
  exact ⟨0, .int (s.w 4), s, ⟨Nat.zero_le _, fun _ => ⟨_, rfl⟩⟩, OpC.ve (q_capital hcl hV) (by decide) hu, fun X9 T' I' h' => ⟨.int (s.w 4), ⟨fun _ => rfl, ⟨_, rfl⟩⟩, OpR.rd h' (hw T' I' h') (by decide) (c_capital h'.2.1)⟩⟩

theorem op_borrowerCount {g : GG} {X : va_W} {T : TT} {I : II} {x M n : Nat} {s : AS} (h : Iv x M T I s s n) (hn : n < 512) : Op g x M n s yX9_borrowerCount cX9_borrowerCount 1 (some .int) yX10_borrowerCount cX10_borrowerCount 1 (some .int) [] [] X T I := by
  obtain ⟨D, U, B, N, E, pm, hG, hS, hV, hBD⟩ := h.rd
  have hcl := h.1
  have hB := hG.B.1
  have hB6 := hG.B.2
  have hN := hG.N.1
  have hN10 := hG.N.2
  have hE := hG.E.1
  have hE20 := hG.E.2
  have hu := h.up (Nat.le_succ n)
  have hw := fun (T' : TT) (I' : II) (h' : Iv x M T' I' s s (n + 1)) => h'.2.2.2.2.2.1
  have hDD : D ≤ 40000 ∧ U ≤ 600 := by have := hBD.1; have := hBD.2; omega
  exact ⟨0, .int (s.w 1), s, ⟨Nat.zero_le _, fun _ => ⟨_, rfl⟩⟩, OpC.ve (q_borrowerCount hcl hV) (by decide) hu, fun X9 T' I' h' => ⟨.int (s.w 1), ⟨fun _ => rfl, ⟨_, rfl⟩⟩, OpR.rd h' (hw T' I' h') (by decide) (c_borrowerCount h'.2.1)⟩⟩

theorem op_loanCount {g : GG} {X : va_W} {T : TT} {I : II} {x M n : Nat} {s : AS} (h : Iv x M T I s s n) (hn : n < 512) : Op g x M n s yX9_loanCount cX9_loanCount 1 (some .int) yX10_loanCount cX10_loanCount 1 (some .int) [] [] X T I := by
  obtain ⟨D, U, B, N, E, pm, hG, hS, hV, hBD⟩ := h.rd
  have hcl := h.1
  have hB := hG.B.1
  have hB6 := hG.B.2
  have hN := hG.N.1
  have hN10 := hG.N.2
  have hE := hG.E.1
  have hE20 := hG.E.2
  have hu := h.up (Nat.le_succ n)
  have hw := fun (T' : TT) (I' : II) (h' : Iv x M T' I' s s (n + 1)) => h'.2.2.2.2.2.1
  have hDD : D ≤ 40000 ∧ U ≤ 600 := by have := hBD.1; have := hBD.2; omega
  exact ⟨0, .int (s.w 2), s, ⟨Nat.zero_le _, fun _ => ⟨_, rfl⟩⟩, OpC.ve (q_loanCount hcl hV) (by decide) hu, fun X9 T' I' h' => ⟨.int (s.w 2), ⟨fun _ => rfl, ⟨_, rfl⟩⟩, OpR.rd h' (hw T' I' h') (by decide) (c_loanCount h'.2.1)⟩⟩

theorem op_repaidLoans {g : GG} {X : va_W} {T : TT} {I : II} {x M n : Nat} {s : AS} (h : Iv x M T I s s n) (hn : n < 512) : Op g x M n s yX9_repaidLoans cX9_repaidLoans 1 (some .int) yX10_repaidLoans cX10_repaidLoans 1 (some .int) [] [] X T I := by
  obtain ⟨D, U, B, N, E, pm, hG, hS, hV, hBD⟩ := h.rd
  have hcl := h.1
  have hB := hG.B.1
  have hB6 := hG.B.2
  have hN := hG.N.1
  have hN10 := hG.N.2
  have hE := hG.E.1
  have hE20 := hG.E.2
  have hu := h.up (Nat.le_succ n)
  have hw := fun (T' : TT) (I' : II) (h' : Iv x M T' I' s s (n + 1)) => h'.2.2.2.2.2.1
  have hDD : D ≤ 40000 ∧ U ≤ 600 := by have := hBD.1; have := hBD.2; omega
  exact ⟨0, .int (s.w 6), s, ⟨Nat.zero_le _, fun _ => ⟨_, rfl⟩⟩, OpC.ve (q_repaidLoans hcl hV) (by decide) hu, fun X9 T' I' h' => ⟨.int (s.w 6), ⟨fun _ => rfl, ⟨_, rfl⟩⟩, OpR.rd h' (hw T' I' h') (by decide) (c_repaidLoans h'.2.1)⟩⟩

theorem op_defaultedLoans {g : GG} {X : va_W} {T : TT} {I : II} {x M n : Nat} {s : AS} (h : Iv x M T I s s n) (hn : n < 512) : Op g x M n s yX9_defaultedLoans cX9_defaultedLoans 1 (some .int) yX10_defaultedLoans cX10_defaultedLoans 1 (some .int) [] [] X T I := by
  obtain ⟨D, U, B, N, E, pm, hG, hS, hV, hBD⟩ := h.rd
  have hcl := h.1
  have hB := hG.B.1
  have hB6 := hG.B.2
  have hN := hG.N.1
  have hN10 := hG.N.2
  have hE := hG.E.1
  have hE20 := hG.E.2
  have hu := h.up (Nat.le_succ n)
  have hw := fun (T' : TT) (I' : II) (h' : Iv x M T' I' s s (n + 1)) => h'.2.2.2.2.2.1
  have hDD : D ≤ 40000 ∧ U ≤ 600 := by have := hBD.1; have := hBD.2; omega
  exact ⟨0, .int (s.w 7), s, ⟨Nat.zero_le _, fun _ => ⟨_, rfl⟩⟩, OpC.ve (q_defaultedLoans hcl hV) (by decide) hu, fun X9 T' I' h' => ⟨.int (s.w 7), ⟨fun _ => rfl, ⟨_, rfl⟩⟩, OpR.rd h' (hw T' I' h') (by decide) (c_defaultedLoans h'.2.1)⟩⟩

theorem op_losses {g : GG} {X : va_W} {T : TT} {I : II} {x M n : Nat} {s : AS} (h : Iv x M T I s s n) (hn : n < 512) : Op g x M n s yX9_losses cX9_losses 1 (some .int) yX10_losses cX10_losses 1 (some .int) [] [] X T I := by
  obtain ⟨D, U, B, N, E, pm, hG, hS, hV, hBD⟩ := h.rd
  have hcl := h.1
  have hB := hG.B.1
  have hB6 := hG.B.2
  have hN := hG.N.1
  have hN10 := hG.N.2
  have hE := hG.E.1
  have hE20 := hG.E.2
  have hu := h.up (Nat.le_succ n)
  have hw := fun (T' : TT) (I' : II) (h' : Iv x M T' I' s s (n + 1)) => h'.2.2.2.2.2.1
  have hDD : D ≤ 40000 ∧ U ≤ 600 := by have := hBD.1; have := hBD.2; omega
  exact ⟨0, .int (s.w 8), s, ⟨Nat.zero_le _, fun _ => ⟨_, rfl⟩⟩, OpC.ve (q_losses hcl hV) (by decide) hu, fun X9 T' I' h' => ⟨.int (s.w 8), ⟨fun _ => rfl, ⟨_, rfl⟩⟩, OpR.rd h' (hw T' I' h') (by decide) (c_losses h'.2.1)⟩⟩

theorem op_ledgerSize {g : GG} {X : va_W} {T : TT} {I : II} {x M n : Nat} {s : AS} (h : Iv x M T I s s n) (hn : n < 512) : Op g x M n s yX9_ledgerSize cX9_ledgerSize 1 (some .int) yX10_ledgerSize cX10_ledgerSize 1 (some .int) [] [] X T I := by
  obtain ⟨D, U, B, N, E, pm, hG, hS, hV, hBD⟩ := h.rd
  have hcl := h.1
  have hB := hG.B.1
  have hB6 := hG.B.2
  have hN := hG.N.1
  have hN10 := hG.N.2
  have hE := hG.E.1
  have hE20 := hG.E.2
  have hu := h.up (Nat.le_succ n)
  have hw := fun (T' : TT) (I' : II) (h' : Iv x M T' I' s s (n + 1)) => h'.2.2.2.2.2.1
  have hDD : D ≤ 40000 ∧ U ≤ 600 := by have := hBD.1; have := hBD.2; omega
  exact ⟨0, .int (s.w 5), s, ⟨Nat.zero_le _, fun _ => ⟨_, rfl⟩⟩, OpC.ve (q_ledgerSize hcl hV) (by decide) hu, fun X9 T' I' h' => ⟨.int (s.w 5), ⟨fun _ => rfl, ⟨_, rfl⟩⟩, OpR.rd h' (hw T' I' h') (by decide) (c_ledgerSize h'.2.1)⟩⟩

theorem op_totalCoins {g : GG} {X : va_W} {T : TT} {I : II} {x M n : Nat} {s : AS} (h : Iv x M T I s s n) (hn : n < 512) : Op g x M n s yX9_totalCoins cX9_totalCoins 1 (some .int) yX10_totalCoins cX10_totalCoins 1 (some .int) [] [] X T I := by
  obtain ⟨D, U, B, N, E, pm, hG, hS, hV, hBD⟩ := h.rd
  have hcl := h.1
  have hB := hG.B.1
  have hB6 := hG.B.2
  have hN := hG.N.1
  have hN10 := hG.N.2
  have hE := hG.E.1
  have hE20 := hG.E.2
  have hu := h.up (Nat.le_succ n)
  have hw := fun (T' : TT) (I' : II) (h' : Iv x M T' I' s s (n + 1)) => h'.2.2.2.2.2.1
  have hDD : D ≤ 40000 ∧ U ≤ 600 := by have := hBD.1; have := hBD.2; omega
  exact ⟨0, .int (coinsV s.w B), s, ⟨Nat.zero_le _, fun _ => ⟨_, rfl⟩⟩, OpC.ve (q_totalCoins hcl hV hB) (by decide) hu, fun X9 T' I' h' => ⟨.int (coinsV s.w B), ⟨fun _ => rfl, ⟨_, rfl⟩⟩, OpR.rd h' (hw T' I' h') (by decide) (c_totalCoins h'.2.1 hB hB6)⟩⟩

theorem op_ledgerOf {g : GG} {X : va_W} {T : TT} {I : II} {x M n : Nat} {s : AS} (h : Iv x M T I s s n) (hn : n < 512) (id : Int32) : Op g x M n s yX9_ledgerOf cX9_ledgerOf 2 (some .int) yX10_ledgerOf cX10_ledgerOf 4 (some .int) [.int id] [] X T I := by
  obtain ⟨D, U, B, N, E, pm, hG, hS, hV, hBD⟩ := h.rd
  have hcl := h.1
  have hB := hG.B.1
  have hB6 := hG.B.2
  have hN := hG.N.1
  have hN10 := hG.N.2
  have hE := hG.E.1
  have hE20 := hG.E.2
  have hu := h.up (Nat.le_succ n)
  have hw := fun (T' : TT) (I' : II) (h' : Iv x M T' I' s s (n + 1)) => h'.2.2.2.2.2.1
  have hDD : D ≤ 40000 ∧ U ≤ 600 := by have := hBD.1; have := hBD.2; omega
  exact ⟨0, .int (ledV s.w E id), s, ⟨Nat.zero_le _, fun _ => ⟨_, rfl⟩⟩, OpC.ve (q_ledgerOf hcl hV hE) (by decide) hu, fun X9 T' I' h' => ⟨.int (ledV s.w E id), ⟨fun _ => rfl, ⟨_, rfl⟩⟩, OpR.rd h' (hw T' I' h') (by decide) (c_ledgerOf h'.2.1 hE hE20)⟩⟩

theorem op_price {g : GG} {X : va_W} {T : TT} {I : II} {x M n : Nat} {s : AS} (h : Iv x M T I s s n) (hn : n < 512) (k_ : Int32) : Op g x M n s yX9_price cX9_price 2 (some .int) yX10_price cX10_price 2 (some .int) [.int k_] [2] X T I := by
  obtain ⟨D, U, B, N, E, pm, hG, hS, hV, hBD⟩ := h.rd
  have hcl := h.1
  have hB := hG.B.1
  have hB6 := hG.B.2
  have hN := hG.N.1
  have hN10 := hG.N.2
  have hE := hG.E.1
  have hE20 := hG.E.2
  have hu := h.up (Nat.le_succ n)
  have hw := fun (T' : TT) (I' : II) (h' : Iv x M T' I' s s (n + 1)) => h'.2.2.2.2.2.1
  have hDD : D ≤ 40000 ∧ U ≤ 600 := by have := hBD.1; have := hBD.2; omega
  by_cases hk : okK k_
  · obtain ⟨m, m1, rfl⟩ := okK_of hk
    exact ⟨0, .int (s.w (10 + m)), s, ⟨Nat.zero_le _, fun _ => ⟨_, rfl⟩⟩, OpC.ve (q_price__v hcl hV m1) (by decide) hu, fun X9 T' I' h' => ⟨.int (s.w (10 + m)), ⟨fun _ => rfl, ⟨_, rfl⟩⟩, OpR.rd h' (hw T' I' h') (by decide) (c_price__v h'.2.1 m1)⟩⟩
  · skip
    exact ⟨1, .null, s, ⟨(by decide), fun z => absurd z (by decide)⟩, OpC.xe (q_price__x hcl hV hk) (by decide) (by decide) hu, fun X9 T' I' h' => ⟨_, ⟨fun z => absurd z (by decide), ⟨_, rfl⟩⟩, OpR.rd (k := 1) h' (hw T' I' h') (by decide) (c_price__x h'.2.1 hk)⟩⟩

theorem op_stock {g : GG} {X : va_W} {T : TT} {I : II} {x M n : Nat} {s : AS} (h : Iv x M T I s s n) (hn : n < 512) (k_ : Int32) : Op g x M n s yX9_stock cX9_stock 2 (some .int) yX10_stock cX10_stock 2 (some .int) [.int k_] [2] X T I := by
  obtain ⟨D, U, B, N, E, pm, hG, hS, hV, hBD⟩ := h.rd
  have hcl := h.1
  have hB := hG.B.1
  have hB6 := hG.B.2
  have hN := hG.N.1
  have hN10 := hG.N.2
  have hE := hG.E.1
  have hE20 := hG.E.2
  have hu := h.up (Nat.le_succ n)
  have hw := fun (T' : TT) (I' : II) (h' : Iv x M T' I' s s (n + 1)) => h'.2.2.2.2.2.1
  have hDD : D ≤ 40000 ∧ U ≤ 600 := by have := hBD.1; have := hBD.2; omega
  by_cases hk : okK k_
  · obtain ⟨m, m1, rfl⟩ := okK_of hk
    exact ⟨0, .int (s.w (14 + m)), s, ⟨Nat.zero_le _, fun _ => ⟨_, rfl⟩⟩, OpC.ve (q_stock__v hcl hV m1) (by decide) hu, fun X9 T' I' h' => ⟨.int (s.w (14 + m)), ⟨fun _ => rfl, ⟨_, rfl⟩⟩, OpR.rd h' (hw T' I' h') (by decide) (c_stock__v h'.2.1 m1)⟩⟩
  · skip
    exact ⟨1, .null, s, ⟨(by decide), fun z => absurd z (by decide)⟩, OpC.xe (q_stock__x hcl hV hk) (by decide) (by decide) hu, fun X9 T' I' h' => ⟨_, ⟨fun z => absurd z (by decide), ⟨_, rfl⟩⟩, OpR.rd (k := 1) h' (hw T' I' h') (by decide) (c_stock__x h'.2.1 hk)⟩⟩

theorem op_totalUnits {g : GG} {X : va_W} {T : TT} {I : II} {x M n : Nat} {s : AS} (h : Iv x M T I s s n) (hn : n < 512) (k_ : Int32) : Op g x M n s yX9_totalUnits cX9_totalUnits 2 (some .int) yX10_totalUnits cX10_totalUnits 2 (some .int) [.int k_] [2] X T I := by
  obtain ⟨D, U, B, N, E, pm, hG, hS, hV, hBD⟩ := h.rd
  have hcl := h.1
  have hB := hG.B.1
  have hB6 := hG.B.2
  have hN := hG.N.1
  have hN10 := hG.N.2
  have hE := hG.E.1
  have hE20 := hG.E.2
  have hu := h.up (Nat.le_succ n)
  have hw := fun (T' : TT) (I' : II) (h' : Iv x M T' I' s s (n + 1)) => h'.2.2.2.2.2.1
  have hDD : D ≤ 40000 ∧ U ≤ 600 := by have := hBD.1; have := hBD.2; omega
  by_cases hk : okK k_
  · obtain ⟨m, m1, rfl⟩ := okK_of hk
    exact ⟨0, .int (unitsC s.w B N m), s, ⟨Nat.zero_le _, fun _ => ⟨_, rfl⟩⟩, OpC.ve (q_totalUnits__v hcl hV hB hN m1) (by decide) hu, fun X9 T' I' h' => ⟨.int (unitsV s.w B N m), ⟨fun _ => congrArg Value.int (un_eq hG).symm, ⟨_, rfl⟩⟩, OpR.rd h' (hw T' I' h') (by decide) (c_totalUnits__v h'.2.1 m1 hB hB6 hN hN10)⟩⟩
  · skip
    exact ⟨1, .null, s, ⟨(by decide), fun z => absurd z (by decide)⟩, OpC.xe (q_totalUnits__x hcl hV hk) (by decide) (by decide) hu, fun X9 T' I' h' => ⟨_, ⟨fun z => absurd z (by decide), ⟨_, rfl⟩⟩, OpR.rd (k := 1) h' (hw T' I' h') (by decide) (c_totalUnits__x h'.2.1 hk)⟩⟩

theorem op_coins {g : GG} {X : va_W} {T : TT} {I : II} {x M n : Nat} {s : AS} (h : Iv x M T I s s n) (hn : n < 512) (b_ : Int32) : Op g x M n s yX9_coins cX9_coins 2 (some .int) yX10_coins cX10_coins 2 (some .int) [.int b_] [2] X T I := by
  obtain ⟨D, U, B, N, E, pm, hG, hS, hV, hBD⟩ := h.rd
  have hcl := h.1
  have hB := hG.B.1
  have hB6 := hG.B.2
  have hN := hG.N.1
  have hN10 := hG.N.2
  have hE := hG.E.1
  have hE20 := hG.E.2
  have hu := h.up (Nat.le_succ n)
  have hw := fun (T' : TT) (I' : II) (h' : Iv x M T' I' s s (n + 1)) => h'.2.2.2.2.2.1
  have hDD : D ≤ 40000 ∧ U ≤ 600 := by have := hBD.1; have := hBD.2; omega
  by_cases hb : okB B b_
  · obtain ⟨m, m1, rfl⟩ := okB_of hB6 hb
    exact ⟨0, .int (s.w (22 + 6 * m + 0)), s, ⟨Nat.zero_le _, fun _ => ⟨_, rfl⟩⟩, OpC.ve (q_coins__v hcl hV hB m1) (by decide) hu, fun X9 T' I' h' => ⟨.int (s.w (22 + 6 * m + 0)), ⟨fun _ => rfl, ⟨_, rfl⟩⟩, OpR.rd h' (hw T' I' h') (by decide) (c_coins__v h'.2.1 hB hB6 m1)⟩⟩
  · skip
    exact ⟨1, .null, s, ⟨(by decide), fun z => absurd z (by decide)⟩, OpC.xe (q_coins__x hcl hV hB hb) (by decide) (by decide) hu, fun X9 T' I' h' => ⟨_, ⟨fun z => absurd z (by decide), ⟨_, rfl⟩⟩, OpR.rd (k := 1) h' (hw T' I' h') (by decide) (c_coins__x h'.2.1 hB hB6 hb)⟩⟩

theorem op_defaults {g : GG} {X : va_W} {T : TT} {I : II} {x M n : Nat} {s : AS} (h : Iv x M T I s s n) (hn : n < 512) (b_ : Int32) : Op g x M n s yX9_defaults cX9_defaults 2 (some .int) yX10_defaults cX10_defaults 2 (some .int) [.int b_] [2] X T I := by
  obtain ⟨D, U, B, N, E, pm, hG, hS, hV, hBD⟩ := h.rd
  have hcl := h.1
  have hB := hG.B.1
  have hB6 := hG.B.2
  have hN := hG.N.1
  have hN10 := hG.N.2
  have hE := hG.E.1
  have hE20 := hG.E.2
  have hu := h.up (Nat.le_succ n)
  have hw := fun (T' : TT) (I' : II) (h' : Iv x M T' I' s s (n + 1)) => h'.2.2.2.2.2.1
  have hDD : D ≤ 40000 ∧ U ≤ 600 := by have := hBD.1; have := hBD.2; omega
  by_cases hb : okB B b_
  · obtain ⟨m, m1, rfl⟩ := okB_of hB6 hb
    exact ⟨0, .int (s.w (22 + 6 * m + 1)), s, ⟨Nat.zero_le _, fun _ => ⟨_, rfl⟩⟩, OpC.ve (q_defaults__v hcl hV hB m1) (by decide) hu, fun X9 T' I' h' => ⟨.int (s.w (22 + 6 * m + 1)), ⟨fun _ => rfl, ⟨_, rfl⟩⟩, OpR.rd h' (hw T' I' h') (by decide) (c_defaults__v h'.2.1 hB hB6 m1)⟩⟩
  · skip
    exact ⟨1, .null, s, ⟨(by decide), fun z => absurd z (by decide)⟩, OpC.xe (q_defaults__x hcl hV hB hb) (by decide) (by decide) hu, fun X9 T' I' h' => ⟨_, ⟨fun z => absurd z (by decide), ⟨_, rfl⟩⟩, OpR.rd (k := 1) h' (hw T' I' h') (by decide) (c_defaults__x h'.2.1 hB hB6 hb)⟩⟩

theorem op_canBorrow {g : GG} {X : va_W} {T : TT} {I : II} {x M n : Nat} {s : AS} (h : Iv x M T I s s n) (hn : n < 512) (b_ : Int32) : Op g x M n s yX9_canBorrow cX9_canBorrow 2 (some .boolean) yX10_canBorrow cX10_canBorrow 3 (some .boolean) [.int b_] [2] X T I := by
  obtain ⟨D, U, B, N, E, pm, hG, hS, hV, hBD⟩ := h.rd
  have hcl := h.1
  have hB := hG.B.1
  have hB6 := hG.B.2
  have hN := hG.N.1
  have hN10 := hG.N.2
  have hE := hG.E.1
  have hE20 := hG.E.2
  have hu := h.up (Nat.le_succ n)
  have hw := fun (T' : TT) (I' : II) (h' : Iv x M T' I' s s (n + 1)) => h'.2.2.2.2.2.1
  have hDD : D ≤ 40000 ∧ U ≤ 600 := by have := hBD.1; have := hBD.2; omega
  by_cases hb : okB B b_
  · obtain ⟨m, m1, rfl⟩ := okB_of hB6 hb
    exact ⟨0, .int (bI (s.w (22 + 6 * m + 1) < nI 2)), s, ⟨Nat.zero_le _, fun _ => ⟨_, rfl⟩⟩, OpC.ve (q_canBorrow__v hcl hV hB m1) (by decide) hu, fun X9 T' I' h' => ⟨.int (bI (s.w (22 + 6 * m + 1) < nI 2)), ⟨fun _ => rfl, ⟨_, rfl⟩⟩, OpR.rd h' (hw T' I' h') (by decide) (c_canBorrow__v h'.2.1 hB hB6 m1)⟩⟩
  · skip
    exact ⟨1, .null, s, ⟨(by decide), fun z => absurd z (by decide)⟩, OpC.xe (q_canBorrow__x hcl hV hB hb) (by decide) (by decide) hu, fun X9 T' I' h' => ⟨_, ⟨fun z => absurd z (by decide), ⟨_, rfl⟩⟩, OpR.rd (k := 1) h' (hw T' I' h') (by decide) (c_canBorrow__x h'.2.1 hB hB6 hb)⟩⟩

theorem op_loansOf {g : GG} {X : va_W} {T : TT} {I : II} {x M n : Nat} {s : AS} (h : Iv x M T I s s n) (hn : n < 512) (b_ : Int32) : Op g x M n s yX9_loansOf cX9_loansOf 2 (some .int) yX10_loansOf cX10_loansOf 2 (some .int) [.int b_] [2] X T I := by
  obtain ⟨D, U, B, N, E, pm, hG, hS, hV, hBD⟩ := h.rd
  have hcl := h.1
  have hB := hG.B.1
  have hB6 := hG.B.2
  have hN := hG.N.1
  have hN10 := hG.N.2
  have hE := hG.E.1
  have hE20 := hG.E.2
  have hu := h.up (Nat.le_succ n)
  have hw := fun (T' : TT) (I' : II) (h' : Iv x M T' I' s s (n + 1)) => h'.2.2.2.2.2.1
  have hDD : D ≤ 40000 ∧ U ≤ 600 := by have := hBD.1; have := hBD.2; omega
  by_cases hb : okB B b_
  · obtain ⟨m, m1, rfl⟩ := okB_of hB6 hb
    exact ⟨0, .int (withV s.w N (nI m)), s, ⟨Nat.zero_le _, fun _ => ⟨_, rfl⟩⟩, OpC.ve (q_loansOf__v hcl hV hN hB m1) (by decide) hu, fun X9 T' I' h' => ⟨.int (withV s.w N (nI m)), ⟨fun _ => rfl, ⟨_, rfl⟩⟩, OpR.rd h' (hw T' I' h') (by decide) (c_loansOf__v h'.2.1 hB hB6 hN hN10 m1)⟩⟩
  · skip
    exact ⟨1, .null, s, ⟨(by decide), fun z => absurd z (by decide)⟩, OpC.xe (q_loansOf__x hcl hV hB hb) (by decide) (by decide) hu, fun X9 T' I' h' => ⟨_, ⟨fun z => absurd z (by decide), ⟨_, rfl⟩⟩, OpR.rd (k := 1) h' (hw T' I' h') (by decide) (c_loansOf__x h'.2.1 hB hB6 hb)⟩⟩

theorem op_debtOf {g : GG} {X : va_W} {T : TT} {I : II} {x M n : Nat} {s : AS} (h : Iv x M T I s s n) (hn : n < 512) (b_ : Int32) : Op g x M n s yX9_debtOf cX9_debtOf 2 (some .int) yX10_debtOf cX10_debtOf 2 (some .int) [.int b_] [2] X T I := by
  obtain ⟨D, U, B, N, E, pm, hG, hS, hV, hBD⟩ := h.rd
  have hcl := h.1
  have hB := hG.B.1
  have hB6 := hG.B.2
  have hN := hG.N.1
  have hN10 := hG.N.2
  have hE := hG.E.1
  have hE20 := hG.E.2
  have hu := h.up (Nat.le_succ n)
  have hw := fun (T' : TT) (I' : II) (h' : Iv x M T' I' s s (n + 1)) => h'.2.2.2.2.2.1
  have hDD : D ≤ 40000 ∧ U ≤ 600 := by have := hBD.1; have := hBD.2; omega
  by_cases hb : okB B b_
  · obtain ⟨m, m1, rfl⟩ := okB_of hB6 hb
    exact ⟨0, .int (debtsV s.w N (nI m)), s, ⟨Nat.zero_le _, fun _ => ⟨_, rfl⟩⟩, OpC.ve (q_debtOf__v hcl hV hN hB m1) (by decide) hu, fun X9 T' I' h' => ⟨.int (debtsV s.w N (nI m)), ⟨fun _ => rfl, ⟨_, rfl⟩⟩, OpR.rd h' (hw T' I' h') (by decide) (c_debtOf__v h'.2.1 hB hB6 hN hN10 m1)⟩⟩
  · skip
    exact ⟨1, .null, s, ⟨(by decide), fun z => absurd z (by decide)⟩, OpC.xe (q_debtOf__x hcl hV hB hb) (by decide) (by decide) hu, fun X9 T' I' h' => ⟨_, ⟨fun z => absurd z (by decide), ⟨_, rfl⟩⟩, OpR.rd (k := 1) h' (hw T' I' h') (by decide) (c_debtOf__x h'.2.1 hB hB6 hb)⟩⟩

theorem op_wealth {g : GG} {X : va_W} {T : TT} {I : II} {x M n : Nat} {s : AS} (h : Iv x M T I s s n) (hn : n < 512) (b_ : Int32) : Op g x M n s yX9_wealth cX9_wealth 5 (some .int) yX10_wealth cX10_wealth 4 (some .int) [.int b_] [2] X T I := by
  obtain ⟨D, U, B, N, E, pm, hG, hS, hV, hBD⟩ := h.rd
  have hcl := h.1
  have hB := hG.B.1
  have hB6 := hG.B.2
  have hN := hG.N.1
  have hN10 := hG.N.2
  have hE := hG.E.1
  have hE20 := hG.E.2
  have hu := h.up (Nat.le_succ n)
  have hw := fun (T' : TT) (I' : II) (h' : Iv x M T' I' s s (n + 1)) => h'.2.2.2.2.2.1
  have hDD : D ≤ 40000 ∧ U ≤ 600 := by have := hBD.1; have := hBD.2; omega
  by_cases hb : okB B b_
  · obtain ⟨m, m1, rfl⟩ := okB_of hB6 hb
    exact ⟨0, .int (wlV s.w N m), s, ⟨Nat.zero_le _, fun _ => ⟨_, rfl⟩⟩, OpC.ve (q_wealth__v hcl hV hN hB m1) (by decide) hu, fun X9 T' I' h' => ⟨.int (wlV s.w N m), ⟨fun _ => rfl, ⟨_, rfl⟩⟩, OpR.rd h' (hw T' I' h') (by decide) (c_wealth__v h'.2.1 hB hB6 hN hN10 m1)⟩⟩
  · skip
    exact ⟨1, .null, s, ⟨(by decide), fun z => absurd z (by decide)⟩, OpC.xe (q_wealth__x hcl hV hB hb) (by decide) (by decide) hu, fun X9 T' I' h' => ⟨_, ⟨fun z => absurd z (by decide), ⟨_, rfl⟩⟩, OpR.rd (k := 1) h' (hw T' I' h') (by decide) (c_wealth__x h'.2.1 hB hB6 hb)⟩⟩

theorem op_units {g : GG} {X : va_W} {T : TT} {I : II} {x M n : Nat} {s : AS} (h : Iv x M T I s s n) (hn : n < 512) (b_ k_ : Int32) : Op g x M n s yX9_units cX9_units 4 (some .int) yX10_units cX10_units 3 (some .int) [.int b_, .int k_] [2] X T I := by
  obtain ⟨D, U, B, N, E, pm, hG, hS, hV, hBD⟩ := h.rd
  have hcl := h.1
  have hB := hG.B.1
  have hB6 := hG.B.2
  have hN := hG.N.1
  have hN10 := hG.N.2
  have hE := hG.E.1
  have hE20 := hG.E.2
  have hu := h.up (Nat.le_succ n)
  have hw := fun (T' : TT) (I' : II) (h' : Iv x M T' I' s s (n + 1)) => h'.2.2.2.2.2.1
  have hDD : D ≤ 40000 ∧ U ≤ 600 := by have := hBD.1; have := hBD.2; omega
  by_cases hb : okB B b_
  · by_cases hk : okK k_
    · obtain ⟨m, m1, rfl⟩ := okB_of hB6 hb
      obtain ⟨k, k1, rfl⟩ := okK_of hk
      exact ⟨0, .int (s.w (22 + 6 * m + (2 + k))), s, ⟨Nat.zero_le _, fun _ => ⟨_, rfl⟩⟩, OpC.ve (q_units__v hcl hV hB m1 k1) (by decide) hu, fun X9 T' I' h' => ⟨.int (s.w (22 + 6 * m + (2 + k))), ⟨fun _ => rfl, ⟨_, rfl⟩⟩, OpR.rd h' (hw T' I' h') (by decide) (c_units__v h'.2.1 hB hB6 m1 k1)⟩⟩
    · obtain ⟨m, m1, rfl⟩ := okB_of hB6 hb
      exact ⟨1, .null, s, ⟨(by decide), fun z => absurd z (by decide)⟩, OpC.xe (q_units__xk hcl hV hB m1 hk) (by decide) (by decide) hu, fun X9 T' I' h' => ⟨_, ⟨fun z => absurd z (by decide), ⟨_, rfl⟩⟩, OpR.rd (k := 1) h' (hw T' I' h') (by decide) (c_units__x h'.2.1 hB hB6 (fun z => hk z.2))⟩⟩
  · skip
    exact ⟨1, .null, s, ⟨(by decide), fun z => absurd z (by decide)⟩, OpC.xe (q_units__xb hcl hV hB hb) (by decide) (by decide) hu, fun X9 T' I' h' => ⟨_, ⟨fun z => absurd z (by decide), ⟨_, rfl⟩⟩, OpR.rd (k := 1) h' (hw T' I' h') (by decide) (c_units__x h'.2.1 hB hB6 (fun z => hb z.1))⟩⟩

theorem op_pledgedUnits {g : GG} {X : va_W} {T : TT} {I : II} {x M n : Nat} {s : AS} (h : Iv x M T I s s n) (hn : n < 512) (b_ k_ : Int32) : Op g x M n s yX9_pledgedUnits cX9_pledgedUnits 3 (some .int) yX10_pledgedUnits cX10_pledgedUnits 3 (some .int) [.int b_, .int k_] [2] X T I := by
  obtain ⟨D, U, B, N, E, pm, hG, hS, hV, hBD⟩ := h.rd
  have hcl := h.1
  have hB := hG.B.1
  have hB6 := hG.B.2
  have hN := hG.N.1
  have hN10 := hG.N.2
  have hE := hG.E.1
  have hE20 := hG.E.2
  have hu := h.up (Nat.le_succ n)
  have hw := fun (T' : TT) (I' : II) (h' : Iv x M T' I' s s (n + 1)) => h'.2.2.2.2.2.1
  have hDD : D ≤ 40000 ∧ U ≤ 600 := by have := hBD.1; have := hBD.2; omega
  by_cases hb : okB B b_
  · by_cases hk : okK k_
    · obtain ⟨m, m1, rfl⟩ := okB_of hB6 hb
      obtain ⟨k, k1, rfl⟩ := okK_of hk
      exact ⟨0, .int (pledV s.w N (nI m) k), s, ⟨Nat.zero_le _, fun _ => ⟨_, rfl⟩⟩, OpC.ve (q_pledgedUnits__v hcl hV hN hB m1 k1) (by decide) hu, fun X9 T' I' h' => ⟨.int (pledV s.w N (nI m) k), ⟨fun _ => rfl, ⟨_, rfl⟩⟩, OpR.rd h' (hw T' I' h') (by decide) (c_pledgedUnits__v h'.2.1 hB hB6 hN hN10 m1 k1)⟩⟩
    · obtain ⟨m, m1, rfl⟩ := okB_of hB6 hb
      exact ⟨1, .null, s, ⟨(by decide), fun z => absurd z (by decide)⟩, OpC.xe (q_pledgedUnits__xk hcl hV hB m1 hk) (by decide) (by decide) hu, fun X9 T' I' h' => ⟨_, ⟨fun z => absurd z (by decide), ⟨_, rfl⟩⟩, OpR.rd (k := 1) h' (hw T' I' h') (by decide) (c_pledgedUnits__x h'.2.1 hB hB6 (fun z => hk z.2))⟩⟩
  · skip
    exact ⟨1, .null, s, ⟨(by decide), fun z => absurd z (by decide)⟩, OpC.xe (q_pledgedUnits__xb hcl hV hB hb) (by decide) (by decide) hu, fun X9 T' I' h' => ⟨_, ⟨fun z => absurd z (by decide), ⟨_, rfl⟩⟩, OpR.rd (k := 1) h' (hw T' I' h') (by decide) (c_pledgedUnits__x h'.2.1 hB hB6 (fun z => hb z.1))⟩⟩

theorem op_borrowerOf {g : GG} {X : va_W} {T : TT} {I : II} {x M n : Nat} {s : AS} (h : Iv x M T I s s n) (hn : n < 512) (id : Int32) : Op g x M n s yX9_borrowerOf cX9_borrowerOf 2 (some .int) yX10_borrowerOf cX10_borrowerOf 2 (some .int) [.int id] [1] X T I := by
  obtain ⟨D, U, B, N, E, pm, hG, hS, hV, hBD⟩ := h.rd
  have hcl := h.1
  have hB := hG.B.1
  have hB6 := hG.B.2
  have hN := hG.N.1
  have hN10 := hG.N.2
  have hE := hG.E.1
  have hE20 := hG.E.2
  have hu := h.up (Nat.le_succ n)
  have hw := fun (T' : TT) (I' : II) (h' : Iv x M T' I' s s (n + 1)) => h'.2.2.2.2.2.1
  have hDD : D ≤ 40000 ∧ U ≤ 600 := by have := hBD.1; have := hBD.2; omega
  have ha := slV_at s.w N id
  rcases atS_or ha with ⟨r, r1, r2, -⟩ | r2
  all_goals rw [r2] at ha
  · skip
    exact ⟨0, .int (s.w (58 + 10 * r + 1)), s, ⟨Nat.zero_le _, fun _ => ⟨_, rfl⟩⟩, OpC.ve (q_borrowerOf__s hcl hV hN r1 ha) (by decide) hu, fun X9 T' I' h' => ⟨.int (s.w (58 + 10 * r + 1)), ⟨fun _ => rfl, ⟨_, rfl⟩⟩, OpR.rd h' (hw T' I' h') (by decide) (c_borrowerOf__s h'.2.1 hN hN10 r1 ha)⟩⟩
  · skip
    exact ⟨1, .null, s, ⟨(by decide), fun z => absurd z (by decide)⟩, OpC.xe (q_borrowerOf__n hcl hV hN ha) (by decide) (by decide) hu, fun X9 T' I' h' => ⟨_, ⟨fun z => absurd z (by decide), ⟨_, rfl⟩⟩, OpR.rd (k := 1) h' (hw T' I' h') (by decide) (c_borrowerOf__n h'.2.1 hN hN10 ha)⟩⟩

theorem op_principal {g : GG} {X : va_W} {T : TT} {I : II} {x M n : Nat} {s : AS} (h : Iv x M T I s s n) (hn : n < 512) (id : Int32) : Op g x M n s yX9_principal cX9_principal 2 (some .int) yX10_principal cX10_principal 2 (some .int) [.int id] [1] X T I := by
  obtain ⟨D, U, B, N, E, pm, hG, hS, hV, hBD⟩ := h.rd
  have hcl := h.1
  have hB := hG.B.1
  have hB6 := hG.B.2
  have hN := hG.N.1
  have hN10 := hG.N.2
  have hE := hG.E.1
  have hE20 := hG.E.2
  have hu := h.up (Nat.le_succ n)
  have hw := fun (T' : TT) (I' : II) (h' : Iv x M T' I' s s (n + 1)) => h'.2.2.2.2.2.1
  have hDD : D ≤ 40000 ∧ U ≤ 600 := by have := hBD.1; have := hBD.2; omega
  have ha := slV_at s.w N id
  rcases atS_or ha with ⟨r, r1, r2, -⟩ | r2
  all_goals rw [r2] at ha
  · skip
    exact ⟨0, .int (s.w (58 + 10 * r + 2)), s, ⟨Nat.zero_le _, fun _ => ⟨_, rfl⟩⟩, OpC.ve (q_principal__s hcl hV hN r1 ha) (by decide) hu, fun X9 T' I' h' => ⟨.int (s.w (58 + 10 * r + 2)), ⟨fun _ => rfl, ⟨_, rfl⟩⟩, OpR.rd h' (hw T' I' h') (by decide) (c_principal__s h'.2.1 hN hN10 r1 ha)⟩⟩
  · skip
    exact ⟨1, .null, s, ⟨(by decide), fun z => absurd z (by decide)⟩, OpC.xe (q_principal__n hcl hV hN ha) (by decide) (by decide) hu, fun X9 T' I' h' => ⟨_, ⟨fun z => absurd z (by decide), ⟨_, rfl⟩⟩, OpR.rd (k := 1) h' (hw T' I' h') (by decide) (c_principal__n h'.2.1 hN hN10 ha)⟩⟩

theorem op_interest {g : GG} {X : va_W} {T : TT} {I : II} {x M n : Nat} {s : AS} (h : Iv x M T I s s n) (hn : n < 512) (id : Int32) : Op g x M n s yX9_interest cX9_interest 2 (some .int) yX10_interest cX10_interest 2 (some .int) [.int id] [1] X T I := by
  obtain ⟨D, U, B, N, E, pm, hG, hS, hV, hBD⟩ := h.rd
  have hcl := h.1
  have hB := hG.B.1
  have hB6 := hG.B.2
  have hN := hG.N.1
  have hN10 := hG.N.2
  have hE := hG.E.1
  have hE20 := hG.E.2
  have hu := h.up (Nat.le_succ n)
  have hw := fun (T' : TT) (I' : II) (h' : Iv x M T' I' s s (n + 1)) => h'.2.2.2.2.2.1
  have hDD : D ≤ 40000 ∧ U ≤ 600 := by have := hBD.1; have := hBD.2; omega
  have ha := slV_at s.w N id
  rcases atS_or ha with ⟨r, r1, r2, -⟩ | r2
  all_goals rw [r2] at ha
  · skip
    exact ⟨0, .int (s.w (58 + 10 * r + 3)), s, ⟨Nat.zero_le _, fun _ => ⟨_, rfl⟩⟩, OpC.ve (q_interest__s hcl hV hN r1 ha) (by decide) hu, fun X9 T' I' h' => ⟨.int (s.w (58 + 10 * r + 3)), ⟨fun _ => rfl, ⟨_, rfl⟩⟩, OpR.rd h' (hw T' I' h') (by decide) (c_interest__s h'.2.1 hN hN10 r1 ha)⟩⟩
  · skip
    exact ⟨1, .null, s, ⟨(by decide), fun z => absurd z (by decide)⟩, OpC.xe (q_interest__n hcl hV hN ha) (by decide) (by decide) hu, fun X9 T' I' h' => ⟨_, ⟨fun z => absurd z (by decide), ⟨_, rfl⟩⟩, OpR.rd (k := 1) h' (hw T' I' h') (by decide) (c_interest__n h'.2.1 hN hN10 ha)⟩⟩

theorem op_rate {g : GG} {X : va_W} {T : TT} {I : II} {x M n : Nat} {s : AS} (h : Iv x M T I s s n) (hn : n < 512) (id : Int32) : Op g x M n s yX9_rate cX9_rate 2 (some .int) yX10_rate cX10_rate 2 (some .int) [.int id] [1] X T I := by
  obtain ⟨D, U, B, N, E, pm, hG, hS, hV, hBD⟩ := h.rd
  have hcl := h.1
  have hB := hG.B.1
  have hB6 := hG.B.2
  have hN := hG.N.1
  have hN10 := hG.N.2
  have hE := hG.E.1
  have hE20 := hG.E.2
  have hu := h.up (Nat.le_succ n)
  have hw := fun (T' : TT) (I' : II) (h' : Iv x M T' I' s s (n + 1)) => h'.2.2.2.2.2.1
  have hDD : D ≤ 40000 ∧ U ≤ 600 := by have := hBD.1; have := hBD.2; omega
  have ha := slV_at s.w N id
  rcases atS_or ha with ⟨r, r1, r2, -⟩ | r2
  all_goals rw [r2] at ha
  · skip
    exact ⟨0, .int (s.w (58 + 10 * r + 4)), s, ⟨Nat.zero_le _, fun _ => ⟨_, rfl⟩⟩, OpC.ve (q_rate__s hcl hV hN r1 ha) (by decide) hu, fun X9 T' I' h' => ⟨.int (s.w (58 + 10 * r + 4)), ⟨fun _ => rfl, ⟨_, rfl⟩⟩, OpR.rd h' (hw T' I' h') (by decide) (c_rate__s h'.2.1 hN hN10 r1 ha)⟩⟩
  · skip
    exact ⟨1, .null, s, ⟨(by decide), fun z => absurd z (by decide)⟩, OpC.xe (q_rate__n hcl hV hN ha) (by decide) (by decide) hu, fun X9 T' I' h' => ⟨_, ⟨fun z => absurd z (by decide), ⟨_, rfl⟩⟩, OpR.rd (k := 1) h' (hw T' I' h') (by decide) (c_rate__n h'.2.1 hN hN10 ha)⟩⟩

theorem op_dueDay {g : GG} {X : va_W} {T : TT} {I : II} {x M n : Nat} {s : AS} (h : Iv x M T I s s n) (hn : n < 512) (id : Int32) : Op g x M n s yX9_dueDay cX9_dueDay 2 (some .int) yX10_dueDay cX10_dueDay 2 (some .int) [.int id] [1] X T I := by
  obtain ⟨D, U, B, N, E, pm, hG, hS, hV, hBD⟩ := h.rd
  have hcl := h.1
  have hB := hG.B.1
  have hB6 := hG.B.2
  have hN := hG.N.1
  have hN10 := hG.N.2
  have hE := hG.E.1
  have hE20 := hG.E.2
  have hu := h.up (Nat.le_succ n)
  have hw := fun (T' : TT) (I' : II) (h' : Iv x M T' I' s s (n + 1)) => h'.2.2.2.2.2.1
  have hDD : D ≤ 40000 ∧ U ≤ 600 := by have := hBD.1; have := hBD.2; omega
  have ha := slV_at s.w N id
  rcases atS_or ha with ⟨r, r1, r2, -⟩ | r2
  all_goals rw [r2] at ha
  · skip
    exact ⟨0, .int (s.w (58 + 10 * r + 5)), s, ⟨Nat.zero_le _, fun _ => ⟨_, rfl⟩⟩, OpC.ve (q_dueDay__s hcl hV hN r1 ha) (by decide) hu, fun X9 T' I' h' => ⟨.int (s.w (58 + 10 * r + 5)), ⟨fun _ => rfl, ⟨_, rfl⟩⟩, OpR.rd h' (hw T' I' h') (by decide) (c_dueDay__s h'.2.1 hN hN10 r1 ha)⟩⟩
  · skip
    exact ⟨1, .null, s, ⟨(by decide), fun z => absurd z (by decide)⟩, OpC.xe (q_dueDay__n hcl hV hN ha) (by decide) (by decide) hu, fun X9 T' I' h' => ⟨_, ⟨fun z => absurd z (by decide), ⟨_, rfl⟩⟩, OpR.rd (k := 1) h' (hw T' I' h') (by decide) (c_dueDay__n h'.2.1 hN hN10 ha)⟩⟩

theorem op_debt {g : GG} {X : va_W} {T : TT} {I : II} {x M n : Nat} {s : AS} (h : Iv x M T I s s n) (hn : n < 512) (id : Int32) : Op g x M n s yX9_debt cX9_debt 2 (some .int) yX10_debt cX10_debt 2 (some .int) [.int id] [1] X T I := by
  obtain ⟨D, U, B, N, E, pm, hG, hS, hV, hBD⟩ := h.rd
  have hcl := h.1
  have hB := hG.B.1
  have hB6 := hG.B.2
  have hN := hG.N.1
  have hN10 := hG.N.2
  have hE := hG.E.1
  have hE20 := hG.E.2
  have hu := h.up (Nat.le_succ n)
  have hw := fun (T' : TT) (I' : II) (h' : Iv x M T' I' s s (n + 1)) => h'.2.2.2.2.2.1
  have hDD : D ≤ 40000 ∧ U ≤ 600 := by have := hBD.1; have := hBD.2; omega
  have ha := slV_at s.w N id
  rcases atS_or ha with ⟨r, r1, r2, -⟩ | r2
  all_goals rw [r2] at ha
  · skip
    exact ⟨0, .int (debtV s.w r), s, ⟨Nat.zero_le _, fun _ => ⟨_, rfl⟩⟩, OpC.ve (q_debt__s hcl hV hN r1 ha) (by decide) hu, fun X9 T' I' h' => ⟨.int (debtV s.w r), ⟨fun _ => rfl, ⟨_, rfl⟩⟩, OpR.rd h' (hw T' I' h') (by decide) (c_debt__s h'.2.1 hN hN10 r1 ha)⟩⟩
  · skip
    exact ⟨1, .null, s, ⟨(by decide), fun z => absurd z (by decide)⟩, OpC.xe (q_debt__n hcl hV hN ha) (by decide) (by decide) hu, fun X9 T' I' h' => ⟨_, ⟨fun z => absurd z (by decide), ⟨_, rfl⟩⟩, OpR.rd (k := 1) h' (hw T' I' h') (by decide) (c_debt__n h'.2.1 hN hN10 ha)⟩⟩

theorem op_collateralValue {g : GG} {X : va_W} {T : TT} {I : II} {x M n : Nat} {s : AS} (h : Iv x M T I s s n) (hn : n < 512) (id : Int32) : Op g x M n s yX9_collateralValue cX9_collateralValue 2 (some .int) yX10_collateralValue cX10_collateralValue 2 (some .int) [.int id] [1] X T I := by
  obtain ⟨D, U, B, N, E, pm, hG, hS, hV, hBD⟩ := h.rd
  have hcl := h.1
  have hB := hG.B.1
  have hB6 := hG.B.2
  have hN := hG.N.1
  have hN10 := hG.N.2
  have hE := hG.E.1
  have hE20 := hG.E.2
  have hu := h.up (Nat.le_succ n)
  have hw := fun (T' : TT) (I' : II) (h' : Iv x M T' I' s s (n + 1)) => h'.2.2.2.2.2.1
  have hDD : D ≤ 40000 ∧ U ≤ 600 := by have := hBD.1; have := hBD.2; omega
  have ha := slV_at s.w N id
  rcases atS_or ha with ⟨r, r1, r2, -⟩ | r2
  all_goals rw [r2] at ha
  · skip
    exact ⟨0, .int (valV s.w r), s, ⟨Nat.zero_le _, fun _ => ⟨_, rfl⟩⟩, OpC.ve (q_collateralValue__s hcl hV hN r1 ha) (by decide) hu, fun X9 T' I' h' => ⟨.int (valV s.w r), ⟨fun _ => rfl, ⟨_, rfl⟩⟩, OpR.rd h' (hw T' I' h') (by decide) (c_collateralValue__s h'.2.1 hN hN10 r1 ha)⟩⟩
  · skip
    exact ⟨1, .null, s, ⟨(by decide), fun z => absurd z (by decide)⟩, OpC.xe (q_collateralValue__n hcl hV hN ha) (by decide) (by decide) hu, fun X9 T' I' h' => ⟨_, ⟨fun z => absurd z (by decide), ⟨_, rfl⟩⟩, OpR.rd (k := 1) h' (hw T' I' h') (by decide) (c_collateralValue__n h'.2.1 hN hN10 ha)⟩⟩

theorem op_isCovered {g : GG} {X : va_W} {T : TT} {I : II} {x M n : Nat} {s : AS} (h : Iv x M T I s s n) (hn : n < 512) (id : Int32) : Op g x M n s yX9_isCovered cX9_isCovered 3 (some .boolean) yX10_isCovered cX10_isCovered 2 (some .boolean) [.int id] [1] X T I := by
  obtain ⟨D, U, B, N, E, pm, hG, hS, hV, hBD⟩ := h.rd
  have hcl := h.1
  have hB := hG.B.1
  have hB6 := hG.B.2
  have hN := hG.N.1
  have hN10 := hG.N.2
  have hE := hG.E.1
  have hE20 := hG.E.2
  have hu := h.up (Nat.le_succ n)
  have hw := fun (T' : TT) (I' : II) (h' : Iv x M T' I' s s (n + 1)) => h'.2.2.2.2.2.1
  have hDD : D ≤ 40000 ∧ U ≤ 600 := by have := hBD.1; have := hBD.2; omega
  have ha := slV_at s.w N id
  rcases atS_or ha with ⟨r, r1, r2, -⟩ | r2
  all_goals rw [r2] at ha
  · skip
    exact ⟨0, .int (bI (nI 3 * debtV s.w r ≤ nI 2 * valV s.w r)), s, ⟨Nat.zero_le _, fun _ => ⟨_, rfl⟩⟩, OpC.ve (q_isCovered__s hcl hV hN r1 ha) (by decide) hu, fun X9 T' I' h' => ⟨.int (bI (nI 3 * debtV s.w r ≤ nI 2 * valV s.w r)), ⟨fun _ => rfl, ⟨_, rfl⟩⟩, OpR.rd h' (hw T' I' h') (by decide) (c_isCovered__s h'.2.1 hN hN10 r1 ha)⟩⟩
  · skip
    exact ⟨1, .null, s, ⟨(by decide), fun z => absurd z (by decide)⟩, OpC.xe (q_isCovered__n hcl hV hN ha) (by decide) (by decide) hu, fun X9 T' I' h' => ⟨_, ⟨fun z => absurd z (by decide), ⟨_, rfl⟩⟩, OpR.rd (k := 1) h' (hw T' I' h') (by decide) (c_isCovered__n h'.2.1 hN hN10 ha)⟩⟩

theorem op_exists {g : GG} {X : va_W} {T : TT} {I : II} {x M n : Nat} {s : AS} (h : Iv x M T I s s n) (hn : n < 512) (id : Int32) : Op g x M n s yX9_exists cX9_exists 2 (some .boolean) yX10_exists cX10_exists 2 (some .boolean) [.int id] [] X T I := by
  obtain ⟨D, U, B, N, E, pm, hG, hS, hV, hBD⟩ := h.rd
  have hcl := h.1
  have hB := hG.B.1
  have hB6 := hG.B.2
  have hN := hG.N.1
  have hN10 := hG.N.2
  have hE := hG.E.1
  have hE20 := hG.E.2
  have hu := h.up (Nat.le_succ n)
  have hw := fun (T' : TT) (I' : II) (h' : Iv x M T' I' s s (n + 1)) => h'.2.2.2.2.2.1
  have hDD : D ≤ 40000 ∧ U ≤ 600 := by have := hBD.1; have := hBD.2; omega
  have ha := slV_at s.w N id
  rcases atS_or ha with ⟨r, r1, r2, -⟩ | r2
  all_goals rw [r2] at ha
  · skip
    exact ⟨0, .int (nI 1), s, ⟨Nat.zero_le _, fun _ => ⟨_, rfl⟩⟩, OpC.ve (q_exists__s hcl hV hN r1 ha) (by decide) hu, fun X9 T' I' h' => ⟨.int (nI 1), ⟨fun _ => rfl, ⟨_, rfl⟩⟩, OpR.rd h' (hw T' I' h') (by decide) (c_exists__s h'.2.1 hN hN10 r1 ha)⟩⟩
  · skip
    exact ⟨0, .int (nI 0), s, ⟨Nat.zero_le _, fun _ => ⟨_, rfl⟩⟩, OpC.ve (q_exists__n hcl hV hN ha) (by decide) hu, fun X9 T' I' h' => ⟨.int (nI 0), ⟨fun _ => rfl, ⟨_, rfl⟩⟩, OpR.rd h' (hw T' I' h') (by decide) (c_exists__n h'.2.1 hN hN10 ha)⟩⟩

theorem op_daysToDefault {g : GG} {X : va_W} {T : TT} {I : II} {x M n : Nat} {s : AS} (h : Iv x M T I s s n) (hn : n < 512) (id : Int32) : Op g x M n s yX9_daysToDefault cX9_daysToDefault 2 (some .int) yX10_daysToDefault cX10_daysToDefault 2 (some .int) [.int id] [1] X T I := by
  obtain ⟨D, U, B, N, E, pm, hG, hS, hV, hBD⟩ := h.rd
  have hcl := h.1
  have hB := hG.B.1
  have hB6 := hG.B.2
  have hN := hG.N.1
  have hN10 := hG.N.2
  have hE := hG.E.1
  have hE20 := hG.E.2
  have hu := h.up (Nat.le_succ n)
  have hw := fun (T' : TT) (I' : II) (h' : Iv x M T' I' s s (n + 1)) => h'.2.2.2.2.2.1
  have hDD : D ≤ 40000 ∧ U ≤ 600 := by have := hBD.1; have := hBD.2; omega
  have ha := slV_at s.w N id
  rcases atS_or ha with ⟨r, r1, r2, -⟩ | r2
  all_goals rw [r2] at ha
  · obtain ⟨K, K1, K2⟩ := dl_n hG hS r1
    exact ⟨0, .int (dlV s.w r), s, ⟨Nat.zero_le _, fun _ => ⟨_, rfl⟩⟩, OpC.ve (q_daysToDefault__s hcl hV hN r1 ha) (by decide) hu, fun X9 T' I' h' => ⟨.int (nI K), ⟨fun _ => congrArg Value.int K1.symm, ⟨_, rfl⟩⟩, OpR.rd h' (hw T' I' h') (by decide) (c_daysToDefault__s h'.2.1 hN hN10 r1 ha K2)⟩⟩
  · skip
    exact ⟨1, .null, s, ⟨(by decide), fun z => absurd z (by decide)⟩, OpC.xe (q_daysToDefault__n hcl hV hN ha) (by decide) (by decide) hu, fun X9 T' I' h' => ⟨_, ⟨fun z => absurd z (by decide), ⟨_, rfl⟩⟩, OpR.rd (k := 1) h' (hw T' I' h') (by decide) (c_daysToDefault__n h'.2.1 hN hN10 ha)⟩⟩

theorem op_collateral {g : GG} {X : va_W} {T : TT} {I : II} {x M n : Nat} {s : AS} (h : Iv x M T I s s n) (hn : n < 512) (id k_ : Int32) : Op g x M n s yX9_collateral cX9_collateral 4 (some .int) yX10_collateral cX10_collateral 3 (some .int) [.int id, .int k_] [1, 2] X T I := by
  obtain ⟨D, U, B, N, E, pm, hG, hS, hV, hBD⟩ := h.rd
  have hcl := h.1
  have hB := hG.B.1
  have hB6 := hG.B.2
  have hN := hG.N.1
  have hN10 := hG.N.2
  have hE := hG.E.1
  have hE20 := hG.E.2
  have hu := h.up (Nat.le_succ n)
  have hw := fun (T' : TT) (I' : II) (h' : Iv x M T' I' s s (n + 1)) => h'.2.2.2.2.2.1
  have hDD : D ≤ 40000 ∧ U ≤ 600 := by have := hBD.1; have := hBD.2; omega
  have ha := slV_at s.w N id
  rcases atS_or ha with ⟨r, r1, r2, -⟩ | r2
  all_goals rw [r2] at ha
  · by_cases hk : okK k_
    · obtain ⟨k, k1, rfl⟩ := okK_of hk
      exact ⟨0, .int (s.w (58 + 10 * r + (6 + k))), s, ⟨Nat.zero_le _, fun _ => ⟨_, rfl⟩⟩, OpC.ve (q_collateral__s hcl hV hN r1 ha k1) (by decide) hu, fun X9 T' I' h' => ⟨.int (s.w (58 + 10 * r + (6 + k))), ⟨fun _ => rfl, ⟨_, rfl⟩⟩, OpR.rd h' (hw T' I' h') (by decide) (c_collateral__s h'.2.1 hN hN10 r1 ha k1)⟩⟩
    · skip
      exact ⟨2, .null, s, ⟨(by decide), fun z => absurd z (by decide)⟩, OpC.xe (q_collateral__x hcl hV hN r1 ha hk) (by decide) (by decide) hu, fun X9 T' I' h' => ⟨_, ⟨fun z => absurd z (by decide), ⟨_, rfl⟩⟩, OpR.rd (k := 2) h' (hw T' I' h') (by decide) (c_collateral__x h'.2.1 hN hN10 r1 ha hk)⟩⟩
  · skip
    exact ⟨1, .null, s, ⟨(by decide), fun z => absurd z (by decide)⟩, OpC.xe (q_collateral__n hcl hV hN ha) (by decide) (by decide) hu, fun X9 T' I' h' => ⟨_, ⟨fun z => absurd z (by decide), ⟨_, rfl⟩⟩, OpR.rd (k := 1) h' (hw T' I' h') (by decide) (c_collateral__n h'.2.1 hN hN10 ha)⟩⟩

theorem op_missingUnits {g : GG} {X : va_W} {T : TT} {I : II} {x M n : Nat} {s : AS} (h : Iv x M T I s s n) (hn : n < 512) (id k_ : Int32) : Op g x M n s yX9_missingUnits cX9_missingUnits 5 (some .int) yX10_missingUnits cX10_missingUnits 5 (some .int) [.int id, .int k_] [1, 2] X T I := by
  obtain ⟨D, U, B, N, E, pm, hG, hS, hV, hBD⟩ := h.rd
  have hcl := h.1
  have hB := hG.B.1
  have hB6 := hG.B.2
  have hN := hG.N.1
  have hN10 := hG.N.2
  have hE := hG.E.1
  have hE20 := hG.E.2
  have hu := h.up (Nat.le_succ n)
  have hw := fun (T' : TT) (I' : II) (h' : Iv x M T' I' s s (n + 1)) => h'.2.2.2.2.2.1
  have hDD : D ≤ 40000 ∧ U ≤ 600 := by have := hBD.1; have := hBD.2; omega
  have ha := slV_at s.w N id
  rcases atS_or ha with ⟨r, r1, r2, -⟩ | r2
  all_goals rw [r2] at ha
  · by_cases hk : okK k_
    · obtain ⟨k, k1, rfl⟩ := okK_of hk
      obtain ⟨K, K1, K2⟩ := mu_n hG r1 k1
      exact ⟨0, .int (muC s.w r k), s, ⟨Nat.zero_le _, fun _ => ⟨_, rfl⟩⟩, OpC.ve (q_missingUnits__s hcl hV hN r1 ha k1) (by decide) hu, fun X9 T' I' h' => ⟨.int (nI K), ⟨fun _ => congrArg Value.int K1.symm, ⟨_, rfl⟩⟩, OpR.rd h' (hw T' I' h') (by decide) (c_missingUnits__s h'.2.1 hN hN10 r1 ha k1 K2)⟩⟩
    · skip
      exact ⟨2, .null, s, ⟨(by decide), fun z => absurd z (by decide)⟩, OpC.xe (q_missingUnits__x hcl hV hN r1 ha hk) (by decide) (by decide) hu, fun X9 T' I' h' => ⟨_, ⟨fun z => absurd z (by decide), ⟨_, rfl⟩⟩, OpR.rd (k := 2) h' (hw T' I' h') (by decide) (c_missingUnits__x h'.2.1 hN hN10 r1 ha hk)⟩⟩
  · skip
    exact ⟨1, .null, s, ⟨(by decide), fun z => absurd z (by decide)⟩, OpC.xe (q_missingUnits__n hcl hV hN ha) (by decide) (by decide) hu, fun X9 T' I' h' => ⟨_, ⟨fun z => absurd z (by decide), ⟨_, rfl⟩⟩, OpR.rd (k := 1) h' (hw T' I' h') (by decide) (c_missingUnits__n h'.2.1 hN hN10 ha)⟩⟩

theorem op_interestAfter {g : GG} {X : va_W} {T : TT} {I : II} {x M n : Nat} {s : AS} (h : Iv x M T I s s n) (hn : n < 512) (id d_ : Int32) : Op g x M n s yX9_interestAfter cX9_interestAfter 4 (some .int) yX10_interestAfter cX10_interestAfter 4 (some .int) [.int id, .int d_] [1, 3] X T I := by
  obtain ⟨D, U, B, N, E, pm, hG, hS, hV, hBD⟩ := h.rd
  have hcl := h.1
  have hB := hG.B.1
  have hB6 := hG.B.2
  have hN := hG.N.1
  have hN10 := hG.N.2
  have hE := hG.E.1
  have hE20 := hG.E.2
  have hu := h.up (Nat.le_succ n)
  have hw := fun (T' : TT) (I' : II) (h' : Iv x M T' I' s s (n + 1)) => h'.2.2.2.2.2.1
  have hDD : D ≤ 40000 ∧ U ≤ 600 := by have := hBD.1; have := hBD.2; omega
  have ha := slV_at s.w N id
  rcases atS_or ha with ⟨r, r1, r2, -⟩ | r2
  all_goals rw [r2] at ha
  · by_cases hd : okR 0 60 d_
    · skip
      exact ⟨0, .int (s.w (58 + 10 * r + 3) + d_ * dayV s.w r), s, ⟨Nat.zero_le _, fun _ => ⟨_, rfl⟩⟩, OpC.ve (q_interestAfter__s hcl hV hN r1 ha hd) (by decide) hu, fun X9 T' I' h' => ⟨.int (s.w (58 + 10 * r + 3) + d_ * dayV s.w r), ⟨fun _ => rfl, ⟨_, rfl⟩⟩, OpR.rd h' (hw T' I' h') (by decide) (c_interestAfter__s h'.2.1 hN hN10 r1 ha hd)⟩⟩
    · skip
      exact ⟨2, .null, s, ⟨(by decide), fun z => absurd z (by decide)⟩, OpC.xe (q_interestAfter__x hcl hV hN r1 ha hd) (by decide) (by decide) hu, fun X9 T' I' h' => ⟨_, ⟨fun z => absurd z (by decide), ⟨_, rfl⟩⟩, OpR.rd (k := 2) h' (hw T' I' h') (by decide) (c_interestAfter__x h'.2.1 hN hN10 r1 ha hd)⟩⟩
  · skip
    exact ⟨1, .null, s, ⟨(by decide), fun z => absurd z (by decide)⟩, OpC.xe (q_interestAfter__n hcl hV hN ha) (by decide) (by decide) hu, fun X9 T' I' h' => ⟨_, ⟨fun z => absurd z (by decide), ⟨_, rfl⟩⟩, OpR.rd (k := 1) h' (hw T' I' h') (by decide) (c_interestAfter__n h'.2.1 hN hN10 ha)⟩⟩

theorem op_idAt {g : GG} {X : va_W} {T : TT} {I : II} {x M n : Nat} {s : AS} (h : Iv x M T I s s n) (hn : n < 512) (p_ : Int32) : Op g x M n s yX9_idAt cX9_idAt 2 (some .int) yX10_idAt cX10_idAt 2 (some .int) [.int p_] [2] X T I := by
  obtain ⟨D, U, B, N, E, pm, hG, hS, hV, hBD⟩ := h.rd
  have hcl := h.1
  have hB := hG.B.1
  have hB6 := hG.B.2
  have hN := hG.N.1
  have hN10 := hG.N.2
  have hE := hG.E.1
  have hE20 := hG.E.2
  have hu := h.up (Nat.le_succ n)
  have hw := fun (T' : TT) (I' : II) (h' : Iv x M T' I' s s (n + 1)) => h'.2.2.2.2.2.1
  have hDD : D ≤ 40000 ∧ U ≤ 600 := by have := hBD.1; have := hBD.2; omega
  by_cases hp : okN N p_
  · obtain ⟨m, m1, rfl⟩ := okN_of (by omega) hp
    exact ⟨0, .int (s.w (58 + 10 * m + 0)), s, ⟨Nat.zero_le _, fun _ => ⟨_, rfl⟩⟩, OpC.ve (q_idAt__v hcl hV hN m1) (by decide) hu, fun X9 T' I' h' => ⟨.int (s.w (58 + 10 * m + 0)), ⟨fun _ => rfl, ⟨_, rfl⟩⟩, OpR.rd h' (hw T' I' h') (by decide) (c_idAt__v h'.2.1 hN hN10 m1)⟩⟩
  · skip
    exact ⟨1, .null, s, ⟨(by decide), fun z => absurd z (by decide)⟩, OpC.xe (q_idAt__x hcl hV hN hp) (by decide) (by decide) hu, fun X9 T' I' h' => ⟨_, ⟨fun z => absurd z (by decide), ⟨_, rfl⟩⟩, OpR.rd (k := 1) h' (hw T' I' h') (by decide) (c_idAt__x h'.2.1 hN hN10 hp)⟩⟩

theorem op_ledgerDay {g : GG} {X : va_W} {T : TT} {I : II} {x M n : Nat} {s : AS} (h : Iv x M T I s s n) (hn : n < 512) (p_ : Int32) : Op g x M n s yX9_ledgerDay cX9_ledgerDay 2 (some .int) yX10_ledgerDay cX10_ledgerDay 2 (some .int) [.int p_] [1] X T I := by
  obtain ⟨D, U, B, N, E, pm, hG, hS, hV, hBD⟩ := h.rd
  have hcl := h.1
  have hB := hG.B.1
  have hB6 := hG.B.2
  have hN := hG.N.1
  have hN10 := hG.N.2
  have hE := hG.E.1
  have hE20 := hG.E.2
  have hu := h.up (Nat.le_succ n)
  have hw := fun (T' : TT) (I' : II) (h' : Iv x M T' I' s s (n + 1)) => h'.2.2.2.2.2.1
  have hDD : D ≤ 40000 ∧ U ≤ 600 := by have := hBD.1; have := hBD.2; omega
  by_cases hp : okN E p_
  · obtain ⟨m, m1, rfl⟩ := okN_of (by omega) hp
    exact ⟨0, .int (s.w (158 + 3 * m + 0)), s, ⟨Nat.zero_le _, fun _ => ⟨_, rfl⟩⟩, OpC.ve (q_ledgerDay__v hcl hV hE m1) (by decide) hu, fun X9 T' I' h' => ⟨.int (s.w (158 + 3 * m + 0)), ⟨fun _ => rfl, ⟨_, rfl⟩⟩, OpR.rd h' (hw T' I' h') (by decide) (c_ledgerDay__v h'.2.1 hE hE20 m1)⟩⟩
  · skip
    exact ⟨1, .null, s, ⟨(by decide), fun z => absurd z (by decide)⟩, OpC.xe (q_ledgerDay__x hcl hV hE hp) (by decide) (by decide) hu, fun X9 T' I' h' => ⟨_, ⟨fun z => absurd z (by decide), ⟨_, rfl⟩⟩, OpR.rd (k := 1) h' (hw T' I' h') (by decide) (c_ledgerDay__x h'.2.1 hE hE20 hp)⟩⟩

theorem op_ledgerLoan {g : GG} {X : va_W} {T : TT} {I : II} {x M n : Nat} {s : AS} (h : Iv x M T I s s n) (hn : n < 512) (p_ : Int32) : Op g x M n s yX9_ledgerLoan cX9_ledgerLoan 2 (some .int) yX10_ledgerLoan cX10_ledgerLoan 2 (some .int) [.int p_] [1] X T I := by
  obtain ⟨D, U, B, N, E, pm, hG, hS, hV, hBD⟩ := h.rd
  have hcl := h.1
  have hB := hG.B.1
  have hB6 := hG.B.2
  have hN := hG.N.1
  have hN10 := hG.N.2
  have hE := hG.E.1
  have hE20 := hG.E.2
  have hu := h.up (Nat.le_succ n)
  have hw := fun (T' : TT) (I' : II) (h' : Iv x M T' I' s s (n + 1)) => h'.2.2.2.2.2.1
  have hDD : D ≤ 40000 ∧ U ≤ 600 := by have := hBD.1; have := hBD.2; omega
  by_cases hp : okN E p_
  · obtain ⟨m, m1, rfl⟩ := okN_of (by omega) hp
    exact ⟨0, .int (s.w (158 + 3 * m + 1)), s, ⟨Nat.zero_le _, fun _ => ⟨_, rfl⟩⟩, OpC.ve (q_ledgerLoan__v hcl hV hE m1) (by decide) hu, fun X9 T' I' h' => ⟨.int (s.w (158 + 3 * m + 1)), ⟨fun _ => rfl, ⟨_, rfl⟩⟩, OpR.rd h' (hw T' I' h') (by decide) (c_ledgerLoan__v h'.2.1 hE hE20 m1)⟩⟩
  · skip
    exact ⟨1, .null, s, ⟨(by decide), fun z => absurd z (by decide)⟩, OpC.xe (q_ledgerLoan__x hcl hV hE hp) (by decide) (by decide) hu, fun X9 T' I' h' => ⟨_, ⟨fun z => absurd z (by decide), ⟨_, rfl⟩⟩, OpR.rd (k := 1) h' (hw T' I' h') (by decide) (c_ledgerLoan__x h'.2.1 hE hE20 hp)⟩⟩

theorem op_ledgerAmount {g : GG} {X : va_W} {T : TT} {I : II} {x M n : Nat} {s : AS} (h : Iv x M T I s s n) (hn : n < 512) (dy id : Int32) : Op g x M n s yX9_ledgerAmount cX9_ledgerAmount 4 (some .int) yX10_ledgerAmount cX10_ledgerAmount 4 (some .int) [.int dy, .int id] [1] X T I := by
  obtain ⟨D, U, B, N, E, pm, hG, hS, hV, hBD⟩ := h.rd
  have hcl := h.1
  have hB := hG.B.1
  have hB6 := hG.B.2
  have hN := hG.N.1
  have hN10 := hG.N.2
  have hE := hG.E.1
  have hE20 := hG.E.2
  have hu := h.up (Nat.le_succ n)
  have hw := fun (T' : TT) (I' : II) (h' : Iv x M T' I' s s (n + 1)) => h'.2.2.2.2.2.1
  have hDD : D ≤ 40000 ∧ U ≤ 600 := by have := hBD.1; have := hBD.2; omega
  have ha := etV_at s.w E dy id
  generalize etV s.w E dy id = r at ha
  have hb := ha
  rcases hb with ⟨e, e1, -, -, rfl⟩ | ⟨-, rfl⟩
  · skip
    exact ⟨0, .int (s.w (158 + 3 * e + 2)), s, ⟨Nat.zero_le _, fun _ => ⟨_, rfl⟩⟩, OpC.ve (q_ledgerAmount__s hcl hV hE e1 ha) (by decide) hu, fun X9 T' I' h' => ⟨.int (s.w (158 + 3 * e + 2)), ⟨fun _ => rfl, ⟨_, rfl⟩⟩, OpR.rd h' (hw T' I' h') (by decide) (c_ledgerAmount__s h'.2.1 hE hE20 e1 ha)⟩⟩
  · skip
    exact ⟨1, .null, s, ⟨(by decide), fun z => absurd z (by decide)⟩, OpC.xe (q_ledgerAmount__n hcl hV hE ha) (by decide) (by decide) hu, fun X9 T' I' h' => ⟨_, ⟨fun z => absurd z (by decide), ⟨_, rfl⟩⟩, OpR.rd (k := 1) h' (hw T' I' h') (by decide) (c_ledgerAmount__n h'.2.1 hE hE20 ha)⟩⟩
