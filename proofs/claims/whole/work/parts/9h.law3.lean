/-! The wrappers: a call of the class, its answer kept, its throw told by a number. -/
def WI (g : GG) (a b : Nat) (h : Nat → UInt64) (kx : Nat) (v : Value) (P : TT → II → Prop) : PhiT := fun r X' T' I' => r = some (.int (nI kx)) ∧ P T' I' ∧ ∃ f' : Nat → Int64, X' = XO g a f' b h ∧ (kx = 0 → ∃ i : Int32, v = .int i ∧ f' 0 = i.toInt64)
def WB (g : GG) (a b : Nat) (h : Nat → UInt64) (kx : Nat) (v : Value) (P : TT → II → Prop) : PhiT := fun r X' T' I' => r = some (.int (nI kx)) ∧ P T' I' ∧ ∃ f' : Nat → Int64, X' = XO g a f' b h ∧ (kx = 0 → ∃ i : Int32, v = .int i ∧ f' 0 = if i = 0 then 0 else 1)
def WD (g : GG) (a : Nat) (f : Nat → Int64) (b : Nat) (kx : Nat) (v : Value) (P : TT → II → Prop) : PhiT := fun r X' T' I' => r = some (.int (nI kx)) ∧ P T' I' ∧ ∃ h' : Nat → UInt64, X' = XO g a f b h' ∧ (kx = 0 → ∃ d : UInt64, v = .double d ∧ vf_n64 d ∧ h' 0 = d)
def WF (g : GG) (a : Nat) (f : Nat → Int64) (b : Nat) (kx : Nat) (v : Value) (P : TT → II → Prop) : PhiT := fun r X' T' I' => r = some (.int (nI kx)) ∧ P T' I' ∧ ∃ h' : Nat → UInt64, X' = XO g a f b h' ∧ (kx = 0 → ∃ d : UInt32, v = .float d ∧ vf_n32 d ∧ h' 0 = FP.f2d d)
set_option maxHeartbeats 1000000 in
theorem w_addBorrower {g : GG} {a b x kx : Nat} {f : Nat → Int64} {h : Nat → UInt64} {T : TT} {I : II} {u0_ : Int32} {v : Value} {P : TT → II → Prop} (hcl : isCl T x) (hk : kx ≤ 2) (hv : kx = 0 → vOk (some .int) v) (hO : OpC g yX9_addBorrower cX9_addBorrower 2 (some .int) [.ref x, .int u0_] (XO g a f b h) T I kx v (exc (([3, 4] : List Nat).getD (kx - 1) 0)) P) : McW g yL_addBorrower cL_addBorrower 4 (mkT 9 [3, 4] [12, 15]) 13 30 4200 [.ref x, .int u0_, .ref a] (XO g a f b h) T I (WI g a b h kx v P) := by
  obtain ⟨d, cm, cs, d1, d2, d3, hM⟩ := hO
  refine McW.of (by decide) (Nat.le_of_ble_eq_true rfl) (fun k hfl hnc htb C => ?_)
  refine r_lo (lo' := [(0, _), (1, _), (2, _)]) rfl ?_
  refine r_aload_n (pc := 0) C 2 dL_addBorrower_0 rfl rfl ?_
  refine r_iconst (pc := 1) (v := 0) C dL_addBorrower_1 rfl ?_
  refine r_aload_n (pc := 2) C 0 dL_addBorrower_2 rfl rfl ?_
  refine r_iload_n (pc := 3) C 1 dL_addBorrower_3 rfl rfl ?_
  refine r_xVc (pc := 4) (codes := [3, 4]) (hs := [12, 15]) (en := 9) (v := v) C hfl hnc htb rfl (by decide) (by decide) k_L_7 hM hk hcl.1 ca_X9 rfl rfl (Nat.le_of_ble_eq_true rfl) ⟨by omega, by decide⟩ ⟨by omega, by omega⟩ dL_addBorrower_4 (fun h0 T' I' hp => ?_) (fun h0 T' I' q hp => ?_)
  · obtain ⟨i, rfl⟩ := hv h0
    subst h0
    refine r_i2l (pc := 7) C dL_addBorrower_7 ?_
    refine r_jast (pc := 8) C dL_addBorrower_8 (fun f' hf => ?_)
    refine r_goto (pc := 9) (tgt := 18) C dL_addBorrower_9 rfl ?_
    refine r_iconst (pc := 18) (v := 0) C dL_addBorrower_18 rfl ?_
    exact r_iret (pc := 19) C dL_addBorrower_19 ⟨rfl, hp, f', rfl, fun _ => ⟨i, rfl, hf⟩⟩ ⟨by omega, by omega⟩
  · obtain rfl | rfl : kx = 1 ∨ kx = 2 := by omega
    · refine r_astore_n (pc := 12) (lo' := _) C dL_addBorrower_12 rfl (by decide) rfl ?_
      refine r_iconst (pc := 13) (v := 1) C dL_addBorrower_13 rfl ?_
      exact r_iret (pc := 14) C dL_addBorrower_14 ⟨rfl, hp, f, rfl, fun z => absurd z (by decide)⟩ ⟨by omega, by omega⟩
    · refine r_astore_n (pc := 15) (lo' := _) C dL_addBorrower_15 rfl (by decide) rfl ?_
      refine r_iconst (pc := 16) (v := 2) C dL_addBorrower_16 rfl ?_
      exact r_iret (pc := 17) C dL_addBorrower_17 ⟨rfl, hp, f, rfl, fun z => absurd z (by decide)⟩ ⟨by omega, by omega⟩

set_option maxHeartbeats 1000000 in
theorem w_bring {g : GG} {a b x kx : Nat} {f : Nat → Int64} {h : Nat → UInt64} {T : TT} {I : II} {u0_ u1_ u2_ : Int32} {v : Value} {P : TT → II → Prop} (hcl : isCl T x) (hk : kx ≤ 3) (hv : kx = 0 → vOk (some .int) v) (hO : OpC g yX9_bring cX9_bring 4 (some .int) [.ref x, .int u0_, .int u1_, .int u2_] (XO g a f b h) T I kx v (exc (([2, 3, 4] : List Nat).getD (kx - 1) 0)) P) : McW g yL_bring cL_bring 6 (mkT 12 [2, 3, 4] [15, 19, 23]) 13 30 4200 [.ref x, .int u0_, .int u1_, .int u2_, .ref a] (XO g a f b h) T I (WI g a b h kx v P) := by
  obtain ⟨d, cm, cs, d1, d2, d3, hM⟩ := hO
  refine McW.of (by decide) (Nat.le_of_ble_eq_true rfl) (fun k hfl hnc htb C => ?_)
  refine r_lo (lo' := [(0, _), (1, _), (2, _), (3, _), (4, _)]) rfl ?_
  refine r_aload (pc := 0) C 4 dL_bring_0 rfl ?_
  refine r_iconst (pc := 2) (v := 0) C dL_bring_2 rfl ?_
  refine r_aload_n (pc := 3) C 0 dL_bring_3 rfl rfl ?_
  refine r_iload_n (pc := 4) C 1 dL_bring_4 rfl rfl ?_
  refine r_iload_n (pc := 5) C 2 dL_bring_5 rfl rfl ?_
  refine r_iload_n (pc := 6) C 3 dL_bring_6 rfl rfl ?_
  refine r_xVc (pc := 7) (codes := [2, 3, 4]) (hs := [15, 19, 23]) (en := 12) (v := v) C hfl hnc htb rfl (by decide) (by decide) k_L_17 hM hk hcl.1 ca_X9 rfl rfl (Nat.le_of_ble_eq_true rfl) ⟨by omega, by decide⟩ ⟨by omega, by omega⟩ dL_bring_7 (fun h0 T' I' hp => ?_) (fun h0 T' I' q hp => ?_)
  · obtain ⟨i, rfl⟩ := hv h0
    subst h0
    refine r_i2l (pc := 10) C dL_bring_10 ?_
    refine r_jast (pc := 11) C dL_bring_11 (fun f' hf => ?_)
    refine r_goto (pc := 12) (tgt := 27) C dL_bring_12 rfl ?_
    refine r_iconst (pc := 27) (v := 0) C dL_bring_27 rfl ?_
    exact r_iret (pc := 28) C dL_bring_28 ⟨rfl, hp, f', rfl, fun _ => ⟨i, rfl, hf⟩⟩ ⟨by omega, by omega⟩
  · obtain rfl | rfl | rfl : kx = 1 ∨ kx = 2 ∨ kx = 3 := by omega
    · refine r_astore (pc := 15) (lo' := _) C dL_bring_15 (by decide) rfl ?_
      refine r_iconst (pc := 17) (v := 1) C dL_bring_17 rfl ?_
      exact r_iret (pc := 18) C dL_bring_18 ⟨rfl, hp, f, rfl, fun z => absurd z (by decide)⟩ ⟨by omega, by omega⟩
    · refine r_astore (pc := 19) (lo' := _) C dL_bring_19 (by decide) rfl ?_
      refine r_iconst (pc := 21) (v := 2) C dL_bring_21 rfl ?_
      exact r_iret (pc := 22) C dL_bring_22 ⟨rfl, hp, f, rfl, fun z => absurd z (by decide)⟩ ⟨by omega, by omega⟩
    · refine r_astore (pc := 23) (lo' := _) C dL_bring_23 (by decide) rfl ?_
      refine r_iconst (pc := 25) (v := 3) C dL_bring_25 rfl ?_
      exact r_iret (pc := 26) C dL_bring_26 ⟨rfl, hp, f, rfl, fun z => absurd z (by decide)⟩ ⟨by omega, by omega⟩

set_option maxHeartbeats 1000000 in
theorem w_setPrice {g : GG} {a b x kx : Nat} {f : Nat → Int64} {h : Nat → UInt64} {T : TT} {I : II} {u0_ u1_ : Int32} {v : Value} {P : TT → II → Prop} (hcl : isCl T x) (hk : kx ≤ 2) (hv : kx = 0 → vOk (some .int) v) (hO : OpC g yX9_setPrice cX9_setPrice 3 (some .int) [.ref x, .int u0_, .int u1_] (XO g a f b h) T I kx v (exc (([2, 3] : List Nat).getD (kx - 1) 0)) P) : McW g yL_setPrice cL_setPrice 5 (mkT 10 [2, 3] [13, 17]) 13 30 4200 [.ref x, .int u0_, .int u1_, .ref a] (XO g a f b h) T I (WI g a b h kx v P) := by
  obtain ⟨d, cm, cs, d1, d2, d3, hM⟩ := hO
  refine McW.of (by decide) (Nat.le_of_ble_eq_true rfl) (fun k hfl hnc htb C => ?_)
  refine r_lo (lo' := [(0, _), (1, _), (2, _), (3, _)]) rfl ?_
  refine r_aload_n (pc := 0) C 3 dL_setPrice_0 rfl rfl ?_
  refine r_iconst (pc := 1) (v := 0) C dL_setPrice_1 rfl ?_
  refine r_aload_n (pc := 2) C 0 dL_setPrice_2 rfl rfl ?_
  refine r_iload_n (pc := 3) C 1 dL_setPrice_3 rfl rfl ?_
  refine r_iload_n (pc := 4) C 2 dL_setPrice_4 rfl rfl ?_
  refine r_xVc (pc := 5) (codes := [2, 3]) (hs := [13, 17]) (en := 10) (v := v) C hfl hnc htb rfl (by decide) (by decide) k_L_23 hM hk hcl.1 ca_X9 rfl rfl (Nat.le_of_ble_eq_true rfl) ⟨by omega, by decide⟩ ⟨by omega, by omega⟩ dL_setPrice_5 (fun h0 T' I' hp => ?_) (fun h0 T' I' q hp => ?_)
  · obtain ⟨i, rfl⟩ := hv h0
    subst h0
    refine r_i2l (pc := 8) C dL_setPrice_8 ?_
    refine r_jast (pc := 9) C dL_setPrice_9 (fun f' hf => ?_)
    refine r_goto (pc := 10) (tgt := 21) C dL_setPrice_10 rfl ?_
    refine r_iconst (pc := 21) (v := 0) C dL_setPrice_21 rfl ?_
    exact r_iret (pc := 22) C dL_setPrice_22 ⟨rfl, hp, f', rfl, fun _ => ⟨i, rfl, hf⟩⟩ ⟨by omega, by omega⟩
  · obtain rfl | rfl : kx = 1 ∨ kx = 2 := by omega
    · refine r_astore (pc := 13) (lo' := _) C dL_setPrice_13 (by decide) rfl ?_
      refine r_iconst (pc := 15) (v := 1) C dL_setPrice_15 rfl ?_
      exact r_iret (pc := 16) C dL_setPrice_16 ⟨rfl, hp, f, rfl, fun z => absurd z (by decide)⟩ ⟨by omega, by omega⟩
    · refine r_astore (pc := 17) (lo' := _) C dL_setPrice_17 (by decide) rfl ?_
      refine r_iconst (pc := 19) (v := 2) C dL_setPrice_19 rfl ?_
      exact r_iret (pc := 20) C dL_setPrice_20 ⟨rfl, hp, f, rfl, fun z => absurd z (by decide)⟩ ⟨by omega, by omega⟩

set_option maxHeartbeats 1000000 in
theorem w_lend {g : GG} {a b x kx : Nat} {f : Nat → Int64} {h : Nat → UInt64} {T : TT} {I : II} {u0_ u1_ u2_ u3_ u4_ : Int32} {v : Value} {P : TT → II → Prop} (hcl : isCl T x) (hk : kx ≤ 3) (hv : kx = 0 → vOk (some .int) v) (hO : OpC g yX9_lend cX9_lend 6 (some .int) [.ref x, .int u0_, .int u1_, .int u2_, .int u3_, .int u4_] (XO g a f b h) T I kx v (exc (([2, 3, 4] : List Nat).getD (kx - 1) 0)) P) : McW g yL_lend cL_lend 8 (mkT 16 [2, 3, 4] [19, 23, 27]) 13 30 4200 [.ref x, .int u0_, .int u1_, .int u2_, .int u3_, .int u4_, .ref a] (XO g a f b h) T I (WI g a b h kx v P) := by
  obtain ⟨d, cm, cs, d1, d2, d3, hM⟩ := hO
  refine McW.of (by decide) (Nat.le_of_ble_eq_true rfl) (fun k hfl hnc htb C => ?_)
  refine r_lo (lo' := [(0, _), (1, _), (2, _), (3, _), (4, _), (5, _), (6, _)]) rfl ?_
  refine r_aload (pc := 0) C 6 dL_lend_0 rfl ?_
  refine r_iconst (pc := 2) (v := 0) C dL_lend_2 rfl ?_
  refine r_aload_n (pc := 3) C 0 dL_lend_3 rfl rfl ?_
  refine r_iload_n (pc := 4) C 1 dL_lend_4 rfl rfl ?_
  refine r_iload_n (pc := 5) C 2 dL_lend_5 rfl rfl ?_
  refine r_iload_n (pc := 6) C 3 dL_lend_6 rfl rfl ?_
  refine r_iload (pc := 7) C 4 dL_lend_7 rfl ?_
  refine r_iload (pc := 9) C 5 dL_lend_9 rfl ?_
  refine r_xVc (pc := 11) (codes := [2, 3, 4]) (hs := [19, 23, 27]) (en := 16) (v := v) C hfl hnc htb rfl (by decide) (by decide) k_L_27 hM hk hcl.1 ca_X9 rfl rfl (Nat.le_of_ble_eq_true rfl) ⟨by omega, by decide⟩ ⟨by omega, by omega⟩ dL_lend_11 (fun h0 T' I' hp => ?_) (fun h0 T' I' q hp => ?_)
  · obtain ⟨i, rfl⟩ := hv h0
    subst h0
    refine r_i2l (pc := 14) C dL_lend_14 ?_
    refine r_jast (pc := 15) C dL_lend_15 (fun f' hf => ?_)
    refine r_goto (pc := 16) (tgt := 31) C dL_lend_16 rfl ?_
    refine r_iconst (pc := 31) (v := 0) C dL_lend_31 rfl ?_
    exact r_iret (pc := 32) C dL_lend_32 ⟨rfl, hp, f', rfl, fun _ => ⟨i, rfl, hf⟩⟩ ⟨by omega, by omega⟩
  · obtain rfl | rfl | rfl : kx = 1 ∨ kx = 2 ∨ kx = 3 := by omega
    · refine r_astore (pc := 19) (lo' := _) C dL_lend_19 (by decide) rfl ?_
      refine r_iconst (pc := 21) (v := 1) C dL_lend_21 rfl ?_
      exact r_iret (pc := 22) C dL_lend_22 ⟨rfl, hp, f, rfl, fun z => absurd z (by decide)⟩ ⟨by omega, by omega⟩
    · refine r_astore (pc := 23) (lo' := _) C dL_lend_23 (by decide) rfl ?_
      refine r_iconst (pc := 25) (v := 2) C dL_lend_25 rfl ?_
      exact r_iret (pc := 26) C dL_lend_26 ⟨rfl, hp, f, rfl, fun z => absurd z (by decide)⟩ ⟨by omega, by omega⟩
    · refine r_astore (pc := 27) (lo' := _) C dL_lend_27 (by decide) rfl ?_
      refine r_iconst (pc := 29) (v := 3) C dL_lend_29 rfl ?_
      exact r_iret (pc := 30) C dL_lend_30 ⟨rfl, hp, f, rfl, fun z => absurd z (by decide)⟩ ⟨by omega, by omega⟩

set_option maxHeartbeats 1000000 in
theorem w_pledge {g : GG} {a b x kx : Nat} {f : Nat → Int64} {h : Nat → UInt64} {T : TT} {I : II} {u0_ u1_ u2_ : Int32} {v : Value} {P : TT → II → Prop} (hcl : isCl T x) (hk : kx ≤ 4) (hv : kx = 0 → vOk (some .int) v) (hO : OpC g yX9_pledge cX9_pledge 4 (some .int) [.ref x, .int u0_, .int u1_, .int u2_] (XO g a f b h) T I kx v (exc (([1, 2, 3, 4] : List Nat).getD (kx - 1) 0)) P) : McW g yL_pledge cL_pledge 6 (mkT 12 [1, 2, 3, 4] [15, 19, 23, 27]) 13 30 4200 [.ref x, .int u0_, .int u1_, .int u2_, .ref a] (XO g a f b h) T I (WI g a b h kx v P) := by
  obtain ⟨d, cm, cs, d1, d2, d3, hM⟩ := hO
  refine McW.of (by decide) (Nat.le_of_ble_eq_true rfl) (fun k hfl hnc htb C => ?_)
  refine r_lo (lo' := [(0, _), (1, _), (2, _), (3, _), (4, _)]) rfl ?_
  refine r_aload (pc := 0) C 4 dL_pledge_0 rfl ?_
  refine r_iconst (pc := 2) (v := 0) C dL_pledge_2 rfl ?_
  refine r_aload_n (pc := 3) C 0 dL_pledge_3 rfl rfl ?_
  refine r_iload_n (pc := 4) C 1 dL_pledge_4 rfl rfl ?_
  refine r_iload_n (pc := 5) C 2 dL_pledge_5 rfl rfl ?_
  refine r_iload_n (pc := 6) C 3 dL_pledge_6 rfl rfl ?_
  refine r_xVc (pc := 7) (codes := [1, 2, 3, 4]) (hs := [15, 19, 23, 27]) (en := 12) (v := v) C hfl hnc htb rfl (by decide) (by decide) k_L_31 hM hk hcl.1 ca_X9 rfl rfl (Nat.le_of_ble_eq_true rfl) ⟨by omega, by decide⟩ ⟨by omega, by omega⟩ dL_pledge_7 (fun h0 T' I' hp => ?_) (fun h0 T' I' q hp => ?_)
  · obtain ⟨i, rfl⟩ := hv h0
    subst h0
    refine r_i2l (pc := 10) C dL_pledge_10 ?_
    refine r_jast (pc := 11) C dL_pledge_11 (fun f' hf => ?_)
    refine r_goto (pc := 12) (tgt := 31) C dL_pledge_12 rfl ?_
    refine r_iconst (pc := 31) (v := 0) C dL_pledge_31 rfl ?_
    exact r_iret (pc := 32) C dL_pledge_32 ⟨rfl, hp, f', rfl, fun _ => ⟨i, rfl, hf⟩⟩ ⟨by omega, by omega⟩
  · obtain rfl | rfl | rfl | rfl : kx = 1 ∨ kx = 2 ∨ kx = 3 ∨ kx = 4 := by omega
    · refine r_astore (pc := 15) (lo' := _) C dL_pledge_15 (by decide) rfl ?_
      refine r_iconst (pc := 17) (v := 1) C dL_pledge_17 rfl ?_
      exact r_iret (pc := 18) C dL_pledge_18 ⟨rfl, hp, f, rfl, fun z => absurd z (by decide)⟩ ⟨by omega, by omega⟩
    · refine r_astore (pc := 19) (lo' := _) C dL_pledge_19 (by decide) rfl ?_
      refine r_iconst (pc := 21) (v := 2) C dL_pledge_21 rfl ?_
      exact r_iret (pc := 22) C dL_pledge_22 ⟨rfl, hp, f, rfl, fun z => absurd z (by decide)⟩ ⟨by omega, by omega⟩
    · refine r_astore (pc := 23) (lo' := _) C dL_pledge_23 (by decide) rfl ?_
      refine r_iconst (pc := 25) (v := 3) C dL_pledge_25 rfl ?_
      exact r_iret (pc := 26) C dL_pledge_26 ⟨rfl, hp, f, rfl, fun z => absurd z (by decide)⟩ ⟨by omega, by omega⟩
    · refine r_astore (pc := 27) (lo' := _) C dL_pledge_27 (by decide) rfl ?_
      refine r_iconst (pc := 29) (v := 4) C dL_pledge_29 rfl ?_
      exact r_iret (pc := 30) C dL_pledge_30 ⟨rfl, hp, f, rfl, fun z => absurd z (by decide)⟩ ⟨by omega, by omega⟩

set_option maxHeartbeats 1000000 in
theorem w_release {g : GG} {a b x kx : Nat} {f : Nat → Int64} {h : Nat → UInt64} {T : TT} {I : II} {u0_ u1_ u2_ : Int32} {v : Value} {P : TT → II → Prop} (hcl : isCl T x) (hk : kx ≤ 4) (hv : kx = 0 → vOk (some .int) v) (hO : OpC g yX9_release cX9_release 4 (some .int) [.ref x, .int u0_, .int u1_, .int u2_] (XO g a f b h) T I kx v (exc (([1, 2, 3, 4] : List Nat).getD (kx - 1) 0)) P) : McW g yL_release cL_release 6 (mkT 12 [1, 2, 3, 4] [15, 19, 23, 27]) 13 30 4200 [.ref x, .int u0_, .int u1_, .int u2_, .ref a] (XO g a f b h) T I (WI g a b h kx v P) := by
  obtain ⟨d, cm, cs, d1, d2, d3, hM⟩ := hO
  refine McW.of (by decide) (Nat.le_of_ble_eq_true rfl) (fun k hfl hnc htb C => ?_)
  refine r_lo (lo' := [(0, _), (1, _), (2, _), (3, _), (4, _)]) rfl ?_
  refine r_aload (pc := 0) C 4 dL_release_0 rfl ?_
  refine r_iconst (pc := 2) (v := 0) C dL_release_2 rfl ?_
  refine r_aload_n (pc := 3) C 0 dL_release_3 rfl rfl ?_
  refine r_iload_n (pc := 4) C 1 dL_release_4 rfl rfl ?_
  refine r_iload_n (pc := 5) C 2 dL_release_5 rfl rfl ?_
  refine r_iload_n (pc := 6) C 3 dL_release_6 rfl rfl ?_
  refine r_xVc (pc := 7) (codes := [1, 2, 3, 4]) (hs := [15, 19, 23, 27]) (en := 12) (v := v) C hfl hnc htb rfl (by decide) (by decide) k_L_36 hM hk hcl.1 ca_X9 rfl rfl (Nat.le_of_ble_eq_true rfl) ⟨by omega, by decide⟩ ⟨by omega, by omega⟩ dL_release_7 (fun h0 T' I' hp => ?_) (fun h0 T' I' q hp => ?_)
  · obtain ⟨i, rfl⟩ := hv h0
    subst h0
    refine r_i2l (pc := 10) C dL_release_10 ?_
    refine r_jast (pc := 11) C dL_release_11 (fun f' hf => ?_)
    refine r_goto (pc := 12) (tgt := 31) C dL_release_12 rfl ?_
    refine r_iconst (pc := 31) (v := 0) C dL_release_31 rfl ?_
    exact r_iret (pc := 32) C dL_release_32 ⟨rfl, hp, f', rfl, fun _ => ⟨i, rfl, hf⟩⟩ ⟨by omega, by omega⟩
  · obtain rfl | rfl | rfl | rfl : kx = 1 ∨ kx = 2 ∨ kx = 3 ∨ kx = 4 := by omega
    · refine r_astore (pc := 15) (lo' := _) C dL_release_15 (by decide) rfl ?_
      refine r_iconst (pc := 17) (v := 1) C dL_release_17 rfl ?_
      exact r_iret (pc := 18) C dL_release_18 ⟨rfl, hp, f, rfl, fun z => absurd z (by decide)⟩ ⟨by omega, by omega⟩
    · refine r_astore (pc := 19) (lo' := _) C dL_release_19 (by decide) rfl ?_
      refine r_iconst (pc := 21) (v := 2) C dL_release_21 rfl ?_
      exact r_iret (pc := 22) C dL_release_22 ⟨rfl, hp, f, rfl, fun z => absurd z (by decide)⟩ ⟨by omega, by omega⟩
    · refine r_astore (pc := 23) (lo' := _) C dL_release_23 (by decide) rfl ?_
      refine r_iconst (pc := 25) (v := 3) C dL_release_25 rfl ?_
      exact r_iret (pc := 26) C dL_release_26 ⟨rfl, hp, f, rfl, fun z => absurd z (by decide)⟩ ⟨by omega, by omega⟩
    · refine r_astore (pc := 27) (lo' := _) C dL_release_27 (by decide) rfl ?_
      refine r_iconst (pc := 29) (v := 4) C dL_release_29 rfl ?_
      exact r_iret (pc := 30) C dL_release_30 ⟨rfl, hp, f, rfl, fun z => absurd z (by decide)⟩ ⟨by omega, by omega⟩

set_option maxHeartbeats 1000000 in
theorem w_repay {g : GG} {a b x kx : Nat} {f : Nat → Int64} {h : Nat → UInt64} {T : TT} {I : II} {u0_ u1_ : Int32} {v : Value} {P : TT → II → Prop} (hcl : isCl T x) (hk : kx ≤ 3) (hv : kx = 0 → vOk (some .int) v) (hO : OpC g yX9_repay cX9_repay 3 (some .int) [.ref x, .int u0_, .int u1_] (XO g a f b h) T I kx v (exc (([1, 3, 4] : List Nat).getD (kx - 1) 0)) P) : McW g yL_repay cL_repay 5 (mkT 10 [1, 3, 4] [13, 17, 21]) 13 30 4200 [.ref x, .int u0_, .int u1_, .ref a] (XO g a f b h) T I (WI g a b h kx v P) := by
  obtain ⟨d, cm, cs, d1, d2, d3, hM⟩ := hO
  refine McW.of (by decide) (Nat.le_of_ble_eq_true rfl) (fun k hfl hnc htb C => ?_)
  refine r_lo (lo' := [(0, _), (1, _), (2, _), (3, _)]) rfl ?_
  refine r_aload_n (pc := 0) C 3 dL_repay_0 rfl rfl ?_
  refine r_iconst (pc := 1) (v := 0) C dL_repay_1 rfl ?_
  refine r_aload_n (pc := 2) C 0 dL_repay_2 rfl rfl ?_
  refine r_iload_n (pc := 3) C 1 dL_repay_3 rfl rfl ?_
  refine r_iload_n (pc := 4) C 2 dL_repay_4 rfl rfl ?_
  refine r_xVc (pc := 5) (codes := [1, 3, 4]) (hs := [13, 17, 21]) (en := 10) (v := v) C hfl hnc htb rfl (by decide) (by decide) k_L_39 hM hk hcl.1 ca_X9 rfl rfl (Nat.le_of_ble_eq_true rfl) ⟨by omega, by decide⟩ ⟨by omega, by omega⟩ dL_repay_5 (fun h0 T' I' hp => ?_) (fun h0 T' I' q hp => ?_)
  · obtain ⟨i, rfl⟩ := hv h0
    subst h0
    refine r_i2l (pc := 8) C dL_repay_8 ?_
    refine r_jast (pc := 9) C dL_repay_9 (fun f' hf => ?_)
    refine r_goto (pc := 10) (tgt := 25) C dL_repay_10 rfl ?_
    refine r_iconst (pc := 25) (v := 0) C dL_repay_25 rfl ?_
    exact r_iret (pc := 26) C dL_repay_26 ⟨rfl, hp, f', rfl, fun _ => ⟨i, rfl, hf⟩⟩ ⟨by omega, by omega⟩
  · obtain rfl | rfl | rfl : kx = 1 ∨ kx = 2 ∨ kx = 3 := by omega
    · refine r_astore (pc := 13) (lo' := _) C dL_repay_13 (by decide) rfl ?_
      refine r_iconst (pc := 15) (v := 1) C dL_repay_15 rfl ?_
      exact r_iret (pc := 16) C dL_repay_16 ⟨rfl, hp, f, rfl, fun z => absurd z (by decide)⟩ ⟨by omega, by omega⟩
    · refine r_astore (pc := 17) (lo' := _) C dL_repay_17 (by decide) rfl ?_
      refine r_iconst (pc := 19) (v := 2) C dL_repay_19 rfl ?_
      exact r_iret (pc := 20) C dL_repay_20 ⟨rfl, hp, f, rfl, fun z => absurd z (by decide)⟩ ⟨by omega, by omega⟩
    · refine r_astore (pc := 21) (lo' := _) C dL_repay_21 (by decide) rfl ?_
      refine r_iconst (pc := 23) (v := 3) C dL_repay_23 rfl ?_
      exact r_iret (pc := 24) C dL_repay_24 ⟨rfl, hp, f, rfl, fun z => absurd z (by decide)⟩ ⟨by omega, by omega⟩

set_option maxHeartbeats 1000000 in
theorem w_buy {g : GG} {a b x kx : Nat} {f : Nat → Int64} {h : Nat → UInt64} {T : TT} {I : II} {u0_ u1_ u2_ : Int32} {v : Value} {P : TT → II → Prop} (hcl : isCl T x) (hk : kx ≤ 3) (hv : kx = 0 → vOk (some .int) v) (hO : OpC g yX9_buy cX9_buy 4 (some .int) [.ref x, .int u0_, .int u1_, .int u2_] (XO g a f b h) T I kx v (exc (([2, 3, 4] : List Nat).getD (kx - 1) 0)) P) : McW g yL_buy cL_buy 6 (mkT 12 [2, 3, 4] [15, 19, 23]) 13 30 4200 [.ref x, .int u0_, .int u1_, .int u2_, .ref a] (XO g a f b h) T I (WI g a b h kx v P) := by
  obtain ⟨d, cm, cs, d1, d2, d3, hM⟩ := hO
  refine McW.of (by decide) (Nat.le_of_ble_eq_true rfl) (fun k hfl hnc htb C => ?_)
  refine r_lo (lo' := [(0, _), (1, _), (2, _), (3, _), (4, _)]) rfl ?_
  refine r_aload (pc := 0) C 4 dL_buy_0 rfl ?_
  refine r_iconst (pc := 2) (v := 0) C dL_buy_2 rfl ?_
  refine r_aload_n (pc := 3) C 0 dL_buy_3 rfl rfl ?_
  refine r_iload_n (pc := 4) C 1 dL_buy_4 rfl rfl ?_
  refine r_iload_n (pc := 5) C 2 dL_buy_5 rfl rfl ?_
  refine r_iload_n (pc := 6) C 3 dL_buy_6 rfl rfl ?_
  refine r_xVc (pc := 7) (codes := [2, 3, 4]) (hs := [15, 19, 23]) (en := 12) (v := v) C hfl hnc htb rfl (by decide) (by decide) k_L_42 hM hk hcl.1 ca_X9 rfl rfl (Nat.le_of_ble_eq_true rfl) ⟨by omega, by decide⟩ ⟨by omega, by omega⟩ dL_buy_7 (fun h0 T' I' hp => ?_) (fun h0 T' I' q hp => ?_)
  · obtain ⟨i, rfl⟩ := hv h0
    subst h0
    refine r_i2l (pc := 10) C dL_buy_10 ?_
    refine r_jast (pc := 11) C dL_buy_11 (fun f' hf => ?_)
    refine r_goto (pc := 12) (tgt := 27) C dL_buy_12 rfl ?_
    refine r_iconst (pc := 27) (v := 0) C dL_buy_27 rfl ?_
    exact r_iret (pc := 28) C dL_buy_28 ⟨rfl, hp, f', rfl, fun _ => ⟨i, rfl, hf⟩⟩ ⟨by omega, by omega⟩
  · obtain rfl | rfl | rfl : kx = 1 ∨ kx = 2 ∨ kx = 3 := by omega
    · refine r_astore (pc := 15) (lo' := _) C dL_buy_15 (by decide) rfl ?_
      refine r_iconst (pc := 17) (v := 1) C dL_buy_17 rfl ?_
      exact r_iret (pc := 18) C dL_buy_18 ⟨rfl, hp, f, rfl, fun z => absurd z (by decide)⟩ ⟨by omega, by omega⟩
    · refine r_astore (pc := 19) (lo' := _) C dL_buy_19 (by decide) rfl ?_
      refine r_iconst (pc := 21) (v := 2) C dL_buy_21 rfl ?_
      exact r_iret (pc := 22) C dL_buy_22 ⟨rfl, hp, f, rfl, fun z => absurd z (by decide)⟩ ⟨by omega, by omega⟩
    · refine r_astore (pc := 23) (lo' := _) C dL_buy_23 (by decide) rfl ?_
      refine r_iconst (pc := 25) (v := 3) C dL_buy_25 rfl ?_
      exact r_iret (pc := 26) C dL_buy_26 ⟨rfl, hp, f, rfl, fun z => absurd z (by decide)⟩ ⟨by omega, by omega⟩

set_option maxHeartbeats 1000000 in
theorem w_pass {g : GG} {a b x kx : Nat} {f : Nat → Int64} {h : Nat → UInt64} {T : TT} {I : II} {u0_ : Int32} {v : Value} {P : TT → II → Prop} (hcl : isCl T x) (hk : kx ≤ 1) (hv : kx = 0 → vOk (some .int) v) (hO : OpC g yX9_pass cX9_pass 2 (some .int) [.ref x, .int u0_] (XO g a f b h) T I kx v (exc (([3] : List Nat).getD (kx - 1) 0)) P) : McW g yL_pass cL_pass 4 (mkT 9 [3] [12]) 13 30 4200 [.ref x, .int u0_, .ref a] (XO g a f b h) T I (WI g a b h kx v P) := by
  obtain ⟨d, cm, cs, d1, d2, d3, hM⟩ := hO
  refine McW.of (by decide) (Nat.le_of_ble_eq_true rfl) (fun k hfl hnc htb C => ?_)
  refine r_lo (lo' := [(0, _), (1, _), (2, _)]) rfl ?_
  refine r_aload_n (pc := 0) C 2 dL_pass_0 rfl rfl ?_
  refine r_iconst (pc := 1) (v := 0) C dL_pass_1 rfl ?_
  refine r_aload_n (pc := 2) C 0 dL_pass_2 rfl rfl ?_
  refine r_iload_n (pc := 3) C 1 dL_pass_3 rfl rfl ?_
  refine r_xVc (pc := 4) (codes := [3]) (hs := [12]) (en := 9) (v := v) C hfl hnc htb rfl (by decide) (by decide) k_L_45 hM hk hcl.1 ca_X9 rfl rfl (Nat.le_of_ble_eq_true rfl) ⟨by omega, by decide⟩ ⟨by omega, by omega⟩ dL_pass_4 (fun h0 T' I' hp => ?_) (fun h0 T' I' q hp => ?_)
  · obtain ⟨i, rfl⟩ := hv h0
    subst h0
    refine r_i2l (pc := 7) C dL_pass_7 ?_
    refine r_jast (pc := 8) C dL_pass_8 (fun f' hf => ?_)
    refine r_goto (pc := 9) (tgt := 15) C dL_pass_9 rfl ?_
    refine r_iconst (pc := 15) (v := 0) C dL_pass_15 rfl ?_
    exact r_iret (pc := 16) C dL_pass_16 ⟨rfl, hp, f', rfl, fun _ => ⟨i, rfl, hf⟩⟩ ⟨by omega, by omega⟩
  · obtain rfl : kx = 1 := by omega
    refine r_astore_n (pc := 12) (lo' := _) C dL_pass_12 rfl (by decide) rfl ?_
    refine r_iconst (pc := 13) (v := 1) C dL_pass_13 rfl ?_
    exact r_iret (pc := 14) C dL_pass_14 ⟨rfl, hp, f, rfl, fun z => absurd z (by decide)⟩ ⟨by omega, by omega⟩

set_option maxHeartbeats 1000000 in
theorem w_price {g : GG} {a b x kx : Nat} {f : Nat → Int64} {h : Nat → UInt64} {T : TT} {I : II} {u0_ : Int32} {v : Value} {P : TT → II → Prop} (hcl : isCl T x) (hk : kx ≤ 1) (hv : kx = 0 → vOk (some .int) v) (hO : OpC g yX9_price cX9_price 2 (some .int) [.ref x, .int u0_] (XO g a f b h) T I kx v (exc (([2] : List Nat).getD (kx - 1) 0)) P) : McW g yL_price cL_price 4 (mkT 9 [2] [12]) 13 30 4200 [.ref x, .int u0_, .ref a] (XO g a f b h) T I (WI g a b h kx v P) := by
  obtain ⟨d, cm, cs, d1, d2, d3, hM⟩ := hO
  refine McW.of (by decide) (Nat.le_of_ble_eq_true rfl) (fun k hfl hnc htb C => ?_)
  refine r_lo (lo' := [(0, _), (1, _), (2, _)]) rfl ?_
  refine r_aload_n (pc := 0) C 2 dL_price_0 rfl rfl ?_
  refine r_iconst (pc := 1) (v := 0) C dL_price_1 rfl ?_
  refine r_aload_n (pc := 2) C 0 dL_price_2 rfl rfl ?_
  refine r_iload_n (pc := 3) C 1 dL_price_3 rfl rfl ?_
  refine r_xVc (pc := 4) (codes := [2]) (hs := [12]) (en := 9) (v := v) C hfl hnc htb rfl (by decide) (by decide) k_L_48 hM hk hcl.1 ca_X9 rfl rfl (Nat.le_of_ble_eq_true rfl) ⟨by omega, by decide⟩ ⟨by omega, by omega⟩ dL_price_4 (fun h0 T' I' hp => ?_) (fun h0 T' I' q hp => ?_)
  · obtain ⟨i, rfl⟩ := hv h0
    subst h0
    refine r_i2l (pc := 7) C dL_price_7 ?_
    refine r_jast (pc := 8) C dL_price_8 (fun f' hf => ?_)
    refine r_goto (pc := 9) (tgt := 15) C dL_price_9 rfl ?_
    refine r_iconst (pc := 15) (v := 0) C dL_price_15 rfl ?_
    exact r_iret (pc := 16) C dL_price_16 ⟨rfl, hp, f', rfl, fun _ => ⟨i, rfl, hf⟩⟩ ⟨by omega, by omega⟩
  · obtain rfl : kx = 1 := by omega
    refine r_astore_n (pc := 12) (lo' := _) C dL_price_12 rfl (by decide) rfl ?_
    refine r_iconst (pc := 13) (v := 1) C dL_price_13 rfl ?_
    exact r_iret (pc := 14) C dL_price_14 ⟨rfl, hp, f, rfl, fun z => absurd z (by decide)⟩ ⟨by omega, by omega⟩

set_option maxHeartbeats 1000000 in
theorem w_stock {g : GG} {a b x kx : Nat} {f : Nat → Int64} {h : Nat → UInt64} {T : TT} {I : II} {u0_ : Int32} {v : Value} {P : TT → II → Prop} (hcl : isCl T x) (hk : kx ≤ 1) (hv : kx = 0 → vOk (some .int) v) (hO : OpC g yX9_stock cX9_stock 2 (some .int) [.ref x, .int u0_] (XO g a f b h) T I kx v (exc (([2] : List Nat).getD (kx - 1) 0)) P) : McW g yL_stock cL_stock 4 (mkT 9 [2] [12]) 13 30 4200 [.ref x, .int u0_, .ref a] (XO g a f b h) T I (WI g a b h kx v P) := by
  obtain ⟨d, cm, cs, d1, d2, d3, hM⟩ := hO
  refine McW.of (by decide) (Nat.le_of_ble_eq_true rfl) (fun k hfl hnc htb C => ?_)
  refine r_lo (lo' := [(0, _), (1, _), (2, _)]) rfl ?_
  refine r_aload_n (pc := 0) C 2 dL_stock_0 rfl rfl ?_
  refine r_iconst (pc := 1) (v := 0) C dL_stock_1 rfl ?_
  refine r_aload_n (pc := 2) C 0 dL_stock_2 rfl rfl ?_
  refine r_iload_n (pc := 3) C 1 dL_stock_3 rfl rfl ?_
  refine r_xVc (pc := 4) (codes := [2]) (hs := [12]) (en := 9) (v := v) C hfl hnc htb rfl (by decide) (by decide) k_L_51 hM hk hcl.1 ca_X9 rfl rfl (Nat.le_of_ble_eq_true rfl) ⟨by omega, by decide⟩ ⟨by omega, by omega⟩ dL_stock_4 (fun h0 T' I' hp => ?_) (fun h0 T' I' q hp => ?_)
  · obtain ⟨i, rfl⟩ := hv h0
    subst h0
    refine r_i2l (pc := 7) C dL_stock_7 ?_
    refine r_jast (pc := 8) C dL_stock_8 (fun f' hf => ?_)
    refine r_goto (pc := 9) (tgt := 15) C dL_stock_9 rfl ?_
    refine r_iconst (pc := 15) (v := 0) C dL_stock_15 rfl ?_
    exact r_iret (pc := 16) C dL_stock_16 ⟨rfl, hp, f', rfl, fun _ => ⟨i, rfl, hf⟩⟩ ⟨by omega, by omega⟩
  · obtain rfl : kx = 1 := by omega
    refine r_astore_n (pc := 12) (lo' := _) C dL_stock_12 rfl (by decide) rfl ?_
    refine r_iconst (pc := 13) (v := 1) C dL_stock_13 rfl ?_
    exact r_iret (pc := 14) C dL_stock_14 ⟨rfl, hp, f, rfl, fun z => absurd z (by decide)⟩ ⟨by omega, by omega⟩

set_option maxHeartbeats 1000000 in
theorem w_coins {g : GG} {a b x kx : Nat} {f : Nat → Int64} {h : Nat → UInt64} {T : TT} {I : II} {u0_ : Int32} {v : Value} {P : TT → II → Prop} (hcl : isCl T x) (hk : kx ≤ 1) (hv : kx = 0 → vOk (some .int) v) (hO : OpC g yX9_coins cX9_coins 2 (some .int) [.ref x, .int u0_] (XO g a f b h) T I kx v (exc (([2] : List Nat).getD (kx - 1) 0)) P) : McW g yL_coins cL_coins 4 (mkT 9 [2] [12]) 13 30 4200 [.ref x, .int u0_, .ref a] (XO g a f b h) T I (WI g a b h kx v P) := by
  obtain ⟨d, cm, cs, d1, d2, d3, hM⟩ := hO
  refine McW.of (by decide) (Nat.le_of_ble_eq_true rfl) (fun k hfl hnc htb C => ?_)
  refine r_lo (lo' := [(0, _), (1, _), (2, _)]) rfl ?_
  refine r_aload_n (pc := 0) C 2 dL_coins_0 rfl rfl ?_
  refine r_iconst (pc := 1) (v := 0) C dL_coins_1 rfl ?_
  refine r_aload_n (pc := 2) C 0 dL_coins_2 rfl rfl ?_
  refine r_iload_n (pc := 3) C 1 dL_coins_3 rfl rfl ?_
  refine r_xVc (pc := 4) (codes := [2]) (hs := [12]) (en := 9) (v := v) C hfl hnc htb rfl (by decide) (by decide) k_L_54 hM hk hcl.1 ca_X9 rfl rfl (Nat.le_of_ble_eq_true rfl) ⟨by omega, by decide⟩ ⟨by omega, by omega⟩ dL_coins_4 (fun h0 T' I' hp => ?_) (fun h0 T' I' q hp => ?_)
  · obtain ⟨i, rfl⟩ := hv h0
    subst h0
    refine r_i2l (pc := 7) C dL_coins_7 ?_
    refine r_jast (pc := 8) C dL_coins_8 (fun f' hf => ?_)
    refine r_goto (pc := 9) (tgt := 15) C dL_coins_9 rfl ?_
    refine r_iconst (pc := 15) (v := 0) C dL_coins_15 rfl ?_
    exact r_iret (pc := 16) C dL_coins_16 ⟨rfl, hp, f', rfl, fun _ => ⟨i, rfl, hf⟩⟩ ⟨by omega, by omega⟩
  · obtain rfl : kx = 1 := by omega
    refine r_astore_n (pc := 12) (lo' := _) C dL_coins_12 rfl (by decide) rfl ?_
    refine r_iconst (pc := 13) (v := 1) C dL_coins_13 rfl ?_
    exact r_iret (pc := 14) C dL_coins_14 ⟨rfl, hp, f, rfl, fun z => absurd z (by decide)⟩ ⟨by omega, by omega⟩

set_option maxHeartbeats 1000000 in
theorem w_units {g : GG} {a b x kx : Nat} {f : Nat → Int64} {h : Nat → UInt64} {T : TT} {I : II} {u0_ u1_ : Int32} {v : Value} {P : TT → II → Prop} (hcl : isCl T x) (hk : kx ≤ 1) (hv : kx = 0 → vOk (some .int) v) (hO : OpC g yX9_units cX9_units 4 (some .int) [.ref x, .int u0_, .int u1_] (XO g a f b h) T I kx v (exc (([2] : List Nat).getD (kx - 1) 0)) P) : McW g yL_units cL_units 5 (mkT 10 [2] [13]) 13 30 4200 [.ref x, .int u0_, .int u1_, .ref a] (XO g a f b h) T I (WI g a b h kx v P) := by
  obtain ⟨d, cm, cs, d1, d2, d3, hM⟩ := hO
  refine McW.of (by decide) (Nat.le_of_ble_eq_true rfl) (fun k hfl hnc htb C => ?_)
  refine r_lo (lo' := [(0, _), (1, _), (2, _), (3, _)]) rfl ?_
  refine r_aload_n (pc := 0) C 3 dL_units_0 rfl rfl ?_
  refine r_iconst (pc := 1) (v := 0) C dL_units_1 rfl ?_
  refine r_aload_n (pc := 2) C 0 dL_units_2 rfl rfl ?_
  refine r_iload_n (pc := 3) C 1 dL_units_3 rfl rfl ?_
  refine r_iload_n (pc := 4) C 2 dL_units_4 rfl rfl ?_
  refine r_xVc (pc := 5) (codes := [2]) (hs := [13]) (en := 10) (v := v) C hfl hnc htb rfl (by decide) (by decide) k_L_57 hM hk hcl.1 ca_X9 rfl rfl (Nat.le_of_ble_eq_true rfl) ⟨by omega, by decide⟩ ⟨by omega, by omega⟩ dL_units_5 (fun h0 T' I' hp => ?_) (fun h0 T' I' q hp => ?_)
  · obtain ⟨i, rfl⟩ := hv h0
    subst h0
    refine r_i2l (pc := 8) C dL_units_8 ?_
    refine r_jast (pc := 9) C dL_units_9 (fun f' hf => ?_)
    refine r_goto (pc := 10) (tgt := 17) C dL_units_10 rfl ?_
    refine r_iconst (pc := 17) (v := 0) C dL_units_17 rfl ?_
    exact r_iret (pc := 18) C dL_units_18 ⟨rfl, hp, f', rfl, fun _ => ⟨i, rfl, hf⟩⟩ ⟨by omega, by omega⟩
  · obtain rfl : kx = 1 := by omega
    refine r_astore (pc := 13) (lo' := _) C dL_units_13 (by decide) rfl ?_
    refine r_iconst (pc := 15) (v := 1) C dL_units_15 rfl ?_
    exact r_iret (pc := 16) C dL_units_16 ⟨rfl, hp, f, rfl, fun z => absurd z (by decide)⟩ ⟨by omega, by omega⟩

set_option maxHeartbeats 1000000 in
theorem w_pledgedUnits {g : GG} {a b x kx : Nat} {f : Nat → Int64} {h : Nat → UInt64} {T : TT} {I : II} {u0_ u1_ : Int32} {v : Value} {P : TT → II → Prop} (hcl : isCl T x) (hk : kx ≤ 1) (hv : kx = 0 → vOk (some .int) v) (hO : OpC g yX9_pledgedUnits cX9_pledgedUnits 3 (some .int) [.ref x, .int u0_, .int u1_] (XO g a f b h) T I kx v (exc (([2] : List Nat).getD (kx - 1) 0)) P) : McW g yL_pledgedUnits cL_pledgedUnits 5 (mkT 10 [2] [13]) 13 30 4200 [.ref x, .int u0_, .int u1_, .ref a] (XO g a f b h) T I (WI g a b h kx v P) := by
  obtain ⟨d, cm, cs, d1, d2, d3, hM⟩ := hO
  refine McW.of (by decide) (Nat.le_of_ble_eq_true rfl) (fun k hfl hnc htb C => ?_)
  refine r_lo (lo' := [(0, _), (1, _), (2, _), (3, _)]) rfl ?_
  refine r_aload_n (pc := 0) C 3 dL_pledgedUnits_0 rfl rfl ?_
  refine r_iconst (pc := 1) (v := 0) C dL_pledgedUnits_1 rfl ?_
  refine r_aload_n (pc := 2) C 0 dL_pledgedUnits_2 rfl rfl ?_
  refine r_iload_n (pc := 3) C 1 dL_pledgedUnits_3 rfl rfl ?_
  refine r_iload_n (pc := 4) C 2 dL_pledgedUnits_4 rfl rfl ?_
  refine r_xVc (pc := 5) (codes := [2]) (hs := [13]) (en := 10) (v := v) C hfl hnc htb rfl (by decide) (by decide) k_L_60 hM hk hcl.1 ca_X9 rfl rfl (Nat.le_of_ble_eq_true rfl) ⟨by omega, by decide⟩ ⟨by omega, by omega⟩ dL_pledgedUnits_5 (fun h0 T' I' hp => ?_) (fun h0 T' I' q hp => ?_)
  · obtain ⟨i, rfl⟩ := hv h0
    subst h0
    refine r_i2l (pc := 8) C dL_pledgedUnits_8 ?_
    refine r_jast (pc := 9) C dL_pledgedUnits_9 (fun f' hf => ?_)
    refine r_goto (pc := 10) (tgt := 17) C dL_pledgedUnits_10 rfl ?_
    refine r_iconst (pc := 17) (v := 0) C dL_pledgedUnits_17 rfl ?_
    exact r_iret (pc := 18) C dL_pledgedUnits_18 ⟨rfl, hp, f', rfl, fun _ => ⟨i, rfl, hf⟩⟩ ⟨by omega, by omega⟩
  · obtain rfl : kx = 1 := by omega
    refine r_astore (pc := 13) (lo' := _) C dL_pledgedUnits_13 (by decide) rfl ?_
    refine r_iconst (pc := 15) (v := 1) C dL_pledgedUnits_15 rfl ?_
    exact r_iret (pc := 16) C dL_pledgedUnits_16 ⟨rfl, hp, f, rfl, fun z => absurd z (by decide)⟩ ⟨by omega, by omega⟩

set_option maxHeartbeats 1000000 in
theorem w_defaults {g : GG} {a b x kx : Nat} {f : Nat → Int64} {h : Nat → UInt64} {T : TT} {I : II} {u0_ : Int32} {v : Value} {P : TT → II → Prop} (hcl : isCl T x) (hk : kx ≤ 1) (hv : kx = 0 → vOk (some .int) v) (hO : OpC g yX9_defaults cX9_defaults 2 (some .int) [.ref x, .int u0_] (XO g a f b h) T I kx v (exc (([2] : List Nat).getD (kx - 1) 0)) P) : McW g yL_defaults cL_defaults 4 (mkT 9 [2] [12]) 13 30 4200 [.ref x, .int u0_, .ref a] (XO g a f b h) T I (WI g a b h kx v P) := by
  obtain ⟨d, cm, cs, d1, d2, d3, hM⟩ := hO
  refine McW.of (by decide) (Nat.le_of_ble_eq_true rfl) (fun k hfl hnc htb C => ?_)
  refine r_lo (lo' := [(0, _), (1, _), (2, _)]) rfl ?_
  refine r_aload_n (pc := 0) C 2 dL_defaults_0 rfl rfl ?_
  refine r_iconst (pc := 1) (v := 0) C dL_defaults_1 rfl ?_
  refine r_aload_n (pc := 2) C 0 dL_defaults_2 rfl rfl ?_
  refine r_iload_n (pc := 3) C 1 dL_defaults_3 rfl rfl ?_
  refine r_xVc (pc := 4) (codes := [2]) (hs := [12]) (en := 9) (v := v) C hfl hnc htb rfl (by decide) (by decide) k_L_63 hM hk hcl.1 ca_X9 rfl rfl (Nat.le_of_ble_eq_true rfl) ⟨by omega, by decide⟩ ⟨by omega, by omega⟩ dL_defaults_4 (fun h0 T' I' hp => ?_) (fun h0 T' I' q hp => ?_)
  · obtain ⟨i, rfl⟩ := hv h0
    subst h0
    refine r_i2l (pc := 7) C dL_defaults_7 ?_
    refine r_jast (pc := 8) C dL_defaults_8 (fun f' hf => ?_)
    refine r_goto (pc := 9) (tgt := 15) C dL_defaults_9 rfl ?_
    refine r_iconst (pc := 15) (v := 0) C dL_defaults_15 rfl ?_
    exact r_iret (pc := 16) C dL_defaults_16 ⟨rfl, hp, f', rfl, fun _ => ⟨i, rfl, hf⟩⟩ ⟨by omega, by omega⟩
  · obtain rfl : kx = 1 := by omega
    refine r_astore_n (pc := 12) (lo' := _) C dL_defaults_12 rfl (by decide) rfl ?_
    refine r_iconst (pc := 13) (v := 1) C dL_defaults_13 rfl ?_
    exact r_iret (pc := 14) C dL_defaults_14 ⟨rfl, hp, f, rfl, fun z => absurd z (by decide)⟩ ⟨by omega, by omega⟩

set_option maxHeartbeats 1000000 in
theorem w_canBorrow {g : GG} {a b x kx : Nat} {f : Nat → Int64} {h : Nat → UInt64} {T : TT} {I : II} {u0_ : Int32} {v : Value} {P : TT → II → Prop} (hcl : isCl T x) (hk : kx ≤ 1) (hv : kx = 0 → vOk (some .boolean) v) (hO : OpC g yX9_canBorrow cX9_canBorrow 2 (some .boolean) [.ref x, .int u0_] (XO g a f b h) T I kx v (exc (([2] : List Nat).getD (kx - 1) 0)) P) : McW g yL_canBorrow cL_canBorrow 4 (mkT 16 [2] [19]) 13 30 4200 [.ref x, .int u0_, .ref a] (XO g a f b h) T I (WB g a b h kx v P) := by
  obtain ⟨d, cm, cs, d1, d2, d3, hM⟩ := hO
  refine McW.of (by decide) (Nat.le_of_ble_eq_true rfl) (fun k hfl hnc htb C => ?_)
  refine r_lo (lo' := [(0, _), (1, _), (2, _)]) rfl ?_
  refine r_aload_n (pc := 0) C 2 dL_canBorrow_0 rfl rfl ?_
  refine r_iconst (pc := 1) (v := 0) C dL_canBorrow_1 rfl ?_
  refine r_aload_n (pc := 2) C 0 dL_canBorrow_2 rfl rfl ?_
  refine r_iload_n (pc := 3) C 1 dL_canBorrow_3 rfl rfl ?_
  refine r_xVc (pc := 4) (codes := [2]) (hs := [19]) (en := 16) (v := v) C hfl hnc htb rfl (by decide) (by decide) k_L_66 hM hk hcl.1 ca_X9 rfl rfl (Nat.le_of_ble_eq_true rfl) ⟨by omega, by decide⟩ ⟨by omega, by omega⟩ dL_canBorrow_4 (fun h0 T' I' hp => ?_) (fun h0 T' I' q hp => ?_)
  · obtain ⟨i, rfl⟩ := hv h0
    subst h0
    refine r_ifeq (pc := 7) (tgt := 14) C dL_canBorrow_7 rfl (fun c0 => ?_) (fun c0 => ?_)
    · refine r_lconst (pc := 14) (v := 0) C dL_canBorrow_14 rfl ?_
      refine r_jast (pc := 15) C dL_canBorrow_15 (fun f' hf => ?_)
      refine r_goto (pc := 16) (tgt := 22) C dL_canBorrow_16 rfl ?_
      refine r_iconst (pc := 22) (v := 0) C dL_canBorrow_22 rfl ?_
      exact r_iret (pc := 23) C dL_canBorrow_23 ⟨rfl, hp, f', rfl, fun _ => ⟨i, rfl, by rw [if_pos c0]; exact hf⟩⟩ ⟨by omega, by omega⟩
    · refine r_lconst (pc := 10) (v := 1) C dL_canBorrow_10 rfl ?_
      refine r_goto (pc := 11) (tgt := 15) C dL_canBorrow_11 rfl ?_
      refine r_jast (pc := 15) C dL_canBorrow_15 (fun f' hf => ?_)
      refine r_goto (pc := 16) (tgt := 22) C dL_canBorrow_16 rfl ?_
      refine r_iconst (pc := 22) (v := 0) C dL_canBorrow_22 rfl ?_
      exact r_iret (pc := 23) C dL_canBorrow_23 ⟨rfl, hp, f', rfl, fun _ => ⟨i, rfl, by rw [if_neg c0]; exact hf⟩⟩ ⟨by omega, by omega⟩
  · obtain rfl : kx = 1 := by omega
    refine r_astore_n (pc := 19) (lo' := _) C dL_canBorrow_19 rfl (by decide) rfl ?_
    refine r_iconst (pc := 20) (v := 1) C dL_canBorrow_20 rfl ?_
    exact r_iret (pc := 21) C dL_canBorrow_21 ⟨rfl, hp, f, rfl, fun z => absurd z (by decide)⟩ ⟨by omega, by omega⟩

set_option maxHeartbeats 1000000 in
theorem w_loansOf {g : GG} {a b x kx : Nat} {f : Nat → Int64} {h : Nat → UInt64} {T : TT} {I : II} {u0_ : Int32} {v : Value} {P : TT → II → Prop} (hcl : isCl T x) (hk : kx ≤ 1) (hv : kx = 0 → vOk (some .int) v) (hO : OpC g yX9_loansOf cX9_loansOf 2 (some .int) [.ref x, .int u0_] (XO g a f b h) T I kx v (exc (([2] : List Nat).getD (kx - 1) 0)) P) : McW g yL_loansOf cL_loansOf 4 (mkT 9 [2] [12]) 13 30 4200 [.ref x, .int u0_, .ref a] (XO g a f b h) T I (WI g a b h kx v P) := by
  obtain ⟨d, cm, cs, d1, d2, d3, hM⟩ := hO
  refine McW.of (by decide) (Nat.le_of_ble_eq_true rfl) (fun k hfl hnc htb C => ?_)
  refine r_lo (lo' := [(0, _), (1, _), (2, _)]) rfl ?_
  refine r_aload_n (pc := 0) C 2 dL_loansOf_0 rfl rfl ?_
  refine r_iconst (pc := 1) (v := 0) C dL_loansOf_1 rfl ?_
  refine r_aload_n (pc := 2) C 0 dL_loansOf_2 rfl rfl ?_
  refine r_iload_n (pc := 3) C 1 dL_loansOf_3 rfl rfl ?_
  refine r_xVc (pc := 4) (codes := [2]) (hs := [12]) (en := 9) (v := v) C hfl hnc htb rfl (by decide) (by decide) k_L_70 hM hk hcl.1 ca_X9 rfl rfl (Nat.le_of_ble_eq_true rfl) ⟨by omega, by decide⟩ ⟨by omega, by omega⟩ dL_loansOf_4 (fun h0 T' I' hp => ?_) (fun h0 T' I' q hp => ?_)
  · obtain ⟨i, rfl⟩ := hv h0
    subst h0
    refine r_i2l (pc := 7) C dL_loansOf_7 ?_
    refine r_jast (pc := 8) C dL_loansOf_8 (fun f' hf => ?_)
    refine r_goto (pc := 9) (tgt := 15) C dL_loansOf_9 rfl ?_
    refine r_iconst (pc := 15) (v := 0) C dL_loansOf_15 rfl ?_
    exact r_iret (pc := 16) C dL_loansOf_16 ⟨rfl, hp, f', rfl, fun _ => ⟨i, rfl, hf⟩⟩ ⟨by omega, by omega⟩
  · obtain rfl : kx = 1 := by omega
    refine r_astore_n (pc := 12) (lo' := _) C dL_loansOf_12 rfl (by decide) rfl ?_
    refine r_iconst (pc := 13) (v := 1) C dL_loansOf_13 rfl ?_
    exact r_iret (pc := 14) C dL_loansOf_14 ⟨rfl, hp, f, rfl, fun z => absurd z (by decide)⟩ ⟨by omega, by omega⟩

set_option maxHeartbeats 1000000 in
theorem w_debtOf {g : GG} {a b x kx : Nat} {f : Nat → Int64} {h : Nat → UInt64} {T : TT} {I : II} {u0_ : Int32} {v : Value} {P : TT → II → Prop} (hcl : isCl T x) (hk : kx ≤ 1) (hv : kx = 0 → vOk (some .int) v) (hO : OpC g yX9_debtOf cX9_debtOf 2 (some .int) [.ref x, .int u0_] (XO g a f b h) T I kx v (exc (([2] : List Nat).getD (kx - 1) 0)) P) : McW g yL_debtOf cL_debtOf 4 (mkT 9 [2] [12]) 13 30 4200 [.ref x, .int u0_, .ref a] (XO g a f b h) T I (WI g a b h kx v P) := by
  obtain ⟨d, cm, cs, d1, d2, d3, hM⟩ := hO
  refine McW.of (by decide) (Nat.le_of_ble_eq_true rfl) (fun k hfl hnc htb C => ?_)
  refine r_lo (lo' := [(0, _), (1, _), (2, _)]) rfl ?_
  refine r_aload_n (pc := 0) C 2 dL_debtOf_0 rfl rfl ?_
  refine r_iconst (pc := 1) (v := 0) C dL_debtOf_1 rfl ?_
  refine r_aload_n (pc := 2) C 0 dL_debtOf_2 rfl rfl ?_
  refine r_iload_n (pc := 3) C 1 dL_debtOf_3 rfl rfl ?_
  refine r_xVc (pc := 4) (codes := [2]) (hs := [12]) (en := 9) (v := v) C hfl hnc htb rfl (by decide) (by decide) k_L_73 hM hk hcl.1 ca_X9 rfl rfl (Nat.le_of_ble_eq_true rfl) ⟨by omega, by decide⟩ ⟨by omega, by omega⟩ dL_debtOf_4 (fun h0 T' I' hp => ?_) (fun h0 T' I' q hp => ?_)
  · obtain ⟨i, rfl⟩ := hv h0
    subst h0
    refine r_i2l (pc := 7) C dL_debtOf_7 ?_
    refine r_jast (pc := 8) C dL_debtOf_8 (fun f' hf => ?_)
    refine r_goto (pc := 9) (tgt := 15) C dL_debtOf_9 rfl ?_
    refine r_iconst (pc := 15) (v := 0) C dL_debtOf_15 rfl ?_
    exact r_iret (pc := 16) C dL_debtOf_16 ⟨rfl, hp, f', rfl, fun _ => ⟨i, rfl, hf⟩⟩ ⟨by omega, by omega⟩
  · obtain rfl : kx = 1 := by omega
    refine r_astore_n (pc := 12) (lo' := _) C dL_debtOf_12 rfl (by decide) rfl ?_
    refine r_iconst (pc := 13) (v := 1) C dL_debtOf_13 rfl ?_
    exact r_iret (pc := 14) C dL_debtOf_14 ⟨rfl, hp, f, rfl, fun z => absurd z (by decide)⟩ ⟨by omega, by omega⟩

set_option maxHeartbeats 1000000 in
theorem w_wealth {g : GG} {a b x kx : Nat} {f : Nat → Int64} {h : Nat → UInt64} {T : TT} {I : II} {u0_ : Int32} {v : Value} {P : TT → II → Prop} (hcl : isCl T x) (hk : kx ≤ 1) (hv : kx = 0 → vOk (some .int) v) (hO : OpC g yX9_wealth cX9_wealth 5 (some .int) [.ref x, .int u0_] (XO g a f b h) T I kx v (exc (([2] : List Nat).getD (kx - 1) 0)) P) : McW g yL_wealth cL_wealth 4 (mkT 9 [2] [12]) 13 30 4200 [.ref x, .int u0_, .ref a] (XO g a f b h) T I (WI g a b h kx v P) := by
  obtain ⟨d, cm, cs, d1, d2, d3, hM⟩ := hO
  refine McW.of (by decide) (Nat.le_of_ble_eq_true rfl) (fun k hfl hnc htb C => ?_)
  refine r_lo (lo' := [(0, _), (1, _), (2, _)]) rfl ?_
  refine r_aload_n (pc := 0) C 2 dL_wealth_0 rfl rfl ?_
  refine r_iconst (pc := 1) (v := 0) C dL_wealth_1 rfl ?_
  refine r_aload_n (pc := 2) C 0 dL_wealth_2 rfl rfl ?_
  refine r_iload_n (pc := 3) C 1 dL_wealth_3 rfl rfl ?_
  refine r_xVc (pc := 4) (codes := [2]) (hs := [12]) (en := 9) (v := v) C hfl hnc htb rfl (by decide) (by decide) k_L_76 hM hk hcl.1 ca_X9 rfl rfl (Nat.le_of_ble_eq_true rfl) ⟨by omega, by decide⟩ ⟨by omega, by omega⟩ dL_wealth_4 (fun h0 T' I' hp => ?_) (fun h0 T' I' q hp => ?_)
  · obtain ⟨i, rfl⟩ := hv h0
    subst h0
    refine r_i2l (pc := 7) C dL_wealth_7 ?_
    refine r_jast (pc := 8) C dL_wealth_8 (fun f' hf => ?_)
    refine r_goto (pc := 9) (tgt := 15) C dL_wealth_9 rfl ?_
    refine r_iconst (pc := 15) (v := 0) C dL_wealth_15 rfl ?_
    exact r_iret (pc := 16) C dL_wealth_16 ⟨rfl, hp, f', rfl, fun _ => ⟨i, rfl, hf⟩⟩ ⟨by omega, by omega⟩
  · obtain rfl : kx = 1 := by omega
    refine r_astore_n (pc := 12) (lo' := _) C dL_wealth_12 rfl (by decide) rfl ?_
    refine r_iconst (pc := 13) (v := 1) C dL_wealth_13 rfl ?_
    exact r_iret (pc := 14) C dL_wealth_14 ⟨rfl, hp, f, rfl, fun z => absurd z (by decide)⟩ ⟨by omega, by omega⟩

set_option maxHeartbeats 1000000 in
theorem w_idAt {g : GG} {a b x kx : Nat} {f : Nat → Int64} {h : Nat → UInt64} {T : TT} {I : II} {u0_ : Int32} {v : Value} {P : TT → II → Prop} (hcl : isCl T x) (hk : kx ≤ 1) (hv : kx = 0 → vOk (some .int) v) (hO : OpC g yX9_idAt cX9_idAt 2 (some .int) [.ref x, .int u0_] (XO g a f b h) T I kx v (exc (([2] : List Nat).getD (kx - 1) 0)) P) : McW g yL_idAt cL_idAt 4 (mkT 9 [2] [12]) 13 30 4200 [.ref x, .int u0_, .ref a] (XO g a f b h) T I (WI g a b h kx v P) := by
  obtain ⟨d, cm, cs, d1, d2, d3, hM⟩ := hO
  refine McW.of (by decide) (Nat.le_of_ble_eq_true rfl) (fun k hfl hnc htb C => ?_)
  refine r_lo (lo' := [(0, _), (1, _), (2, _)]) rfl ?_
  refine r_aload_n (pc := 0) C 2 dL_idAt_0 rfl rfl ?_
  refine r_iconst (pc := 1) (v := 0) C dL_idAt_1 rfl ?_
  refine r_aload_n (pc := 2) C 0 dL_idAt_2 rfl rfl ?_
  refine r_iload_n (pc := 3) C 1 dL_idAt_3 rfl rfl ?_
  refine r_xVc (pc := 4) (codes := [2]) (hs := [12]) (en := 9) (v := v) C hfl hnc htb rfl (by decide) (by decide) k_L_79 hM hk hcl.1 ca_X9 rfl rfl (Nat.le_of_ble_eq_true rfl) ⟨by omega, by decide⟩ ⟨by omega, by omega⟩ dL_idAt_4 (fun h0 T' I' hp => ?_) (fun h0 T' I' q hp => ?_)
  · obtain ⟨i, rfl⟩ := hv h0
    subst h0
    refine r_i2l (pc := 7) C dL_idAt_7 ?_
    refine r_jast (pc := 8) C dL_idAt_8 (fun f' hf => ?_)
    refine r_goto (pc := 9) (tgt := 15) C dL_idAt_9 rfl ?_
    refine r_iconst (pc := 15) (v := 0) C dL_idAt_15 rfl ?_
    exact r_iret (pc := 16) C dL_idAt_16 ⟨rfl, hp, f', rfl, fun _ => ⟨i, rfl, hf⟩⟩ ⟨by omega, by omega⟩
  · obtain rfl : kx = 1 := by omega
    refine r_astore_n (pc := 12) (lo' := _) C dL_idAt_12 rfl (by decide) rfl ?_
    refine r_iconst (pc := 13) (v := 1) C dL_idAt_13 rfl ?_
    exact r_iret (pc := 14) C dL_idAt_14 ⟨rfl, hp, f, rfl, fun z => absurd z (by decide)⟩ ⟨by omega, by omega⟩

set_option maxHeartbeats 1000000 in
theorem w_borrowerOf {g : GG} {a b x kx : Nat} {f : Nat → Int64} {h : Nat → UInt64} {T : TT} {I : II} {u0_ : Int32} {v : Value} {P : TT → II → Prop} (hcl : isCl T x) (hk : kx ≤ 1) (hv : kx = 0 → vOk (some .int) v) (hO : OpC g yX9_borrowerOf cX9_borrowerOf 2 (some .int) [.ref x, .int u0_] (XO g a f b h) T I kx v (exc (([1] : List Nat).getD (kx - 1) 0)) P) : McW g yL_borrowerOf cL_borrowerOf 4 (mkT 9 [1] [12]) 13 30 4200 [.ref x, .int u0_, .ref a] (XO g a f b h) T I (WI g a b h kx v P) := by
  obtain ⟨d, cm, cs, d1, d2, d3, hM⟩ := hO
  refine McW.of (by decide) (Nat.le_of_ble_eq_true rfl) (fun k hfl hnc htb C => ?_)
  refine r_lo (lo' := [(0, _), (1, _), (2, _)]) rfl ?_
  refine r_aload_n (pc := 0) C 2 dL_borrowerOf_0 rfl rfl ?_
  refine r_iconst (pc := 1) (v := 0) C dL_borrowerOf_1 rfl ?_
  refine r_aload_n (pc := 2) C 0 dL_borrowerOf_2 rfl rfl ?_
  refine r_iload_n (pc := 3) C 1 dL_borrowerOf_3 rfl rfl ?_
  refine r_xVc (pc := 4) (codes := [1]) (hs := [12]) (en := 9) (v := v) C hfl hnc htb rfl (by decide) (by decide) k_L_82 hM hk hcl.1 ca_X9 rfl rfl (Nat.le_of_ble_eq_true rfl) ⟨by omega, by decide⟩ ⟨by omega, by omega⟩ dL_borrowerOf_4 (fun h0 T' I' hp => ?_) (fun h0 T' I' q hp => ?_)
  · obtain ⟨i, rfl⟩ := hv h0
    subst h0
    refine r_i2l (pc := 7) C dL_borrowerOf_7 ?_
    refine r_jast (pc := 8) C dL_borrowerOf_8 (fun f' hf => ?_)
    refine r_goto (pc := 9) (tgt := 15) C dL_borrowerOf_9 rfl ?_
    refine r_iconst (pc := 15) (v := 0) C dL_borrowerOf_15 rfl ?_
    exact r_iret (pc := 16) C dL_borrowerOf_16 ⟨rfl, hp, f', rfl, fun _ => ⟨i, rfl, hf⟩⟩ ⟨by omega, by omega⟩
  · obtain rfl : kx = 1 := by omega
    refine r_astore_n (pc := 12) (lo' := _) C dL_borrowerOf_12 rfl (by decide) rfl ?_
    refine r_iconst (pc := 13) (v := 1) C dL_borrowerOf_13 rfl ?_
    exact r_iret (pc := 14) C dL_borrowerOf_14 ⟨rfl, hp, f, rfl, fun z => absurd z (by decide)⟩ ⟨by omega, by omega⟩

set_option maxHeartbeats 1000000 in
theorem w_principal {g : GG} {a b x kx : Nat} {f : Nat → Int64} {h : Nat → UInt64} {T : TT} {I : II} {u0_ : Int32} {v : Value} {P : TT → II → Prop} (hcl : isCl T x) (hk : kx ≤ 1) (hv : kx = 0 → vOk (some .int) v) (hO : OpC g yX9_principal cX9_principal 2 (some .int) [.ref x, .int u0_] (XO g a f b h) T I kx v (exc (([1] : List Nat).getD (kx - 1) 0)) P) : McW g yL_principal cL_principal 4 (mkT 9 [1] [12]) 13 30 4200 [.ref x, .int u0_, .ref a] (XO g a f b h) T I (WI g a b h kx v P) := by
  obtain ⟨d, cm, cs, d1, d2, d3, hM⟩ := hO
  refine McW.of (by decide) (Nat.le_of_ble_eq_true rfl) (fun k hfl hnc htb C => ?_)
  refine r_lo (lo' := [(0, _), (1, _), (2, _)]) rfl ?_
  refine r_aload_n (pc := 0) C 2 dL_principal_0 rfl rfl ?_
  refine r_iconst (pc := 1) (v := 0) C dL_principal_1 rfl ?_
  refine r_aload_n (pc := 2) C 0 dL_principal_2 rfl rfl ?_
  refine r_iload_n (pc := 3) C 1 dL_principal_3 rfl rfl ?_
  refine r_xVc (pc := 4) (codes := [1]) (hs := [12]) (en := 9) (v := v) C hfl hnc htb rfl (by decide) (by decide) k_L_85 hM hk hcl.1 ca_X9 rfl rfl (Nat.le_of_ble_eq_true rfl) ⟨by omega, by decide⟩ ⟨by omega, by omega⟩ dL_principal_4 (fun h0 T' I' hp => ?_) (fun h0 T' I' q hp => ?_)
  · obtain ⟨i, rfl⟩ := hv h0
    subst h0
    refine r_i2l (pc := 7) C dL_principal_7 ?_
    refine r_jast (pc := 8) C dL_principal_8 (fun f' hf => ?_)
    refine r_goto (pc := 9) (tgt := 15) C dL_principal_9 rfl ?_
    refine r_iconst (pc := 15) (v := 0) C dL_principal_15 rfl ?_
    exact r_iret (pc := 16) C dL_principal_16 ⟨rfl, hp, f', rfl, fun _ => ⟨i, rfl, hf⟩⟩ ⟨by omega, by omega⟩
  · obtain rfl : kx = 1 := by omega
    refine r_astore_n (pc := 12) (lo' := _) C dL_principal_12 rfl (by decide) rfl ?_
    refine r_iconst (pc := 13) (v := 1) C dL_principal_13 rfl ?_
    exact r_iret (pc := 14) C dL_principal_14 ⟨rfl, hp, f, rfl, fun z => absurd z (by decide)⟩ ⟨by omega, by omega⟩

set_option maxHeartbeats 1000000 in
theorem w_interest {g : GG} {a b x kx : Nat} {f : Nat → Int64} {h : Nat → UInt64} {T : TT} {I : II} {u0_ : Int32} {v : Value} {P : TT → II → Prop} (hcl : isCl T x) (hk : kx ≤ 1) (hv : kx = 0 → vOk (some .int) v) (hO : OpC g yX9_interest cX9_interest 2 (some .int) [.ref x, .int u0_] (XO g a f b h) T I kx v (exc (([1] : List Nat).getD (kx - 1) 0)) P) : McW g yL_interest cL_interest 4 (mkT 9 [1] [12]) 13 30 4200 [.ref x, .int u0_, .ref a] (XO g a f b h) T I (WI g a b h kx v P) := by
  obtain ⟨d, cm, cs, d1, d2, d3, hM⟩ := hO
  refine McW.of (by decide) (Nat.le_of_ble_eq_true rfl) (fun k hfl hnc htb C => ?_)
  refine r_lo (lo' := [(0, _), (1, _), (2, _)]) rfl ?_
  refine r_aload_n (pc := 0) C 2 dL_interest_0 rfl rfl ?_
  refine r_iconst (pc := 1) (v := 0) C dL_interest_1 rfl ?_
  refine r_aload_n (pc := 2) C 0 dL_interest_2 rfl rfl ?_
  refine r_iload_n (pc := 3) C 1 dL_interest_3 rfl rfl ?_
  refine r_xVc (pc := 4) (codes := [1]) (hs := [12]) (en := 9) (v := v) C hfl hnc htb rfl (by decide) (by decide) k_L_88 hM hk hcl.1 ca_X9 rfl rfl (Nat.le_of_ble_eq_true rfl) ⟨by omega, by decide⟩ ⟨by omega, by omega⟩ dL_interest_4 (fun h0 T' I' hp => ?_) (fun h0 T' I' q hp => ?_)
  · obtain ⟨i, rfl⟩ := hv h0
    subst h0
    refine r_i2l (pc := 7) C dL_interest_7 ?_
    refine r_jast (pc := 8) C dL_interest_8 (fun f' hf => ?_)
    refine r_goto (pc := 9) (tgt := 15) C dL_interest_9 rfl ?_
    refine r_iconst (pc := 15) (v := 0) C dL_interest_15 rfl ?_
    exact r_iret (pc := 16) C dL_interest_16 ⟨rfl, hp, f', rfl, fun _ => ⟨i, rfl, hf⟩⟩ ⟨by omega, by omega⟩
  · obtain rfl : kx = 1 := by omega
    refine r_astore_n (pc := 12) (lo' := _) C dL_interest_12 rfl (by decide) rfl ?_
    refine r_iconst (pc := 13) (v := 1) C dL_interest_13 rfl ?_
    exact r_iret (pc := 14) C dL_interest_14 ⟨rfl, hp, f, rfl, fun z => absurd z (by decide)⟩ ⟨by omega, by omega⟩

set_option maxHeartbeats 1000000 in
theorem w_debt {g : GG} {a b x kx : Nat} {f : Nat → Int64} {h : Nat → UInt64} {T : TT} {I : II} {u0_ : Int32} {v : Value} {P : TT → II → Prop} (hcl : isCl T x) (hk : kx ≤ 1) (hv : kx = 0 → vOk (some .int) v) (hO : OpC g yX9_debt cX9_debt 2 (some .int) [.ref x, .int u0_] (XO g a f b h) T I kx v (exc (([1] : List Nat).getD (kx - 1) 0)) P) : McW g yL_debt cL_debt 4 (mkT 9 [1] [12]) 13 30 4200 [.ref x, .int u0_, .ref a] (XO g a f b h) T I (WI g a b h kx v P) := by
  obtain ⟨d, cm, cs, d1, d2, d3, hM⟩ := hO
  refine McW.of (by decide) (Nat.le_of_ble_eq_true rfl) (fun k hfl hnc htb C => ?_)
  refine r_lo (lo' := [(0, _), (1, _), (2, _)]) rfl ?_
  refine r_aload_n (pc := 0) C 2 dL_debt_0 rfl rfl ?_
  refine r_iconst (pc := 1) (v := 0) C dL_debt_1 rfl ?_
  refine r_aload_n (pc := 2) C 0 dL_debt_2 rfl rfl ?_
  refine r_iload_n (pc := 3) C 1 dL_debt_3 rfl rfl ?_
  refine r_xVc (pc := 4) (codes := [1]) (hs := [12]) (en := 9) (v := v) C hfl hnc htb rfl (by decide) (by decide) k_L_91 hM hk hcl.1 ca_X9 rfl rfl (Nat.le_of_ble_eq_true rfl) ⟨by omega, by decide⟩ ⟨by omega, by omega⟩ dL_debt_4 (fun h0 T' I' hp => ?_) (fun h0 T' I' q hp => ?_)
  · obtain ⟨i, rfl⟩ := hv h0
    subst h0
    refine r_i2l (pc := 7) C dL_debt_7 ?_
    refine r_jast (pc := 8) C dL_debt_8 (fun f' hf => ?_)
    refine r_goto (pc := 9) (tgt := 15) C dL_debt_9 rfl ?_
    refine r_iconst (pc := 15) (v := 0) C dL_debt_15 rfl ?_
    exact r_iret (pc := 16) C dL_debt_16 ⟨rfl, hp, f', rfl, fun _ => ⟨i, rfl, hf⟩⟩ ⟨by omega, by omega⟩
  · obtain rfl : kx = 1 := by omega
    refine r_astore_n (pc := 12) (lo' := _) C dL_debt_12 rfl (by decide) rfl ?_
    refine r_iconst (pc := 13) (v := 1) C dL_debt_13 rfl ?_
    exact r_iret (pc := 14) C dL_debt_14 ⟨rfl, hp, f, rfl, fun z => absurd z (by decide)⟩ ⟨by omega, by omega⟩

set_option maxHeartbeats 1000000 in
theorem w_rate {g : GG} {a b x kx : Nat} {f : Nat → Int64} {h : Nat → UInt64} {T : TT} {I : II} {u0_ : Int32} {v : Value} {P : TT → II → Prop} (hcl : isCl T x) (hk : kx ≤ 1) (hv : kx = 0 → vOk (some .int) v) (hO : OpC g yX9_rate cX9_rate 2 (some .int) [.ref x, .int u0_] (XO g a f b h) T I kx v (exc (([1] : List Nat).getD (kx - 1) 0)) P) : McW g yL_rate cL_rate 4 (mkT 9 [1] [12]) 13 30 4200 [.ref x, .int u0_, .ref a] (XO g a f b h) T I (WI g a b h kx v P) := by
  obtain ⟨d, cm, cs, d1, d2, d3, hM⟩ := hO
  refine McW.of (by decide) (Nat.le_of_ble_eq_true rfl) (fun k hfl hnc htb C => ?_)
  refine r_lo (lo' := [(0, _), (1, _), (2, _)]) rfl ?_
  refine r_aload_n (pc := 0) C 2 dL_rate_0 rfl rfl ?_
  refine r_iconst (pc := 1) (v := 0) C dL_rate_1 rfl ?_
  refine r_aload_n (pc := 2) C 0 dL_rate_2 rfl rfl ?_
  refine r_iload_n (pc := 3) C 1 dL_rate_3 rfl rfl ?_
  refine r_xVc (pc := 4) (codes := [1]) (hs := [12]) (en := 9) (v := v) C hfl hnc htb rfl (by decide) (by decide) k_L_94 hM hk hcl.1 ca_X9 rfl rfl (Nat.le_of_ble_eq_true rfl) ⟨by omega, by decide⟩ ⟨by omega, by omega⟩ dL_rate_4 (fun h0 T' I' hp => ?_) (fun h0 T' I' q hp => ?_)
  · obtain ⟨i, rfl⟩ := hv h0
    subst h0
    refine r_i2l (pc := 7) C dL_rate_7 ?_
    refine r_jast (pc := 8) C dL_rate_8 (fun f' hf => ?_)
    refine r_goto (pc := 9) (tgt := 15) C dL_rate_9 rfl ?_
    refine r_iconst (pc := 15) (v := 0) C dL_rate_15 rfl ?_
    exact r_iret (pc := 16) C dL_rate_16 ⟨rfl, hp, f', rfl, fun _ => ⟨i, rfl, hf⟩⟩ ⟨by omega, by omega⟩
  · obtain rfl : kx = 1 := by omega
    refine r_astore_n (pc := 12) (lo' := _) C dL_rate_12 rfl (by decide) rfl ?_
    refine r_iconst (pc := 13) (v := 1) C dL_rate_13 rfl ?_
    exact r_iret (pc := 14) C dL_rate_14 ⟨rfl, hp, f, rfl, fun z => absurd z (by decide)⟩ ⟨by omega, by omega⟩

set_option maxHeartbeats 1000000 in
theorem w_dueDay {g : GG} {a b x kx : Nat} {f : Nat → Int64} {h : Nat → UInt64} {T : TT} {I : II} {u0_ : Int32} {v : Value} {P : TT → II → Prop} (hcl : isCl T x) (hk : kx ≤ 1) (hv : kx = 0 → vOk (some .int) v) (hO : OpC g yX9_dueDay cX9_dueDay 2 (some .int) [.ref x, .int u0_] (XO g a f b h) T I kx v (exc (([1] : List Nat).getD (kx - 1) 0)) P) : McW g yL_dueDay cL_dueDay 4 (mkT 9 [1] [12]) 13 30 4200 [.ref x, .int u0_, .ref a] (XO g a f b h) T I (WI g a b h kx v P) := by
  obtain ⟨d, cm, cs, d1, d2, d3, hM⟩ := hO
  refine McW.of (by decide) (Nat.le_of_ble_eq_true rfl) (fun k hfl hnc htb C => ?_)
  refine r_lo (lo' := [(0, _), (1, _), (2, _)]) rfl ?_
  refine r_aload_n (pc := 0) C 2 dL_dueDay_0 rfl rfl ?_
  refine r_iconst (pc := 1) (v := 0) C dL_dueDay_1 rfl ?_
  refine r_aload_n (pc := 2) C 0 dL_dueDay_2 rfl rfl ?_
  refine r_iload_n (pc := 3) C 1 dL_dueDay_3 rfl rfl ?_
  refine r_xVc (pc := 4) (codes := [1]) (hs := [12]) (en := 9) (v := v) C hfl hnc htb rfl (by decide) (by decide) k_L_97 hM hk hcl.1 ca_X9 rfl rfl (Nat.le_of_ble_eq_true rfl) ⟨by omega, by decide⟩ ⟨by omega, by omega⟩ dL_dueDay_4 (fun h0 T' I' hp => ?_) (fun h0 T' I' q hp => ?_)
  · obtain ⟨i, rfl⟩ := hv h0
    subst h0
    refine r_i2l (pc := 7) C dL_dueDay_7 ?_
    refine r_jast (pc := 8) C dL_dueDay_8 (fun f' hf => ?_)
    refine r_goto (pc := 9) (tgt := 15) C dL_dueDay_9 rfl ?_
    refine r_iconst (pc := 15) (v := 0) C dL_dueDay_15 rfl ?_
    exact r_iret (pc := 16) C dL_dueDay_16 ⟨rfl, hp, f', rfl, fun _ => ⟨i, rfl, hf⟩⟩ ⟨by omega, by omega⟩
  · obtain rfl : kx = 1 := by omega
    refine r_astore_n (pc := 12) (lo' := _) C dL_dueDay_12 rfl (by decide) rfl ?_
    refine r_iconst (pc := 13) (v := 1) C dL_dueDay_13 rfl ?_
    exact r_iret (pc := 14) C dL_dueDay_14 ⟨rfl, hp, f, rfl, fun z => absurd z (by decide)⟩ ⟨by omega, by omega⟩

set_option maxHeartbeats 1000000 in
theorem w_collateral {g : GG} {a b x kx : Nat} {f : Nat → Int64} {h : Nat → UInt64} {T : TT} {I : II} {u0_ u1_ : Int32} {v : Value} {P : TT → II → Prop} (hcl : isCl T x) (hk : kx ≤ 2) (hv : kx = 0 → vOk (some .int) v) (hO : OpC g yX9_collateral cX9_collateral 4 (some .int) [.ref x, .int u0_, .int u1_] (XO g a f b h) T I kx v (exc (([1, 2] : List Nat).getD (kx - 1) 0)) P) : McW g yL_collateral cL_collateral 5 (mkT 10 [1, 2] [13, 17]) 13 30 4200 [.ref x, .int u0_, .int u1_, .ref a] (XO g a f b h) T I (WI g a b h kx v P) := by
  obtain ⟨d, cm, cs, d1, d2, d3, hM⟩ := hO
  refine McW.of (by decide) (Nat.le_of_ble_eq_true rfl) (fun k hfl hnc htb C => ?_)
  refine r_lo (lo' := [(0, _), (1, _), (2, _), (3, _)]) rfl ?_
  refine r_aload_n (pc := 0) C 3 dL_collateral_0 rfl rfl ?_
  refine r_iconst (pc := 1) (v := 0) C dL_collateral_1 rfl ?_
  refine r_aload_n (pc := 2) C 0 dL_collateral_2 rfl rfl ?_
  refine r_iload_n (pc := 3) C 1 dL_collateral_3 rfl rfl ?_
  refine r_iload_n (pc := 4) C 2 dL_collateral_4 rfl rfl ?_
  refine r_xVc (pc := 5) (codes := [1, 2]) (hs := [13, 17]) (en := 10) (v := v) C hfl hnc htb rfl (by decide) (by decide) k_L_100 hM hk hcl.1 ca_X9 rfl rfl (Nat.le_of_ble_eq_true rfl) ⟨by omega, by decide⟩ ⟨by omega, by omega⟩ dL_collateral_5 (fun h0 T' I' hp => ?_) (fun h0 T' I' q hp => ?_)
  · obtain ⟨i, rfl⟩ := hv h0
    subst h0
    refine r_i2l (pc := 8) C dL_collateral_8 ?_
    refine r_jast (pc := 9) C dL_collateral_9 (fun f' hf => ?_)
    refine r_goto (pc := 10) (tgt := 21) C dL_collateral_10 rfl ?_
    refine r_iconst (pc := 21) (v := 0) C dL_collateral_21 rfl ?_
    exact r_iret (pc := 22) C dL_collateral_22 ⟨rfl, hp, f', rfl, fun _ => ⟨i, rfl, hf⟩⟩ ⟨by omega, by omega⟩
  · obtain rfl | rfl : kx = 1 ∨ kx = 2 := by omega
    · refine r_astore (pc := 13) (lo' := _) C dL_collateral_13 (by decide) rfl ?_
      refine r_iconst (pc := 15) (v := 1) C dL_collateral_15 rfl ?_
      exact r_iret (pc := 16) C dL_collateral_16 ⟨rfl, hp, f, rfl, fun z => absurd z (by decide)⟩ ⟨by omega, by omega⟩
    · refine r_astore (pc := 17) (lo' := _) C dL_collateral_17 (by decide) rfl ?_
      refine r_iconst (pc := 19) (v := 2) C dL_collateral_19 rfl ?_
      exact r_iret (pc := 20) C dL_collateral_20 ⟨rfl, hp, f, rfl, fun z => absurd z (by decide)⟩ ⟨by omega, by omega⟩

set_option maxHeartbeats 1000000 in
theorem w_collateralValue {g : GG} {a b x kx : Nat} {f : Nat → Int64} {h : Nat → UInt64} {T : TT} {I : II} {u0_ : Int32} {v : Value} {P : TT → II → Prop} (hcl : isCl T x) (hk : kx ≤ 1) (hv : kx = 0 → vOk (some .int) v) (hO : OpC g yX9_collateralValue cX9_collateralValue 2 (some .int) [.ref x, .int u0_] (XO g a f b h) T I kx v (exc (([1] : List Nat).getD (kx - 1) 0)) P) : McW g yL_collateralValue cL_collateralValue 4 (mkT 9 [1] [12]) 13 30 4200 [.ref x, .int u0_, .ref a] (XO g a f b h) T I (WI g a b h kx v P) := by
  obtain ⟨d, cm, cs, d1, d2, d3, hM⟩ := hO
  refine McW.of (by decide) (Nat.le_of_ble_eq_true rfl) (fun k hfl hnc htb C => ?_)
  refine r_lo (lo' := [(0, _), (1, _), (2, _)]) rfl ?_
  refine r_aload_n (pc := 0) C 2 dL_collateralValue_0 rfl rfl ?_
  refine r_iconst (pc := 1) (v := 0) C dL_collateralValue_1 rfl ?_
  refine r_aload_n (pc := 2) C 0 dL_collateralValue_2 rfl rfl ?_
  refine r_iload_n (pc := 3) C 1 dL_collateralValue_3 rfl rfl ?_
  refine r_xVc (pc := 4) (codes := [1]) (hs := [12]) (en := 9) (v := v) C hfl hnc htb rfl (by decide) (by decide) k_L_103 hM hk hcl.1 ca_X9 rfl rfl (Nat.le_of_ble_eq_true rfl) ⟨by omega, by decide⟩ ⟨by omega, by omega⟩ dL_collateralValue_4 (fun h0 T' I' hp => ?_) (fun h0 T' I' q hp => ?_)
  · obtain ⟨i, rfl⟩ := hv h0
    subst h0
    refine r_i2l (pc := 7) C dL_collateralValue_7 ?_
    refine r_jast (pc := 8) C dL_collateralValue_8 (fun f' hf => ?_)
    refine r_goto (pc := 9) (tgt := 15) C dL_collateralValue_9 rfl ?_
    refine r_iconst (pc := 15) (v := 0) C dL_collateralValue_15 rfl ?_
    exact r_iret (pc := 16) C dL_collateralValue_16 ⟨rfl, hp, f', rfl, fun _ => ⟨i, rfl, hf⟩⟩ ⟨by omega, by omega⟩
  · obtain rfl : kx = 1 := by omega
    refine r_astore_n (pc := 12) (lo' := _) C dL_collateralValue_12 rfl (by decide) rfl ?_
    refine r_iconst (pc := 13) (v := 1) C dL_collateralValue_13 rfl ?_
    exact r_iret (pc := 14) C dL_collateralValue_14 ⟨rfl, hp, f, rfl, fun z => absurd z (by decide)⟩ ⟨by omega, by omega⟩

set_option maxHeartbeats 1000000 in
theorem w_isCovered {g : GG} {a b x kx : Nat} {f : Nat → Int64} {h : Nat → UInt64} {T : TT} {I : II} {u0_ : Int32} {v : Value} {P : TT → II → Prop} (hcl : isCl T x) (hk : kx ≤ 1) (hv : kx = 0 → vOk (some .boolean) v) (hO : OpC g yX9_isCovered cX9_isCovered 3 (some .boolean) [.ref x, .int u0_] (XO g a f b h) T I kx v (exc (([1] : List Nat).getD (kx - 1) 0)) P) : McW g yL_isCovered cL_isCovered 4 (mkT 16 [1] [19]) 13 30 4200 [.ref x, .int u0_, .ref a] (XO g a f b h) T I (WB g a b h kx v P) := by
  obtain ⟨d, cm, cs, d1, d2, d3, hM⟩ := hO
  refine McW.of (by decide) (Nat.le_of_ble_eq_true rfl) (fun k hfl hnc htb C => ?_)
  refine r_lo (lo' := [(0, _), (1, _), (2, _)]) rfl ?_
  refine r_aload_n (pc := 0) C 2 dL_isCovered_0 rfl rfl ?_
  refine r_iconst (pc := 1) (v := 0) C dL_isCovered_1 rfl ?_
  refine r_aload_n (pc := 2) C 0 dL_isCovered_2 rfl rfl ?_
  refine r_iload_n (pc := 3) C 1 dL_isCovered_3 rfl rfl ?_
  refine r_xVc (pc := 4) (codes := [1]) (hs := [19]) (en := 16) (v := v) C hfl hnc htb rfl (by decide) (by decide) k_L_106 hM hk hcl.1 ca_X9 rfl rfl (Nat.le_of_ble_eq_true rfl) ⟨by omega, by decide⟩ ⟨by omega, by omega⟩ dL_isCovered_4 (fun h0 T' I' hp => ?_) (fun h0 T' I' q hp => ?_)
  · obtain ⟨i, rfl⟩ := hv h0
    subst h0
    refine r_ifeq (pc := 7) (tgt := 14) C dL_isCovered_7 rfl (fun c0 => ?_) (fun c0 => ?_)
    · refine r_lconst (pc := 14) (v := 0) C dL_isCovered_14 rfl ?_
      refine r_jast (pc := 15) C dL_isCovered_15 (fun f' hf => ?_)
      refine r_goto (pc := 16) (tgt := 22) C dL_isCovered_16 rfl ?_
      refine r_iconst (pc := 22) (v := 0) C dL_isCovered_22 rfl ?_
      exact r_iret (pc := 23) C dL_isCovered_23 ⟨rfl, hp, f', rfl, fun _ => ⟨i, rfl, by rw [if_pos c0]; exact hf⟩⟩ ⟨by omega, by omega⟩
    · refine r_lconst (pc := 10) (v := 1) C dL_isCovered_10 rfl ?_
      refine r_goto (pc := 11) (tgt := 15) C dL_isCovered_11 rfl ?_
      refine r_jast (pc := 15) C dL_isCovered_15 (fun f' hf => ?_)
      refine r_goto (pc := 16) (tgt := 22) C dL_isCovered_16 rfl ?_
      refine r_iconst (pc := 22) (v := 0) C dL_isCovered_22 rfl ?_
      exact r_iret (pc := 23) C dL_isCovered_23 ⟨rfl, hp, f', rfl, fun _ => ⟨i, rfl, by rw [if_neg c0]; exact hf⟩⟩ ⟨by omega, by omega⟩
  · obtain rfl : kx = 1 := by omega
    refine r_astore_n (pc := 19) (lo' := _) C dL_isCovered_19 rfl (by decide) rfl ?_
    refine r_iconst (pc := 20) (v := 1) C dL_isCovered_20 rfl ?_
    exact r_iret (pc := 21) C dL_isCovered_21 ⟨rfl, hp, f, rfl, fun z => absurd z (by decide)⟩ ⟨by omega, by omega⟩

set_option maxHeartbeats 1000000 in
theorem w_missingUnits {g : GG} {a b x kx : Nat} {f : Nat → Int64} {h : Nat → UInt64} {T : TT} {I : II} {u0_ u1_ : Int32} {v : Value} {P : TT → II → Prop} (hcl : isCl T x) (hk : kx ≤ 2) (hv : kx = 0 → vOk (some .int) v) (hO : OpC g yX9_missingUnits cX9_missingUnits 5 (some .int) [.ref x, .int u0_, .int u1_] (XO g a f b h) T I kx v (exc (([1, 2] : List Nat).getD (kx - 1) 0)) P) : McW g yL_missingUnits cL_missingUnits 5 (mkT 10 [1, 2] [13, 17]) 13 30 4200 [.ref x, .int u0_, .int u1_, .ref a] (XO g a f b h) T I (WI g a b h kx v P) := by
  obtain ⟨d, cm, cs, d1, d2, d3, hM⟩ := hO
  refine McW.of (by decide) (Nat.le_of_ble_eq_true rfl) (fun k hfl hnc htb C => ?_)
  refine r_lo (lo' := [(0, _), (1, _), (2, _), (3, _)]) rfl ?_
  refine r_aload_n (pc := 0) C 3 dL_missingUnits_0 rfl rfl ?_
  refine r_iconst (pc := 1) (v := 0) C dL_missingUnits_1 rfl ?_
  refine r_aload_n (pc := 2) C 0 dL_missingUnits_2 rfl rfl ?_
  refine r_iload_n (pc := 3) C 1 dL_missingUnits_3 rfl rfl ?_
  refine r_iload_n (pc := 4) C 2 dL_missingUnits_4 rfl rfl ?_
  refine r_xVc (pc := 5) (codes := [1, 2]) (hs := [13, 17]) (en := 10) (v := v) C hfl hnc htb rfl (by decide) (by decide) k_L_109 hM hk hcl.1 ca_X9 rfl rfl (Nat.le_of_ble_eq_true rfl) ⟨by omega, by decide⟩ ⟨by omega, by omega⟩ dL_missingUnits_5 (fun h0 T' I' hp => ?_) (fun h0 T' I' q hp => ?_)
  · obtain ⟨i, rfl⟩ := hv h0
    subst h0
    refine r_i2l (pc := 8) C dL_missingUnits_8 ?_
    refine r_jast (pc := 9) C dL_missingUnits_9 (fun f' hf => ?_)
    refine r_goto (pc := 10) (tgt := 21) C dL_missingUnits_10 rfl ?_
    refine r_iconst (pc := 21) (v := 0) C dL_missingUnits_21 rfl ?_
    exact r_iret (pc := 22) C dL_missingUnits_22 ⟨rfl, hp, f', rfl, fun _ => ⟨i, rfl, hf⟩⟩ ⟨by omega, by omega⟩
  · obtain rfl | rfl : kx = 1 ∨ kx = 2 := by omega
    · refine r_astore (pc := 13) (lo' := _) C dL_missingUnits_13 (by decide) rfl ?_
      refine r_iconst (pc := 15) (v := 1) C dL_missingUnits_15 rfl ?_
      exact r_iret (pc := 16) C dL_missingUnits_16 ⟨rfl, hp, f, rfl, fun z => absurd z (by decide)⟩ ⟨by omega, by omega⟩
    · refine r_astore (pc := 17) (lo' := _) C dL_missingUnits_17 (by decide) rfl ?_
      refine r_iconst (pc := 19) (v := 2) C dL_missingUnits_19 rfl ?_
      exact r_iret (pc := 20) C dL_missingUnits_20 ⟨rfl, hp, f, rfl, fun z => absurd z (by decide)⟩ ⟨by omega, by omega⟩

set_option maxHeartbeats 1000000 in
theorem w_daysToDefault {g : GG} {a b x kx : Nat} {f : Nat → Int64} {h : Nat → UInt64} {T : TT} {I : II} {u0_ : Int32} {v : Value} {P : TT → II → Prop} (hcl : isCl T x) (hk : kx ≤ 1) (hv : kx = 0 → vOk (some .int) v) (hO : OpC g yX9_daysToDefault cX9_daysToDefault 2 (some .int) [.ref x, .int u0_] (XO g a f b h) T I kx v (exc (([1] : List Nat).getD (kx - 1) 0)) P) : McW g yL_daysToDefault cL_daysToDefault 4 (mkT 9 [1] [12]) 13 30 4200 [.ref x, .int u0_, .ref a] (XO g a f b h) T I (WI g a b h kx v P) := by
  obtain ⟨d, cm, cs, d1, d2, d3, hM⟩ := hO
  refine McW.of (by decide) (Nat.le_of_ble_eq_true rfl) (fun k hfl hnc htb C => ?_)
  refine r_lo (lo' := [(0, _), (1, _), (2, _)]) rfl ?_
  refine r_aload_n (pc := 0) C 2 dL_daysToDefault_0 rfl rfl ?_
  refine r_iconst (pc := 1) (v := 0) C dL_daysToDefault_1 rfl ?_
  refine r_aload_n (pc := 2) C 0 dL_daysToDefault_2 rfl rfl ?_
  refine r_iload_n (pc := 3) C 1 dL_daysToDefault_3 rfl rfl ?_
  refine r_xVc (pc := 4) (codes := [1]) (hs := [12]) (en := 9) (v := v) C hfl hnc htb rfl (by decide) (by decide) k_L_112 hM hk hcl.1 ca_X9 rfl rfl (Nat.le_of_ble_eq_true rfl) ⟨by omega, by decide⟩ ⟨by omega, by omega⟩ dL_daysToDefault_4 (fun h0 T' I' hp => ?_) (fun h0 T' I' q hp => ?_)
  · obtain ⟨i, rfl⟩ := hv h0
    subst h0
    refine r_i2l (pc := 7) C dL_daysToDefault_7 ?_
    refine r_jast (pc := 8) C dL_daysToDefault_8 (fun f' hf => ?_)
    refine r_goto (pc := 9) (tgt := 15) C dL_daysToDefault_9 rfl ?_
    refine r_iconst (pc := 15) (v := 0) C dL_daysToDefault_15 rfl ?_
    exact r_iret (pc := 16) C dL_daysToDefault_16 ⟨rfl, hp, f', rfl, fun _ => ⟨i, rfl, hf⟩⟩ ⟨by omega, by omega⟩
  · obtain rfl : kx = 1 := by omega
    refine r_astore_n (pc := 12) (lo' := _) C dL_daysToDefault_12 rfl (by decide) rfl ?_
    refine r_iconst (pc := 13) (v := 1) C dL_daysToDefault_13 rfl ?_
    exact r_iret (pc := 14) C dL_daysToDefault_14 ⟨rfl, hp, f, rfl, fun z => absurd z (by decide)⟩ ⟨by omega, by omega⟩

set_option maxHeartbeats 1000000 in
theorem w_daysToDefaultByDays {g : GG} {a b x kx : Nat} {f : Nat → Int64} {h : Nat → UInt64} {T : TT} {I : II} {u0_ : Int32} {v : Value} {P : TT → II → Prop} (hcl : isCl T x) (hk : kx ≤ 1) (hv : kx = 0 → vOk (some .int) v) (hO : OpC g yX9_daysToDefaultByDays cX9_daysToDefaultByDays 2 (some .int) [.ref x, .int u0_] (XO g a f b h) T I kx v (exc (([1] : List Nat).getD (kx - 1) 0)) P) : McW g yL_daysToDefaultByDays cL_daysToDefaultByDays 4 (mkT 9 [1] [12]) 13 30 4200 [.ref x, .int u0_, .ref a] (XO g a f b h) T I (WI g a b h kx v P) := by
  obtain ⟨d, cm, cs, d1, d2, d3, hM⟩ := hO
  refine McW.of (by decide) (Nat.le_of_ble_eq_true rfl) (fun k hfl hnc htb C => ?_)
  refine r_lo (lo' := [(0, _), (1, _), (2, _)]) rfl ?_
  refine r_aload_n (pc := 0) C 2 dL_daysToDefaultByDays_0 rfl rfl ?_
  refine r_iconst (pc := 1) (v := 0) C dL_daysToDefaultByDays_1 rfl ?_
  refine r_aload_n (pc := 2) C 0 dL_daysToDefaultByDays_2 rfl rfl ?_
  refine r_iload_n (pc := 3) C 1 dL_daysToDefaultByDays_3 rfl rfl ?_
  refine r_xVc (pc := 4) (codes := [1]) (hs := [12]) (en := 9) (v := v) C hfl hnc htb rfl (by decide) (by decide) k_L_115 hM hk hcl.1 ca_X9 rfl rfl (Nat.le_of_ble_eq_true rfl) ⟨by omega, by decide⟩ ⟨by omega, by omega⟩ dL_daysToDefaultByDays_4 (fun h0 T' I' hp => ?_) (fun h0 T' I' q hp => ?_)
  · obtain ⟨i, rfl⟩ := hv h0
    subst h0
    refine r_i2l (pc := 7) C dL_daysToDefaultByDays_7 ?_
    refine r_jast (pc := 8) C dL_daysToDefaultByDays_8 (fun f' hf => ?_)
    refine r_goto (pc := 9) (tgt := 15) C dL_daysToDefaultByDays_9 rfl ?_
    refine r_iconst (pc := 15) (v := 0) C dL_daysToDefaultByDays_15 rfl ?_
    exact r_iret (pc := 16) C dL_daysToDefaultByDays_16 ⟨rfl, hp, f', rfl, fun _ => ⟨i, rfl, hf⟩⟩ ⟨by omega, by omega⟩
  · obtain rfl : kx = 1 := by omega
    refine r_astore_n (pc := 12) (lo' := _) C dL_daysToDefaultByDays_12 rfl (by decide) rfl ?_
    refine r_iconst (pc := 13) (v := 1) C dL_daysToDefaultByDays_13 rfl ?_
    exact r_iret (pc := 14) C dL_daysToDefaultByDays_14 ⟨rfl, hp, f, rfl, fun z => absurd z (by decide)⟩ ⟨by omega, by omega⟩

set_option maxHeartbeats 1000000 in
theorem w_interestAfter {g : GG} {a b x kx : Nat} {f : Nat → Int64} {h : Nat → UInt64} {T : TT} {I : II} {u0_ u1_ : Int32} {v : Value} {P : TT → II → Prop} (hcl : isCl T x) (hk : kx ≤ 2) (hv : kx = 0 → vOk (some .int) v) (hO : OpC g yX9_interestAfter cX9_interestAfter 4 (some .int) [.ref x, .int u0_, .int u1_] (XO g a f b h) T I kx v (exc (([1, 3] : List Nat).getD (kx - 1) 0)) P) : McW g yL_interestAfter cL_interestAfter 5 (mkT 10 [1, 3] [13, 17]) 13 30 4200 [.ref x, .int u0_, .int u1_, .ref a] (XO g a f b h) T I (WI g a b h kx v P) := by
  obtain ⟨d, cm, cs, d1, d2, d3, hM⟩ := hO
  refine McW.of (by decide) (Nat.le_of_ble_eq_true rfl) (fun k hfl hnc htb C => ?_)
  refine r_lo (lo' := [(0, _), (1, _), (2, _), (3, _)]) rfl ?_
  refine r_aload_n (pc := 0) C 3 dL_interestAfter_0 rfl rfl ?_
  refine r_iconst (pc := 1) (v := 0) C dL_interestAfter_1 rfl ?_
  refine r_aload_n (pc := 2) C 0 dL_interestAfter_2 rfl rfl ?_
  refine r_iload_n (pc := 3) C 1 dL_interestAfter_3 rfl rfl ?_
  refine r_iload_n (pc := 4) C 2 dL_interestAfter_4 rfl rfl ?_
  refine r_xVc (pc := 5) (codes := [1, 3]) (hs := [13, 17]) (en := 10) (v := v) C hfl hnc htb rfl (by decide) (by decide) k_L_118 hM hk hcl.1 ca_X9 rfl rfl (Nat.le_of_ble_eq_true rfl) ⟨by omega, by decide⟩ ⟨by omega, by omega⟩ dL_interestAfter_5 (fun h0 T' I' hp => ?_) (fun h0 T' I' q hp => ?_)
  · obtain ⟨i, rfl⟩ := hv h0
    subst h0
    refine r_i2l (pc := 8) C dL_interestAfter_8 ?_
    refine r_jast (pc := 9) C dL_interestAfter_9 (fun f' hf => ?_)
    refine r_goto (pc := 10) (tgt := 21) C dL_interestAfter_10 rfl ?_
    refine r_iconst (pc := 21) (v := 0) C dL_interestAfter_21 rfl ?_
    exact r_iret (pc := 22) C dL_interestAfter_22 ⟨rfl, hp, f', rfl, fun _ => ⟨i, rfl, hf⟩⟩ ⟨by omega, by omega⟩
  · obtain rfl | rfl : kx = 1 ∨ kx = 2 := by omega
    · refine r_astore (pc := 13) (lo' := _) C dL_interestAfter_13 (by decide) rfl ?_
      refine r_iconst (pc := 15) (v := 1) C dL_interestAfter_15 rfl ?_
      exact r_iret (pc := 16) C dL_interestAfter_16 ⟨rfl, hp, f, rfl, fun z => absurd z (by decide)⟩ ⟨by omega, by omega⟩
    · refine r_astore (pc := 17) (lo' := _) C dL_interestAfter_17 (by decide) rfl ?_
      refine r_iconst (pc := 19) (v := 2) C dL_interestAfter_19 rfl ?_
      exact r_iret (pc := 20) C dL_interestAfter_20 ⟨rfl, hp, f, rfl, fun z => absurd z (by decide)⟩ ⟨by omega, by omega⟩

set_option maxHeartbeats 1000000 in
theorem w_greatestPrincipal {g : GG} {a b x kx : Nat} {f : Nat → Int64} {h : Nat → UInt64} {T : TT} {I : II} {u0_ u1_ u2_ : Int32} {v : Value} {P : TT → II → Prop} (hcl : isCl T x) (hk : kx ≤ 3) (hv : kx = 0 → vOk (some .int) v) (hO : OpC g yX9_greatestPrincipal cX9_greatestPrincipal 7 (some .int) [.ref x, .int u0_, .int u1_, .int u2_] (XO g a f b h) T I kx v (exc (([2, 3, 1] : List Nat).getD (kx - 1) 0)) P) : McW g yL_greatestPrincipal cL_greatestPrincipal 6 (mkT 12 [2, 3, 1] [15, 19, 23]) 13 30 4200 [.ref x, .int u0_, .int u1_, .int u2_, .ref a] (XO g a f b h) T I (WI g a b h kx v P) := by
  obtain ⟨d, cm, cs, d1, d2, d3, hM⟩ := hO
  refine McW.of (by decide) (Nat.le_of_ble_eq_true rfl) (fun k hfl hnc htb C => ?_)
  refine r_lo (lo' := [(0, _), (1, _), (2, _), (3, _), (4, _)]) rfl ?_
  refine r_aload (pc := 0) C 4 dL_greatestPrincipal_0 rfl ?_
  refine r_iconst (pc := 2) (v := 0) C dL_greatestPrincipal_2 rfl ?_
  refine r_aload_n (pc := 3) C 0 dL_greatestPrincipal_3 rfl rfl ?_
  refine r_iload_n (pc := 4) C 1 dL_greatestPrincipal_4 rfl rfl ?_
  refine r_iload_n (pc := 5) C 2 dL_greatestPrincipal_5 rfl rfl ?_
  refine r_iload_n (pc := 6) C 3 dL_greatestPrincipal_6 rfl rfl ?_
  refine r_xVc (pc := 7) (codes := [2, 3, 1]) (hs := [15, 19, 23]) (en := 12) (v := v) C hfl hnc htb rfl (by decide) (by decide) k_L_121 hM hk hcl.1 ca_X9 rfl rfl (Nat.le_of_ble_eq_true rfl) ⟨by omega, by decide⟩ ⟨by omega, by omega⟩ dL_greatestPrincipal_7 (fun h0 T' I' hp => ?_) (fun h0 T' I' q hp => ?_)
  · obtain ⟨i, rfl⟩ := hv h0
    subst h0
    refine r_i2l (pc := 10) C dL_greatestPrincipal_10 ?_
    refine r_jast (pc := 11) C dL_greatestPrincipal_11 (fun f' hf => ?_)
    refine r_goto (pc := 12) (tgt := 27) C dL_greatestPrincipal_12 rfl ?_
    refine r_iconst (pc := 27) (v := 0) C dL_greatestPrincipal_27 rfl ?_
    exact r_iret (pc := 28) C dL_greatestPrincipal_28 ⟨rfl, hp, f', rfl, fun _ => ⟨i, rfl, hf⟩⟩ ⟨by omega, by omega⟩
  · obtain rfl | rfl | rfl : kx = 1 ∨ kx = 2 ∨ kx = 3 := by omega
    · refine r_astore (pc := 15) (lo' := _) C dL_greatestPrincipal_15 (by decide) rfl ?_
      refine r_iconst (pc := 17) (v := 1) C dL_greatestPrincipal_17 rfl ?_
      exact r_iret (pc := 18) C dL_greatestPrincipal_18 ⟨rfl, hp, f, rfl, fun z => absurd z (by decide)⟩ ⟨by omega, by omega⟩
    · refine r_astore (pc := 19) (lo' := _) C dL_greatestPrincipal_19 (by decide) rfl ?_
      refine r_iconst (pc := 21) (v := 2) C dL_greatestPrincipal_21 rfl ?_
      exact r_iret (pc := 22) C dL_greatestPrincipal_22 ⟨rfl, hp, f, rfl, fun z => absurd z (by decide)⟩ ⟨by omega, by omega⟩
    · refine r_astore (pc := 23) (lo' := _) C dL_greatestPrincipal_23 (by decide) rfl ?_
      refine r_iconst (pc := 25) (v := 3) C dL_greatestPrincipal_25 rfl ?_
      exact r_iret (pc := 26) C dL_greatestPrincipal_26 ⟨rfl, hp, f, rfl, fun z => absurd z (by decide)⟩ ⟨by omega, by omega⟩

set_option maxHeartbeats 1000000 in
theorem w_riskiest {g : GG} {a b x kx : Nat} {f : Nat → Int64} {h : Nat → UInt64} {T : TT} {I : II} {v : Value} {P : TT → II → Prop} (hcl : isCl T x) (hk : kx ≤ 1) (hv : kx = 0 → vOk (some .int) v) (hO : OpC g yX9_riskiest cX9_riskiest 2 (some .int) [.ref x] (XO g a f b h) T I kx v (exc (([1] : List Nat).getD (kx - 1) 0)) P) : McW g yL_riskiest cL_riskiest 3 (mkT 8 [1] [11]) 13 30 4200 [.ref x, .ref a] (XO g a f b h) T I (WI g a b h kx v P) := by
  obtain ⟨d, cm, cs, d1, d2, d3, hM⟩ := hO
  refine McW.of (by decide) (Nat.le_of_ble_eq_true rfl) (fun k hfl hnc htb C => ?_)
  refine r_lo (lo' := [(0, _), (1, _)]) rfl ?_
  refine r_aload_n (pc := 0) C 1 dL_riskiest_0 rfl rfl ?_
  refine r_iconst (pc := 1) (v := 0) C dL_riskiest_1 rfl ?_
  refine r_aload_n (pc := 2) C 0 dL_riskiest_2 rfl rfl ?_
  refine r_xVc (pc := 3) (codes := [1]) (hs := [11]) (en := 8) (v := v) C hfl hnc htb rfl (by decide) (by decide) k_L_124 hM hk hcl.1 ca_X9 rfl rfl (Nat.le_of_ble_eq_true rfl) ⟨by omega, by decide⟩ ⟨by omega, by omega⟩ dL_riskiest_3 (fun h0 T' I' hp => ?_) (fun h0 T' I' q hp => ?_)
  · obtain ⟨i, rfl⟩ := hv h0
    subst h0
    refine r_i2l (pc := 6) C dL_riskiest_6 ?_
    refine r_jast (pc := 7) C dL_riskiest_7 (fun f' hf => ?_)
    refine r_goto (pc := 8) (tgt := 14) C dL_riskiest_8 rfl ?_
    refine r_iconst (pc := 14) (v := 0) C dL_riskiest_14 rfl ?_
    exact r_iret (pc := 15) C dL_riskiest_15 ⟨rfl, hp, f', rfl, fun _ => ⟨i, rfl, hf⟩⟩ ⟨by omega, by omega⟩
  · obtain rfl : kx = 1 := by omega
    refine r_astore_n (pc := 11) (lo' := _) C dL_riskiest_11 rfl (by decide) rfl ?_
    refine r_iconst (pc := 12) (v := 1) C dL_riskiest_12 rfl ?_
    exact r_iret (pc := 13) C dL_riskiest_13 ⟨rfl, hp, f, rfl, fun z => absurd z (by decide)⟩ ⟨by omega, by omega⟩

set_option maxHeartbeats 1000000 in
theorem w_loanByDebt {g : GG} {a b x kx : Nat} {f : Nat → Int64} {h : Nat → UInt64} {T : TT} {I : II} {u0_ : Int32} {v : Value} {P : TT → II → Prop} (hcl : isCl T x) (hk : kx ≤ 1) (hv : kx = 0 → vOk (some .int) v) (hO : OpC g yX9_loanByDebt cX9_loanByDebt 3 (some .int) [.ref x, .int u0_] (XO g a f b h) T I kx v (exc (([1] : List Nat).getD (kx - 1) 0)) P) : McW g yL_loanByDebt cL_loanByDebt 4 (mkT 9 [1] [12]) 13 30 4200 [.ref x, .int u0_, .ref a] (XO g a f b h) T I (WI g a b h kx v P) := by
  obtain ⟨d, cm, cs, d1, d2, d3, hM⟩ := hO
  refine McW.of (by decide) (Nat.le_of_ble_eq_true rfl) (fun k hfl hnc htb C => ?_)
  refine r_lo (lo' := [(0, _), (1, _), (2, _)]) rfl ?_
  refine r_aload_n (pc := 0) C 2 dL_loanByDebt_0 rfl rfl ?_
  refine r_iconst (pc := 1) (v := 0) C dL_loanByDebt_1 rfl ?_
  refine r_aload_n (pc := 2) C 0 dL_loanByDebt_2 rfl rfl ?_
  refine r_iload_n (pc := 3) C 1 dL_loanByDebt_3 rfl rfl ?_
  refine r_xVc (pc := 4) (codes := [1]) (hs := [12]) (en := 9) (v := v) C hfl hnc htb rfl (by decide) (by decide) k_L_128 hM hk hcl.1 ca_X9 rfl rfl (Nat.le_of_ble_eq_true rfl) ⟨by omega, by decide⟩ ⟨by omega, by omega⟩ dL_loanByDebt_4 (fun h0 T' I' hp => ?_) (fun h0 T' I' q hp => ?_)
  · obtain ⟨i, rfl⟩ := hv h0
    subst h0
    refine r_i2l (pc := 7) C dL_loanByDebt_7 ?_
    refine r_jast (pc := 8) C dL_loanByDebt_8 (fun f' hf => ?_)
    refine r_goto (pc := 9) (tgt := 15) C dL_loanByDebt_9 rfl ?_
    refine r_iconst (pc := 15) (v := 0) C dL_loanByDebt_15 rfl ?_
    exact r_iret (pc := 16) C dL_loanByDebt_16 ⟨rfl, hp, f', rfl, fun _ => ⟨i, rfl, hf⟩⟩ ⟨by omega, by omega⟩
  · obtain rfl : kx = 1 := by omega
    refine r_astore_n (pc := 12) (lo' := _) C dL_loanByDebt_12 rfl (by decide) rfl ?_
    refine r_iconst (pc := 13) (v := 1) C dL_loanByDebt_13 rfl ?_
    exact r_iret (pc := 14) C dL_loanByDebt_14 ⟨rfl, hp, f, rfl, fun z => absurd z (by decide)⟩ ⟨by omega, by omega⟩

set_option maxHeartbeats 1000000 in
theorem w_ledgerAmount {g : GG} {a b x kx : Nat} {f : Nat → Int64} {h : Nat → UInt64} {T : TT} {I : II} {u0_ u1_ : Int32} {v : Value} {P : TT → II → Prop} (hcl : isCl T x) (hk : kx ≤ 1) (hv : kx = 0 → vOk (some .int) v) (hO : OpC g yX9_ledgerAmount cX9_ledgerAmount 4 (some .int) [.ref x, .int u0_, .int u1_] (XO g a f b h) T I kx v (exc (([1] : List Nat).getD (kx - 1) 0)) P) : McW g yL_ledgerAmount cL_ledgerAmount 5 (mkT 10 [1] [13]) 13 30 4200 [.ref x, .int u0_, .int u1_, .ref a] (XO g a f b h) T I (WI g a b h kx v P) := by
  obtain ⟨d, cm, cs, d1, d2, d3, hM⟩ := hO
  refine McW.of (by decide) (Nat.le_of_ble_eq_true rfl) (fun k hfl hnc htb C => ?_)
  refine r_lo (lo' := [(0, _), (1, _), (2, _), (3, _)]) rfl ?_
  refine r_aload_n (pc := 0) C 3 dL_ledgerAmount_0 rfl rfl ?_
  refine r_iconst (pc := 1) (v := 0) C dL_ledgerAmount_1 rfl ?_
  refine r_aload_n (pc := 2) C 0 dL_ledgerAmount_2 rfl rfl ?_
  refine r_iload_n (pc := 3) C 1 dL_ledgerAmount_3 rfl rfl ?_
  refine r_iload_n (pc := 4) C 2 dL_ledgerAmount_4 rfl rfl ?_
  refine r_xVc (pc := 5) (codes := [1]) (hs := [13]) (en := 10) (v := v) C hfl hnc htb rfl (by decide) (by decide) k_L_131 hM hk hcl.1 ca_X9 rfl rfl (Nat.le_of_ble_eq_true rfl) ⟨by omega, by decide⟩ ⟨by omega, by omega⟩ dL_ledgerAmount_5 (fun h0 T' I' hp => ?_) (fun h0 T' I' q hp => ?_)
  · obtain ⟨i, rfl⟩ := hv h0
    subst h0
    refine r_i2l (pc := 8) C dL_ledgerAmount_8 ?_
    refine r_jast (pc := 9) C dL_ledgerAmount_9 (fun f' hf => ?_)
    refine r_goto (pc := 10) (tgt := 17) C dL_ledgerAmount_10 rfl ?_
    refine r_iconst (pc := 17) (v := 0) C dL_ledgerAmount_17 rfl ?_
    exact r_iret (pc := 18) C dL_ledgerAmount_18 ⟨rfl, hp, f', rfl, fun _ => ⟨i, rfl, hf⟩⟩ ⟨by omega, by omega⟩
  · obtain rfl : kx = 1 := by omega
    refine r_astore (pc := 13) (lo' := _) C dL_ledgerAmount_13 (by decide) rfl ?_
    refine r_iconst (pc := 15) (v := 1) C dL_ledgerAmount_15 rfl ?_
    exact r_iret (pc := 16) C dL_ledgerAmount_16 ⟨rfl, hp, f, rfl, fun z => absurd z (by decide)⟩ ⟨by omega, by omega⟩

set_option maxHeartbeats 1000000 in
theorem w_ledgerDay {g : GG} {a b x kx : Nat} {f : Nat → Int64} {h : Nat → UInt64} {T : TT} {I : II} {u0_ : Int32} {v : Value} {P : TT → II → Prop} (hcl : isCl T x) (hk : kx ≤ 1) (hv : kx = 0 → vOk (some .int) v) (hO : OpC g yX9_ledgerDay cX9_ledgerDay 2 (some .int) [.ref x, .int u0_] (XO g a f b h) T I kx v (exc (([1] : List Nat).getD (kx - 1) 0)) P) : McW g yL_ledgerDay cL_ledgerDay 4 (mkT 9 [1] [12]) 13 30 4200 [.ref x, .int u0_, .ref a] (XO g a f b h) T I (WI g a b h kx v P) := by
  obtain ⟨d, cm, cs, d1, d2, d3, hM⟩ := hO
  refine McW.of (by decide) (Nat.le_of_ble_eq_true rfl) (fun k hfl hnc htb C => ?_)
  refine r_lo (lo' := [(0, _), (1, _), (2, _)]) rfl ?_
  refine r_aload_n (pc := 0) C 2 dL_ledgerDay_0 rfl rfl ?_
  refine r_iconst (pc := 1) (v := 0) C dL_ledgerDay_1 rfl ?_
  refine r_aload_n (pc := 2) C 0 dL_ledgerDay_2 rfl rfl ?_
  refine r_iload_n (pc := 3) C 1 dL_ledgerDay_3 rfl rfl ?_
  refine r_xVc (pc := 4) (codes := [1]) (hs := [12]) (en := 9) (v := v) C hfl hnc htb rfl (by decide) (by decide) k_L_134 hM hk hcl.1 ca_X9 rfl rfl (Nat.le_of_ble_eq_true rfl) ⟨by omega, by decide⟩ ⟨by omega, by omega⟩ dL_ledgerDay_4 (fun h0 T' I' hp => ?_) (fun h0 T' I' q hp => ?_)
  · obtain ⟨i, rfl⟩ := hv h0
    subst h0
    refine r_i2l (pc := 7) C dL_ledgerDay_7 ?_
    refine r_jast (pc := 8) C dL_ledgerDay_8 (fun f' hf => ?_)
    refine r_goto (pc := 9) (tgt := 15) C dL_ledgerDay_9 rfl ?_
    refine r_iconst (pc := 15) (v := 0) C dL_ledgerDay_15 rfl ?_
    exact r_iret (pc := 16) C dL_ledgerDay_16 ⟨rfl, hp, f', rfl, fun _ => ⟨i, rfl, hf⟩⟩ ⟨by omega, by omega⟩
  · obtain rfl : kx = 1 := by omega
    refine r_astore_n (pc := 12) (lo' := _) C dL_ledgerDay_12 rfl (by decide) rfl ?_
    refine r_iconst (pc := 13) (v := 1) C dL_ledgerDay_13 rfl ?_
    exact r_iret (pc := 14) C dL_ledgerDay_14 ⟨rfl, hp, f, rfl, fun z => absurd z (by decide)⟩ ⟨by omega, by omega⟩

set_option maxHeartbeats 1000000 in
theorem w_ledgerLoan {g : GG} {a b x kx : Nat} {f : Nat → Int64} {h : Nat → UInt64} {T : TT} {I : II} {u0_ : Int32} {v : Value} {P : TT → II → Prop} (hcl : isCl T x) (hk : kx ≤ 1) (hv : kx = 0 → vOk (some .int) v) (hO : OpC g yX9_ledgerLoan cX9_ledgerLoan 2 (some .int) [.ref x, .int u0_] (XO g a f b h) T I kx v (exc (([1] : List Nat).getD (kx - 1) 0)) P) : McW g yL_ledgerLoan cL_ledgerLoan 4 (mkT 9 [1] [12]) 13 30 4200 [.ref x, .int u0_, .ref a] (XO g a f b h) T I (WI g a b h kx v P) := by
  obtain ⟨d, cm, cs, d1, d2, d3, hM⟩ := hO
  refine McW.of (by decide) (Nat.le_of_ble_eq_true rfl) (fun k hfl hnc htb C => ?_)
  refine r_lo (lo' := [(0, _), (1, _), (2, _)]) rfl ?_
  refine r_aload_n (pc := 0) C 2 dL_ledgerLoan_0 rfl rfl ?_
  refine r_iconst (pc := 1) (v := 0) C dL_ledgerLoan_1 rfl ?_
  refine r_aload_n (pc := 2) C 0 dL_ledgerLoan_2 rfl rfl ?_
  refine r_iload_n (pc := 3) C 1 dL_ledgerLoan_3 rfl rfl ?_
  refine r_xVc (pc := 4) (codes := [1]) (hs := [12]) (en := 9) (v := v) C hfl hnc htb rfl (by decide) (by decide) k_L_137 hM hk hcl.1 ca_X9 rfl rfl (Nat.le_of_ble_eq_true rfl) ⟨by omega, by decide⟩ ⟨by omega, by omega⟩ dL_ledgerLoan_4 (fun h0 T' I' hp => ?_) (fun h0 T' I' q hp => ?_)
  · obtain ⟨i, rfl⟩ := hv h0
    subst h0
    refine r_i2l (pc := 7) C dL_ledgerLoan_7 ?_
    refine r_jast (pc := 8) C dL_ledgerLoan_8 (fun f' hf => ?_)
    refine r_goto (pc := 9) (tgt := 15) C dL_ledgerLoan_9 rfl ?_
    refine r_iconst (pc := 15) (v := 0) C dL_ledgerLoan_15 rfl ?_
    exact r_iret (pc := 16) C dL_ledgerLoan_16 ⟨rfl, hp, f', rfl, fun _ => ⟨i, rfl, hf⟩⟩ ⟨by omega, by omega⟩
  · obtain rfl : kx = 1 := by omega
    refine r_astore_n (pc := 12) (lo' := _) C dL_ledgerLoan_12 rfl (by decide) rfl ?_
    refine r_iconst (pc := 13) (v := 1) C dL_ledgerLoan_13 rfl ?_
    exact r_iret (pc := 14) C dL_ledgerLoan_14 ⟨rfl, hp, f, rfl, fun z => absurd z (by decide)⟩ ⟨by omega, by omega⟩

set_option maxHeartbeats 1000000 in
theorem w_totalUnits {g : GG} {a b x kx : Nat} {f : Nat → Int64} {h : Nat → UInt64} {T : TT} {I : II} {u0_ : Int32} {v : Value} {P : TT → II → Prop} (hcl : isCl T x) (hk : kx ≤ 1) (hv : kx = 0 → vOk (some .int) v) (hO : OpC g yX9_totalUnits cX9_totalUnits 2 (some .int) [.ref x, .int u0_] (XO g a f b h) T I kx v (exc (([2] : List Nat).getD (kx - 1) 0)) P) : McW g yL_totalUnits cL_totalUnits 4 (mkT 9 [2] [12]) 13 30 4200 [.ref x, .int u0_, .ref a] (XO g a f b h) T I (WI g a b h kx v P) := by
  obtain ⟨d, cm, cs, d1, d2, d3, hM⟩ := hO
  refine McW.of (by decide) (Nat.le_of_ble_eq_true rfl) (fun k hfl hnc htb C => ?_)
  refine r_lo (lo' := [(0, _), (1, _), (2, _)]) rfl ?_
  refine r_aload_n (pc := 0) C 2 dL_totalUnits_0 rfl rfl ?_
  refine r_iconst (pc := 1) (v := 0) C dL_totalUnits_1 rfl ?_
  refine r_aload_n (pc := 2) C 0 dL_totalUnits_2 rfl rfl ?_
  refine r_iload_n (pc := 3) C 1 dL_totalUnits_3 rfl rfl ?_
  refine r_xVc (pc := 4) (codes := [2]) (hs := [12]) (en := 9) (v := v) C hfl hnc htb rfl (by decide) (by decide) k_L_140 hM hk hcl.1 ca_X9 rfl rfl (Nat.le_of_ble_eq_true rfl) ⟨by omega, by decide⟩ ⟨by omega, by omega⟩ dL_totalUnits_4 (fun h0 T' I' hp => ?_) (fun h0 T' I' q hp => ?_)
  · obtain ⟨i, rfl⟩ := hv h0
    subst h0
    refine r_i2l (pc := 7) C dL_totalUnits_7 ?_
    refine r_jast (pc := 8) C dL_totalUnits_8 (fun f' hf => ?_)
    refine r_goto (pc := 9) (tgt := 15) C dL_totalUnits_9 rfl ?_
    refine r_iconst (pc := 15) (v := 0) C dL_totalUnits_15 rfl ?_
    exact r_iret (pc := 16) C dL_totalUnits_16 ⟨rfl, hp, f', rfl, fun _ => ⟨i, rfl, hf⟩⟩ ⟨by omega, by omega⟩
  · obtain rfl : kx = 1 := by omega
    refine r_astore_n (pc := 12) (lo' := _) C dL_totalUnits_12 rfl (by decide) rfl ?_
    refine r_iconst (pc := 13) (v := 1) C dL_totalUnits_13 rfl ?_
    exact r_iret (pc := 14) C dL_totalUnits_14 ⟨rfl, hp, f, rfl, fun z => absurd z (by decide)⟩ ⟨by omega, by omega⟩

set_option maxHeartbeats 1000000 in
theorem w_meanDebt {g : GG} {a b x kx : Nat} {f : Nat → Int64} {h : Nat → UInt64} {T : TT} {I : II} {v : Value} {P : TT → II → Prop} (hcl : isCl T x) (hk : kx ≤ 1) (hv : kx = 0 → vOk (some .double) v) (hO : OpC g yX9_meanDebt cX9_meanDebt 1 (some .double) [.ref x] (XO g a f b h) T I kx v (exc (([5] : List Nat).getD (kx - 1) 0)) P) : McW g yL_meanDebt cL_meanDebt 3 (mkT 7 [5] [10]) 13 30 4200 [.ref x, .ref b] (XO g a f b h) T I (WD g a f b kx v P) := by
  obtain ⟨d, cm, cs, d1, d2, d3, hM⟩ := hO
  refine McW.of (by decide) (Nat.le_of_ble_eq_true rfl) (fun k hfl hnc htb C => ?_)
  refine r_lo (lo' := [(0, _), (1, _)]) rfl ?_
  refine r_aload_n (pc := 0) C 1 dL_meanDebt_0 rfl rfl ?_
  refine r_iconst (pc := 1) (v := 0) C dL_meanDebt_1 rfl ?_
  refine r_aload_n (pc := 2) C 0 dL_meanDebt_2 rfl rfl ?_
  refine r_xVc (pc := 3) (codes := [5]) (hs := [10]) (en := 7) (v := v) C hfl hnc htb rfl (by decide) (by decide) k_L_143 hM hk hcl.1 ca_X9 rfl rfl (Nat.le_of_ble_eq_true rfl) ⟨by omega, by decide⟩ ⟨by omega, by omega⟩ dL_meanDebt_3 (fun h0 T' I' hp => ?_) (fun h0 T' I' q hp => ?_)
  · obtain ⟨i, rfl, hn⟩ := hv h0
    subst h0
    refine r_dast (pc := 6) C dL_meanDebt_6 (fun f' hf => ?_)
    refine r_goto (pc := 7) (tgt := 13) C dL_meanDebt_7 rfl ?_
    refine r_iconst (pc := 13) (v := 0) C dL_meanDebt_13 rfl ?_
    exact r_iret (pc := 14) C dL_meanDebt_14 ⟨rfl, hp, f', rfl, fun _ => ⟨i, rfl, hn, hf⟩⟩ ⟨by omega, by omega⟩
  · obtain rfl : kx = 1 := by omega
    refine r_astore_n (pc := 10) (lo' := _) C dL_meanDebt_10 rfl (by decide) rfl ?_
    refine r_iconst (pc := 11) (v := 1) C dL_meanDebt_11 rfl ?_
    exact r_iret (pc := 12) C dL_meanDebt_12 ⟨rfl, hp, h, rfl, fun z => absurd z (by decide)⟩ ⟨by omega, by omega⟩

set_option maxHeartbeats 1000000 in
theorem w_defaultShare {g : GG} {a b x kx : Nat} {f : Nat → Int64} {h : Nat → UInt64} {T : TT} {I : II} {v : Value} {P : TT → II → Prop} (hcl : isCl T x) (hk : kx ≤ 1) (hv : kx = 0 → vOk (some .float) v) (hO : OpC g yX9_defaultShare cX9_defaultShare 1 (some .float) [.ref x] (XO g a f b h) T I kx v (exc (([5] : List Nat).getD (kx - 1) 0)) P) : McW g yL_defaultShare cL_defaultShare 3 (mkT 8 [5] [11]) 13 30 4200 [.ref x, .ref b] (XO g a f b h) T I (WF g a f b kx v P) := by
  obtain ⟨d, cm, cs, d1, d2, d3, hM⟩ := hO
  refine McW.of (by decide) (Nat.le_of_ble_eq_true rfl) (fun k hfl hnc htb C => ?_)
  refine r_lo (lo' := [(0, _), (1, _)]) rfl ?_
  refine r_aload_n (pc := 0) C 1 dL_defaultShare_0 rfl rfl ?_
  refine r_iconst (pc := 1) (v := 0) C dL_defaultShare_1 rfl ?_
  refine r_aload_n (pc := 2) C 0 dL_defaultShare_2 rfl rfl ?_
  refine r_xVc (pc := 3) (codes := [5]) (hs := [11]) (en := 8) (v := v) C hfl hnc htb rfl (by decide) (by decide) k_L_149 hM hk hcl.1 ca_X9 rfl rfl (Nat.le_of_ble_eq_true rfl) ⟨by omega, by decide⟩ ⟨by omega, by omega⟩ dL_defaultShare_3 (fun h0 T' I' hp => ?_) (fun h0 T' I' q hp => ?_)
  · obtain ⟨i, rfl, hn⟩ := hv h0
    subst h0
    refine r_f2d (pc := 6) C dL_defaultShare_6 hn ?_
    refine r_dast (pc := 7) C dL_defaultShare_7 (fun f' hf => ?_)
    refine r_goto (pc := 8) (tgt := 14) C dL_defaultShare_8 rfl ?_
    refine r_iconst (pc := 14) (v := 0) C dL_defaultShare_14 rfl ?_
    exact r_iret (pc := 15) C dL_defaultShare_15 ⟨rfl, hp, f', rfl, fun _ => ⟨i, rfl, hn, hf⟩⟩ ⟨by omega, by omega⟩
  · obtain rfl : kx = 1 := by omega
    refine r_astore_n (pc := 11) (lo' := _) C dL_defaultShare_11 rfl (by decide) rfl ?_
    refine r_iconst (pc := 12) (v := 1) C dL_defaultShare_12 rfl ?_
    exact r_iret (pc := 13) C dL_defaultShare_13 ⟨rfl, hp, h, rfl, fun z => absurd z (by decide)⟩ ⟨by omega, by omega⟩

set_option maxHeartbeats 1000000 in
theorem w_formatLoan {g : GG} {a b x kx : Nat} {f : Nat → Int64} {h : Nat → UInt64} {T : TT} {I : II} {u0_ : Int32} {v : Value} {P : TT → II → Prop} (hcl : isCl T x) (hk : kx ≤ 1) (hv : kx = 0 → vOk (some .int) v) (hO : OpC g yX9_formatLoan cX9_formatLoan 4 (some .int) [.ref x, .int u0_] (XO g a f b h) T I kx v (exc (([1] : List Nat).getD (kx - 1) 0)) P) : McW g yL_formatLoan cL_formatLoan 4 (mkT 9 [1] [12]) 13 30 4200 [.ref x, .int u0_, .ref a] (XO g a f b h) T I (WI g a b h kx v P) := by
  obtain ⟨d, cm, cs, d1, d2, d3, hM⟩ := hO
  refine McW.of (by decide) (Nat.le_of_ble_eq_true rfl) (fun k hfl hnc htb C => ?_)
  refine r_lo (lo' := [(0, _), (1, _), (2, _)]) rfl ?_
  refine r_aload_n (pc := 0) C 2 dL_formatLoan_0 rfl rfl ?_
  refine r_iconst (pc := 1) (v := 0) C dL_formatLoan_1 rfl ?_
  refine r_aload_n (pc := 2) C 0 dL_formatLoan_2 rfl rfl ?_
  refine r_iload_n (pc := 3) C 1 dL_formatLoan_3 rfl rfl ?_
  refine r_xVc (pc := 4) (codes := [1]) (hs := [12]) (en := 9) (v := v) C hfl hnc htb rfl (by decide) (by decide) k_L_153 hM hk hcl.1 ca_X9 rfl rfl (Nat.le_of_ble_eq_true rfl) ⟨by omega, by decide⟩ ⟨by omega, by omega⟩ dL_formatLoan_4 (fun h0 T' I' hp => ?_) (fun h0 T' I' q hp => ?_)
  · obtain ⟨i, rfl⟩ := hv h0
    subst h0
    refine r_i2l (pc := 7) C dL_formatLoan_7 ?_
    refine r_jast (pc := 8) C dL_formatLoan_8 (fun f' hf => ?_)
    refine r_goto (pc := 9) (tgt := 15) C dL_formatLoan_9 rfl ?_
    refine r_iconst (pc := 15) (v := 0) C dL_formatLoan_15 rfl ?_
    exact r_iret (pc := 16) C dL_formatLoan_16 ⟨rfl, hp, f', rfl, fun _ => ⟨i, rfl, hf⟩⟩ ⟨by omega, by omega⟩
  · obtain rfl : kx = 1 := by omega
    refine r_astore_n (pc := 12) (lo' := _) C dL_formatLoan_12 rfl (by decide) rfl ?_
    refine r_iconst (pc := 13) (v := 1) C dL_formatLoan_13 rfl ?_
    exact r_iret (pc := 14) C dL_formatLoan_14 ⟨rfl, hp, f, rfl, fun z => absurd z (by decide)⟩ ⟨by omega, by omega⟩

set_option maxHeartbeats 1000000 in
theorem w_lineChar {g : GG} {a b x kx : Nat} {f : Nat → Int64} {h : Nat → UInt64} {T : TT} {I : II} {u0_ : Int32} {v : Value} {P : TT → II → Prop} (hcl : isCl T x) (hk : kx ≤ 1) (hv : kx = 0 → vOk (some .char) v) (hO : OpC g yX9_lineChar cX9_lineChar 2 (some .char) [.ref x, .int u0_] (XO g a f b h) T I kx v (exc (([2] : List Nat).getD (kx - 1) 0)) P) : McW g yL_lineChar cL_lineChar 4 (mkT 9 [2] [12]) 13 30 4200 [.ref x, .int u0_, .ref a] (XO g a f b h) T I (WI g a b h kx v P) := by
  obtain ⟨d, cm, cs, d1, d2, d3, hM⟩ := hO
  refine McW.of (by decide) (Nat.le_of_ble_eq_true rfl) (fun k hfl hnc htb C => ?_)
  refine r_lo (lo' := [(0, _), (1, _), (2, _)]) rfl ?_
  refine r_aload_n (pc := 0) C 2 dL_lineChar_0 rfl rfl ?_
  refine r_iconst (pc := 1) (v := 0) C dL_lineChar_1 rfl ?_
  refine r_aload_n (pc := 2) C 0 dL_lineChar_2 rfl rfl ?_
  refine r_iload_n (pc := 3) C 1 dL_lineChar_3 rfl rfl ?_
  refine r_xVc (pc := 4) (codes := [2]) (hs := [12]) (en := 9) (v := v) C hfl hnc htb rfl (by decide) (by decide) k_L_156 hM hk hcl.1 ca_X9 rfl rfl (Nat.le_of_ble_eq_true rfl) ⟨by omega, by decide⟩ ⟨by omega, by omega⟩ dL_lineChar_4 (fun h0 T' I' hp => ?_) (fun h0 T' I' q hp => ?_)
  · obtain ⟨i, rfl⟩ := hv h0
    subst h0
    refine r_i2l (pc := 7) C dL_lineChar_7 ?_
    refine r_jast (pc := 8) C dL_lineChar_8 (fun f' hf => ?_)
    refine r_goto (pc := 9) (tgt := 15) C dL_lineChar_9 rfl ?_
    refine r_iconst (pc := 15) (v := 0) C dL_lineChar_15 rfl ?_
    exact r_iret (pc := 16) C dL_lineChar_16 ⟨rfl, hp, f', rfl, fun _ => ⟨i, rfl, hf⟩⟩ ⟨by omega, by omega⟩
  · obtain rfl : kx = 1 := by omega
    refine r_astore_n (pc := 12) (lo' := _) C dL_lineChar_12 rfl (by decide) rfl ?_
    refine r_iconst (pc := 13) (v := 1) C dL_lineChar_13 rfl ?_
    exact r_iret (pc := 14) C dL_lineChar_14 ⟨rfl, hp, f, rfl, fun z => absurd z (by decide)⟩ ⟨by omega, by omega⟩

set_option maxHeartbeats 1000000 in
theorem w_append {g : GG} {a b x kx : Nat} {f : Nat → Int64} {h : Nat → UInt64} {T : TT} {I : II} {u0_ : Int32} {v : Value} {P : TT → II → Prop} (hcl : isCl T x) (hk : kx ≤ 2) (hv : kx = 0 → vOk (some .int) v) (hO : OpC g yX9_append cX9_append 2 (some .int) [.ref x, .int u0_] (XO g a f b h) T I kx v (exc (([3, 4] : List Nat).getD (kx - 1) 0)) P) : McW g yL_append cL_append 4 (mkT 9 [3, 4] [12, 15]) 13 30 4200 [.ref x, .int u0_, .ref a] (XO g a f b h) T I (WI g a b h kx v P) := by
  obtain ⟨d, cm, cs, d1, d2, d3, hM⟩ := hO
  refine McW.of (by decide) (Nat.le_of_ble_eq_true rfl) (fun k hfl hnc htb C => ?_)
  refine r_lo (lo' := [(0, _), (1, _), (2, _)]) rfl ?_
  refine r_aload_n (pc := 0) C 2 dL_append_0 rfl rfl ?_
  refine r_iconst (pc := 1) (v := 0) C dL_append_1 rfl ?_
  refine r_aload_n (pc := 2) C 0 dL_append_2 rfl rfl ?_
  refine r_iload_n (pc := 3) C 1 dL_append_3 rfl rfl ?_
  refine r_xVc (pc := 4) (codes := [3, 4]) (hs := [12, 15]) (en := 9) (v := v) C hfl hnc htb rfl (by decide) (by decide) k_L_160 hM hk hcl.1 ca_X9 rfl rfl (Nat.le_of_ble_eq_true rfl) ⟨by omega, by decide⟩ ⟨by omega, by omega⟩ dL_append_4 (fun h0 T' I' hp => ?_) (fun h0 T' I' q hp => ?_)
  · obtain ⟨i, rfl⟩ := hv h0
    subst h0
    refine r_i2l (pc := 7) C dL_append_7 ?_
    refine r_jast (pc := 8) C dL_append_8 (fun f' hf => ?_)
    refine r_goto (pc := 9) (tgt := 18) C dL_append_9 rfl ?_
    refine r_iconst (pc := 18) (v := 0) C dL_append_18 rfl ?_
    exact r_iret (pc := 19) C dL_append_19 ⟨rfl, hp, f', rfl, fun _ => ⟨i, rfl, hf⟩⟩ ⟨by omega, by omega⟩
  · obtain rfl | rfl : kx = 1 ∨ kx = 2 := by omega
    · refine r_astore_n (pc := 12) (lo' := _) C dL_append_12 rfl (by decide) rfl ?_
      refine r_iconst (pc := 13) (v := 1) C dL_append_13 rfl ?_
      exact r_iret (pc := 14) C dL_append_14 ⟨rfl, hp, f, rfl, fun z => absurd z (by decide)⟩ ⟨by omega, by omega⟩
    · refine r_astore_n (pc := 15) (lo' := _) C dL_append_15 rfl (by decide) rfl ?_
      refine r_iconst (pc := 16) (v := 2) C dL_append_16 rfl ?_
      exact r_iret (pc := 17) C dL_append_17 ⟨rfl, hp, f, rfl, fun z => absurd z (by decide)⟩ ⟨by omega, by omega⟩

set_option maxHeartbeats 1000000 in
theorem w_run {g : GG} {a b x kx : Nat} {f : Nat → Int64} {h : Nat → UInt64} {T : TT} {I : II} {v : Value} {P : TT → II → Prop} (hcl : isCl T x) (hk : kx ≤ 2) (hv : kx = 0 → vOk (some .int) v) (hO : OpC g yX9_run cX9_run 4 (some .int) [.ref x] (XO g a f b h) T I kx v (exc (([3, 4] : List Nat).getD (kx - 1) 0)) P) : McW g yL_run cL_run 3 (mkT 8 [3, 4] [11, 14]) 13 30 4200 [.ref x, .ref a] (XO g a f b h) T I (WI g a b h kx v P) := by
  obtain ⟨d, cm, cs, d1, d2, d3, hM⟩ := hO
  refine McW.of (by decide) (Nat.le_of_ble_eq_true rfl) (fun k hfl hnc htb C => ?_)
  refine r_lo (lo' := [(0, _), (1, _)]) rfl ?_
  refine r_aload_n (pc := 0) C 1 dL_run_0 rfl rfl ?_
  refine r_iconst (pc := 1) (v := 0) C dL_run_1 rfl ?_
  refine r_aload_n (pc := 2) C 0 dL_run_2 rfl rfl ?_
  refine r_xVc (pc := 3) (codes := [3, 4]) (hs := [11, 14]) (en := 8) (v := v) C hfl hnc htb rfl (by decide) (by decide) k_L_164 hM hk hcl.1 ca_X9 rfl rfl (Nat.le_of_ble_eq_true rfl) ⟨by omega, by decide⟩ ⟨by omega, by omega⟩ dL_run_3 (fun h0 T' I' hp => ?_) (fun h0 T' I' q hp => ?_)
  · obtain ⟨i, rfl⟩ := hv h0
    subst h0
    refine r_i2l (pc := 6) C dL_run_6 ?_
    refine r_jast (pc := 7) C dL_run_7 (fun f' hf => ?_)
    refine r_goto (pc := 8) (tgt := 17) C dL_run_8 rfl ?_
    refine r_iconst (pc := 17) (v := 0) C dL_run_17 rfl ?_
    exact r_iret (pc := 18) C dL_run_18 ⟨rfl, hp, f', rfl, fun _ => ⟨i, rfl, hf⟩⟩ ⟨by omega, by omega⟩
  · obtain rfl | rfl : kx = 1 ∨ kx = 2 := by omega
    · refine r_astore_n (pc := 11) (lo' := _) C dL_run_11 rfl (by decide) rfl ?_
      refine r_iconst (pc := 12) (v := 1) C dL_run_12 rfl ?_
      exact r_iret (pc := 13) C dL_run_13 ⟨rfl, hp, f, rfl, fun z => absurd z (by decide)⟩ ⟨by omega, by omega⟩
    · refine r_astore_n (pc := 14) (lo' := _) C dL_run_14 rfl (by decide) rfl ?_
      refine r_iconst (pc := 15) (v := 2) C dL_run_15 rfl ?_
      exact r_iret (pc := 16) C dL_run_16 ⟨rfl, hp, f, rfl, fun z => absurd z (by decide)⟩ ⟨by omega, by omega⟩

set_option maxHeartbeats 1000000 in
theorem w_errorPosition {g : GG} {a b x kx : Nat} {f : Nat → Int64} {h : Nat → UInt64} {T : TT} {I : II} {v : Value} {P : TT → II → Prop} (hcl : isCl T x) (hk : kx ≤ 1) (hv : kx = 0 → vOk (some .int) v) (hO : OpC g yX9_errorPosition cX9_errorPosition 1 (some .int) [.ref x] (XO g a f b h) T I kx v (exc (([1] : List Nat).getD (kx - 1) 0)) P) : McW g yL_errorPosition cL_errorPosition 3 (mkT 8 [1] [11]) 13 30 4200 [.ref x, .ref a] (XO g a f b h) T I (WI g a b h kx v P) := by
  obtain ⟨d, cm, cs, d1, d2, d3, hM⟩ := hO
  refine McW.of (by decide) (Nat.le_of_ble_eq_true rfl) (fun k hfl hnc htb C => ?_)
  refine r_lo (lo' := [(0, _), (1, _)]) rfl ?_
  refine r_aload_n (pc := 0) C 1 dL_errorPosition_0 rfl rfl ?_
  refine r_iconst (pc := 1) (v := 0) C dL_errorPosition_1 rfl ?_
  refine r_aload_n (pc := 2) C 0 dL_errorPosition_2 rfl rfl ?_
  refine r_xVc (pc := 3) (codes := [1]) (hs := [11]) (en := 8) (v := v) C hfl hnc htb rfl (by decide) (by decide) k_L_167 hM hk hcl.1 ca_X9 rfl rfl (Nat.le_of_ble_eq_true rfl) ⟨by omega, by decide⟩ ⟨by omega, by omega⟩ dL_errorPosition_3 (fun h0 T' I' hp => ?_) (fun h0 T' I' q hp => ?_)
  · obtain ⟨i, rfl⟩ := hv h0
    subst h0
    refine r_i2l (pc := 6) C dL_errorPosition_6 ?_
    refine r_jast (pc := 7) C dL_errorPosition_7 (fun f' hf => ?_)
    refine r_goto (pc := 8) (tgt := 14) C dL_errorPosition_8 rfl ?_
    refine r_iconst (pc := 14) (v := 0) C dL_errorPosition_14 rfl ?_
    exact r_iret (pc := 15) C dL_errorPosition_15 ⟨rfl, hp, f', rfl, fun _ => ⟨i, rfl, hf⟩⟩ ⟨by omega, by omega⟩
  · obtain rfl : kx = 1 := by omega
    refine r_astore_n (pc := 11) (lo' := _) C dL_errorPosition_11 rfl (by decide) rfl ?_
    refine r_iconst (pc := 12) (v := 1) C dL_errorPosition_12 rfl ?_
    exact r_iret (pc := 13) C dL_errorPosition_13 ⟨rfl, hp, f, rfl, fun z => absurd z (by decide)⟩ ⟨by omega, by omega⟩

set_option maxHeartbeats 1000000 in
theorem w_failedCommand {g : GG} {a b x kx : Nat} {f : Nat → Int64} {h : Nat → UInt64} {T : TT} {I : II} {v : Value} {P : TT → II → Prop} (hcl : isCl T x) (hk : kx ≤ 1) (hv : kx = 0 → vOk (some .int) v) (hO : OpC g yX9_failedCommand cX9_failedCommand 1 (some .int) [.ref x] (XO g a f b h) T I kx v (exc (([1] : List Nat).getD (kx - 1) 0)) P) : McW g yL_failedCommand cL_failedCommand 3 (mkT 8 [1] [11]) 13 30 4200 [.ref x, .ref a] (XO g a f b h) T I (WI g a b h kx v P) := by
  obtain ⟨d, cm, cs, d1, d2, d3, hM⟩ := hO
  refine McW.of (by decide) (Nat.le_of_ble_eq_true rfl) (fun k hfl hnc htb C => ?_)
  refine r_lo (lo' := [(0, _), (1, _)]) rfl ?_
  refine r_aload_n (pc := 0) C 1 dL_failedCommand_0 rfl rfl ?_
  refine r_iconst (pc := 1) (v := 0) C dL_failedCommand_1 rfl ?_
  refine r_aload_n (pc := 2) C 0 dL_failedCommand_2 rfl rfl ?_
  refine r_xVc (pc := 3) (codes := [1]) (hs := [11]) (en := 8) (v := v) C hfl hnc htb rfl (by decide) (by decide) k_L_170 hM hk hcl.1 ca_X9 rfl rfl (Nat.le_of_ble_eq_true rfl) ⟨by omega, by decide⟩ ⟨by omega, by omega⟩ dL_failedCommand_3 (fun h0 T' I' hp => ?_) (fun h0 T' I' q hp => ?_)
  · obtain ⟨i, rfl⟩ := hv h0
    subst h0
    refine r_i2l (pc := 6) C dL_failedCommand_6 ?_
    refine r_jast (pc := 7) C dL_failedCommand_7 (fun f' hf => ?_)
    refine r_goto (pc := 8) (tgt := 14) C dL_failedCommand_8 rfl ?_
    refine r_iconst (pc := 14) (v := 0) C dL_failedCommand_14 rfl ?_
    exact r_iret (pc := 15) C dL_failedCommand_15 ⟨rfl, hp, f', rfl, fun _ => ⟨i, rfl, hf⟩⟩ ⟨by omega, by omega⟩
  · obtain rfl : kx = 1 := by omega
    refine r_astore_n (pc := 11) (lo' := _) C dL_failedCommand_11 rfl (by decide) rfl ?_
    refine r_iconst (pc := 12) (v := 1) C dL_failedCommand_12 rfl ?_
    exact r_iret (pc := 13) C dL_failedCommand_13 ⟨rfl, hp, f, rfl, fun z => absurd z (by decide)⟩ ⟨by omega, by omega⟩

set_option maxHeartbeats 1000000 in
theorem w_undo {g : GG} {a b x kx : Nat} {f : Nat → Int64} {h : Nat → UInt64} {T : TT} {I : II} {v : Value} {P : TT → II → Prop} (hcl : isCl T x) (hk : kx ≤ 1) (hv : kx = 0 → vOk (some .int) v) (hO : OpC g yX9_undo cX9_undo 1 (some .int) [.ref x] (XO g a f b h) T I kx v (exc (([4] : List Nat).getD (kx - 1) 0)) P) : McW g yL_undo cL_undo 3 (mkT 8 [4] [11]) 13 30 4200 [.ref x, .ref a] (XO g a f b h) T I (WI g a b h kx v P) := by
  obtain ⟨d, cm, cs, d1, d2, d3, hM⟩ := hO
  refine McW.of (by decide) (Nat.le_of_ble_eq_true rfl) (fun k hfl hnc htb C => ?_)
  refine r_lo (lo' := [(0, _), (1, _)]) rfl ?_
  refine r_aload_n (pc := 0) C 1 dL_undo_0 rfl rfl ?_
  refine r_iconst (pc := 1) (v := 0) C dL_undo_1 rfl ?_
  refine r_aload_n (pc := 2) C 0 dL_undo_2 rfl rfl ?_
  refine r_xVc (pc := 3) (codes := [4]) (hs := [11]) (en := 8) (v := v) C hfl hnc htb rfl (by decide) (by decide) k_L_173 hM hk hcl.1 ca_X9 rfl rfl (Nat.le_of_ble_eq_true rfl) ⟨by omega, by decide⟩ ⟨by omega, by omega⟩ dL_undo_3 (fun h0 T' I' hp => ?_) (fun h0 T' I' q hp => ?_)
  · obtain ⟨i, rfl⟩ := hv h0
    subst h0
    refine r_i2l (pc := 6) C dL_undo_6 ?_
    refine r_jast (pc := 7) C dL_undo_7 (fun f' hf => ?_)
    refine r_goto (pc := 8) (tgt := 14) C dL_undo_8 rfl ?_
    refine r_iconst (pc := 14) (v := 0) C dL_undo_14 rfl ?_
    exact r_iret (pc := 15) C dL_undo_15 ⟨rfl, hp, f', rfl, fun _ => ⟨i, rfl, hf⟩⟩ ⟨by omega, by omega⟩
  · obtain rfl : kx = 1 := by omega
    refine r_astore_n (pc := 11) (lo' := _) C dL_undo_11 rfl (by decide) rfl ?_
    refine r_iconst (pc := 12) (v := 1) C dL_undo_12 rfl ?_
    exact r_iret (pc := 13) C dL_undo_13 ⟨rfl, hp, f, rfl, fun z => absurd z (by decide)⟩ ⟨by omega, by omega⟩

set_option maxHeartbeats 1000000 in
theorem w_restore {g : GG} {a b x kx : Nat} {f : Nat → Int64} {h : Nat → UInt64} {T : TT} {I : II} {v : Value} {P : TT → II → Prop} (hcl : isCl T x) (hk : kx ≤ 1) (hv : kx = 0 → vOk (some .int) v) (hO : OpC g yX9_restore cX9_restore 1 (some .int) [.ref x] (XO g a f b h) T I kx v (exc (([4] : List Nat).getD (kx - 1) 0)) P) : McW g yL_restore cL_restore 3 (mkT 8 [4] [11]) 13 30 4200 [.ref x, .ref a] (XO g a f b h) T I (WI g a b h kx v P) := by
  obtain ⟨d, cm, cs, d1, d2, d3, hM⟩ := hO
  refine McW.of (by decide) (Nat.le_of_ble_eq_true rfl) (fun k hfl hnc htb C => ?_)
  refine r_lo (lo' := [(0, _), (1, _)]) rfl ?_
  refine r_aload_n (pc := 0) C 1 dL_restore_0 rfl rfl ?_
  refine r_iconst (pc := 1) (v := 0) C dL_restore_1 rfl ?_
  refine r_aload_n (pc := 2) C 0 dL_restore_2 rfl rfl ?_
  refine r_xVc (pc := 3) (codes := [4]) (hs := [11]) (en := 8) (v := v) C hfl hnc htb rfl (by decide) (by decide) k_L_176 hM hk hcl.1 ca_X9 rfl rfl (Nat.le_of_ble_eq_true rfl) ⟨by omega, by decide⟩ ⟨by omega, by omega⟩ dL_restore_3 (fun h0 T' I' hp => ?_) (fun h0 T' I' q hp => ?_)
  · obtain ⟨i, rfl⟩ := hv h0
    subst h0
    refine r_i2l (pc := 6) C dL_restore_6 ?_
    refine r_jast (pc := 7) C dL_restore_7 (fun f' hf => ?_)
    refine r_goto (pc := 8) (tgt := 14) C dL_restore_8 rfl ?_
    refine r_iconst (pc := 14) (v := 0) C dL_restore_14 rfl ?_
    exact r_iret (pc := 15) C dL_restore_15 ⟨rfl, hp, f', rfl, fun _ => ⟨i, rfl, hf⟩⟩ ⟨by omega, by omega⟩
  · obtain rfl : kx = 1 := by omega
    refine r_astore_n (pc := 11) (lo' := _) C dL_restore_11 rfl (by decide) rfl ?_
    refine r_iconst (pc := 12) (v := 1) C dL_restore_12 rfl ?_
    exact r_iret (pc := 13) C dL_restore_13 ⟨rfl, hp, f, rfl, fun z => absurd z (by decide)⟩ ⟨by omega, by omega⟩
