/-! Constructors: a borrower, a loan, the ledger, a desk. -/
theorem u2_z {I : II} {b j : Nat} (h : I b = fun _ => 0) : u2 I b j (nI 0) = I := by
  have e : upd (I b) j (nI 0) = I b := by
    funext q
    rw [h]
    simp only [upd]
    split
    · exact nI_0
    · rfl
  rw [u2_sr, e, sr_id]
theorem u2_zz {I : II} {b j : Nat} (h : I b j = nI 0) : u2 I b j (nI 0) = I := by
  have e : upd (I b) j (nI 0) = I b := by
    funext q
    simp only [upd]
    split
    · next hq => rw [hq, h]
    · rfl
  rw [u2_sr, e, sr_id]
/-- nothing but the addresses from b to e has changed -/
def Nx (b e : Nat) (T : TT) (I : II) (T' : TT) (I' : II) : Prop := ∀ q, ¬ (b ≤ q ∧ q < e) → T' q = T q ∧ I' q = I q
theorem Nx.rf {b e : Nat} {T : TT} {I : II} : Nx b e T I T I := fun _ _ => ⟨rfl, rfl⟩
theorem Nx.tr {b e b1 e1 b2 e2 : Nat} {T T1 T2 : TT} {I I1 I2 : II} (h : Nx b e T I T1 I1) (h2 : Nx b1 e1 T1 I1 T2 I2) (hb : b2 ≤ b ∧ e ≤ e2 ∧ b2 ≤ b1 ∧ e1 ≤ e2) : Nx b2 e2 T I T2 I2 := fun q hq => by
  obtain ⟨a1, a2⟩ := h q (by omega)
  obtain ⟨c1, c2⟩ := h2 q (by omega)
  exact ⟨c1.trans a1, c2.trans a2⟩
theorem isDk.mv {T T' : TT} {b : Nat} (h : isDk T b) (e : ∀ q, b ≤ q → q < b + 42 → T' q = T q) : isDk T' b := by
  obtain ⟨h0, h1, h2, h3, h4, h5, h6, h7, h8, h9, hb, hl⟩ := h
  refine ⟨(e _ (by omega) (by omega)).trans h0, (e _ (by omega) (by omega)).trans h1, (e _ (by omega) (by omega)).trans h2, (e _ (by omega) (by omega)).trans h3, (e _ (by omega) (by omega)).trans h4, (e _ (by omega) (by omega)).trans h5, (e _ (by omega) (by omega)).trans h6, (e _ (by omega) (by omega)).trans h7, (e _ (by omega) (by omega)).trans h8, (e _ (by omega) (by omega)).trans h9, fun n hn => ⟨(e _ (by omega) (by omega)).trans (hb n hn).1, (e _ (by omega) (by omega)).trans (hb n hn).2⟩, fun p hp => ⟨(e _ (by omega) (by omega)).trans (hl p hp).1, (e _ (by omega) (by omega)).trans (hl p hp).2⟩⟩
theorem isDk.kd {T : TT} {b : Nat} (h : isDk T b) (q : Nat) (h1 : b ≤ q) (h2 : q < b + 42) : (T q).1 ≠ 0 ∧ (T q).1 ≠ 4 := by
  obtain ⟨a0, a1, a2, a3, a4, a5, a6, a7, a8, a9, hb, hl⟩ := h
  have key : ∀ (q' c : Nat) (y : Nat × (Nat → Option Nat)), q = q' → T q' = (c, y) → c ≠ 0 → c ≠ 4 → (T q).1 ≠ 0 ∧ (T q).1 ≠ 4 := fun q' c y e ht hc hc4 => by rw [e, ht]; exact ⟨hc, hc4⟩
  by_cases e1 : q < b + 10
  · obtain e | e | e | e | e | e | e | e | e | e : q = b ∨ q = b + 1 ∨ q = b + 2 ∨ q = b + 3 ∨ q = b + 4 ∨ q = b + 5 ∨ q = b + 6 ∨ q = b + 6 + 1 ∨ q = b + 6 + 2 ∨ q = b + 6 + 3 := by omega
    · exact key _ _ _ e a0 (by decide) (by decide)
    · exact key _ _ _ e a1 (by decide) (by decide)
    · exact key _ _ _ e a2 (by decide) (by decide)
    · exact key _ _ _ e a3 (by decide) (by decide)
    · exact key _ _ _ e a4 (by decide) (by decide)
    · exact key _ _ _ e a5 (by decide) (by decide)
    · exact key _ _ _ e a6 (by decide) (by decide)
    · exact key _ _ _ e a7 (by decide) (by decide)
    · exact key _ _ _ e a8 (by decide) (by decide)
    · exact key _ _ _ e a9 (by decide) (by decide)
  by_cases e2 : q < b + 22
  · have hn : (q - b - 10) / 2 < 6 := by omega
    by_cases e3 : (q - b - 10) % 2 = 0
    · exact key _ _ _ (by omega) (hb _ hn).1 (by decide) (by decide)
    · exact key _ _ _ (by omega) (hb _ hn).2 (by decide) (by decide)
  · have hp : (q - b - 22) / 2 < 10 := by omega
    by_cases e3 : (q - b - 22) % 2 = 0
    · exact key _ _ _ (by omega) (hl _ hp).1 (by decide) (by decide)
    · exact key _ _ _ (by omega) (hl _ hp).2 (by decide) (by decide)
/-- what a constructor of two cells leaves -/
def P2 (b : Nat) (c : Kd) (X : va_W) (T : TT) (I : II) : PhiT := fun r X' T' I' => r = none ∧ X' = X ∧ T' b = c ∧ T' (b + 1) = (2, 4, nr) ∧ Nx b (b + 2) T I T' I'

set_option maxHeartbeats 1000000 in
theorem z_bor {g : GG} {X : va_W} {T : TT} {I : II} {b : Nat} (hT : T b = (1, 4, fun _ => none)) (hI : I b = fun _ => 0) (hfu : Fu g T (b + 1)) : McZ g yX1_init cX1_init 1 1 1 4 [.ref b] X T I (b + 1) (P2 b (1, 4, rfB b) X T I) := by
  refine McZ.of (by decide) rfl (Nat.le_of_ble_eq_true rfl) (fun k hfl hnm hz hao C => ?_)
  refine r_lo (lo' := [(0, _)]) rfl ?_
  refine r_aload_n (pc := 0) C 0 dX1_init_0 rfl rfl ?_
  refine r_obj (pc := 1) C o_X1 (Nat.le_of_ble_eq_true rfl) dX1_init_1 ?_
  refine r_aload_n (pc := 4) C 0 dX1_init_4 rfl rfl ?_
  refine r_iconst (pc := 5) (v := 0) C dX1_init_5 rfl ?_
  refine r_putI (pc := 6) C f_X1_9 hT rfl rfl rfl dX1_init_6 ?_
  refine r_I (u2_z hI) ?_
  refine r_aload_n (pc := 9) C 0 dX1_init_9 rfl rfl ?_
  refine r_iconst (pc := 10) (v := 0) C dX1_init_10 rfl ?_
  refine r_putI (pc := 11) C f_X1_15 hT rfl rfl rfl dX1_init_11 ?_
  refine r_I (u2_z hI) ?_
  refine r_aload_n (pc := 14) C 0 dX1_init_14 rfl rfl ?_
  refine r_iconst (pc := 15) (v := 4) C dX1_init_15 rfl ?_
  refine r_newI (pc := 16) (z := b + 1) C (by decide) hfu hz (by decide) dX1_init_16 (fun hz0 => ?_)
  refine r_putRF (pc := 18) C hnm g_X1_18 ((tu_n (by omega)).trans hT) rfl rfl rfl dX1_init_18 ?_
  refine r_vret (pc := 21) C dX1_init_21 ⟨rfl, rfl, ?_, by rw [tu_n (by omega), tu_s], fun q hq => ⟨by rw [tu_n (by omega), tu_n (by omega)], sr_n (by omega)⟩⟩ (by decide)
  rw [tu_s]
  refine congrArg (fun f => ((1, 4, f) : Kd)) (funext fun j => ?_)
  by_cases hj : j = 2
  · subst hj; rfl
  · rw [va_up_ne _ _ hj]
    unfold rfB
    split
    · exact absurd rfl hj
    · rfl

set_option maxHeartbeats 1000000 in
theorem z_loan {g : GG} {X : va_W} {T : TT} {I : II} {b : Nat} (hT : T b = (1, 9, fun _ => none)) (hI : I b = fun _ => 0) (hfu : Fu g T (b + 1)) : McZ g yX7_init cX7_init 1 1 1 4 [.ref b] X T I (b + 1) (P2 b (1, 9, rfN b) X T I) := by
  refine McZ.of (by decide) rfl (Nat.le_of_ble_eq_true rfl) (fun k hfl hnm hz hao C => ?_)
  refine r_lo (lo' := [(0, _)]) rfl ?_
  refine r_aload_n (pc := 0) C 0 dX7_init_0 rfl rfl ?_
  refine r_obj (pc := 1) C o_X7 (Nat.le_of_ble_eq_true rfl) dX7_init_1 ?_
  refine r_aload_n (pc := 4) C 0 dX7_init_4 rfl rfl ?_
  refine r_iconst (pc := 5) (v := 0) C dX7_init_5 rfl ?_
  refine r_putI (pc := 6) C f_X7_9 hT rfl rfl rfl dX7_init_6 ?_
  refine r_I (u2_z hI) ?_
  refine r_aload_n (pc := 9) C 0 dX7_init_9 rfl rfl ?_
  refine r_iconst (pc := 10) (v := 0) C dX7_init_10 rfl ?_
  refine r_putI (pc := 11) C f_X7_15 hT rfl rfl rfl dX7_init_11 ?_
  refine r_I (u2_z hI) ?_
  refine r_aload_n (pc := 14) C 0 dX7_init_14 rfl rfl ?_
  refine r_iconst (pc := 15) (v := 0) C dX7_init_15 rfl ?_
  refine r_putI (pc := 16) C f_X7_18 hT rfl rfl rfl dX7_init_16 ?_
  refine r_I (u2_z hI) ?_
  refine r_aload_n (pc := 19) C 0 dX7_init_19 rfl rfl ?_
  refine r_iconst (pc := 20) (v := 0) C dX7_init_20 rfl ?_
  refine r_putI (pc := 21) C f_X7_21 hT rfl rfl rfl dX7_init_21 ?_
  refine r_I (u2_z hI) ?_
  refine r_aload_n (pc := 24) C 0 dX7_init_24 rfl rfl ?_
  refine r_iconst (pc := 25) (v := 0) C dX7_init_25 rfl ?_
  refine r_putI (pc := 26) C f_X7_24 hT rfl rfl rfl dX7_init_26 ?_
  refine r_I (u2_z hI) ?_
  refine r_aload_n (pc := 29) C 0 dX7_init_29 rfl rfl ?_
  refine r_iconst (pc := 30) (v := 0) C dX7_init_30 rfl ?_
  refine r_putI (pc := 31) C f_X7_27 hT rfl rfl rfl dX7_init_31 ?_
  refine r_I (u2_z hI) ?_
  refine r_aload_n (pc := 34) C 0 dX7_init_34 rfl rfl ?_
  refine r_iconst (pc := 35) (v := 4) C dX7_init_35 rfl ?_
  refine r_newI (pc := 36) (z := b + 1) C (by decide) hfu hz (by decide) dX7_init_36 (fun hz0 => ?_)
  refine r_putRF (pc := 38) C hnm g_X7_30 ((tu_n (by omega)).trans hT) rfl rfl rfl dX7_init_38 ?_
  refine r_vret (pc := 41) C dX7_init_41 ⟨rfl, rfl, ?_, by rw [tu_n (by omega), tu_s], fun q hq => ⟨by rw [tu_n (by omega), tu_n (by omega)], sr_n (by omega)⟩⟩ (by decide)
  rw [tu_s]
  refine congrArg (fun f => ((1, 9, f) : Kd)) (funext fun j => ?_)
  by_cases hj : j = 6
  · subst hj; rfl
  · rw [va_up_ne _ _ hj]
    unfold rfN
    split
    · exact absurd rfl hj
    · rfl

def P4 (b : Nat) (X : va_W) (T : TT) (I : II) : PhiT := fun r X' T' I' => r = none ∧ X' = X ∧ T' b = (1, 8, rfG b) ∧ T' (b + 1) = (2, 20, nr) ∧ T' (b + 2) = (2, 20, nr) ∧ T' (b + 3) = (2, 20, nr) ∧ I' b 0 = nI 0 ∧ Nx b (b + 4) T I T' I'

set_option maxHeartbeats 1000000 in
theorem z_led {g : GG} {X : va_W} {T : TT} {I : II} {b : Nat} (hT : T b = (1, 8, fun _ => none)) (hI : I b = fun _ => 0) (hfu : Fu g T (b + 1)) : McZ g yX6_init cX6_init 1 1 3 60 [.ref b] X T I (b + 1) (P4 b X T I) := by
  refine McZ.of (by decide) rfl (Nat.le_of_ble_eq_true rfl) (fun k hfl hnm hz hao C => ?_)
  refine r_lo (lo' := [(0, _)]) rfl ?_
  refine r_aload_n (pc := 0) C 0 dX6_init_0 rfl rfl ?_
  refine r_obj (pc := 1) C o_X6 (Nat.le_of_ble_eq_true rfl) dX6_init_1 ?_
  refine r_aload_n (pc := 4) C 0 dX6_init_4 rfl rfl ?_
  refine r_iconst (pc := 5) (v := 0) C dX6_init_5 rfl ?_
  refine r_putI (pc := 6) C f_X6_9 hT rfl rfl rfl dX6_init_6 ?_
  refine r_I (u2_z hI) ?_
  refine r_aload_n (pc := 9) C 0 dX6_init_9 rfl rfl ?_
  refine r_bipush (pc := 10) (v := 20) C dX6_init_10 rfl ?_
  refine r_newI (pc := 12) (z := b + 1) C (by decide) hfu hz (by decide) dX6_init_12 (fun _ => ?_)
  refine r_putRF (pc := 14) C hnm g_X6_15 ((tu_n (by omega)).trans hT) rfl rfl rfl dX6_init_14 ?_
  refine r_aload_n (pc := 17) C 0 dX6_init_17 rfl rfl ?_
  refine r_bipush (pc := 18) (v := 20) C dX6_init_18 rfl ?_
  refine r_newI (pc := 20) (z := b + 1 + 1) C (by decide) ((hfu.put (show (2 : Nat) ≠ 0 by decide)).re (show (1 : Nat) ≠ 0 by decide)) (by omega) (by decide) dX6_init_20 (fun _ => ?_)
  refine r_putRF (pc := 22) C hnm g_X6_19 ((tu_n (by omega)).trans tu_s) rfl rfl rfl dX6_init_22 ?_
  refine r_aload_n (pc := 25) C 0 dX6_init_25 rfl rfl ?_
  refine r_bipush (pc := 26) (v := 20) C dX6_init_26 rfl ?_
  refine r_newI (pc := 28) (z := b + 1 + 1 + 1) C (by decide) ((((hfu.put (show (2 : Nat) ≠ 0 by decide)).re (show (1 : Nat) ≠ 0 by decide)).put (show (2 : Nat) ≠ 0 by decide)).re (show (1 : Nat) ≠ 0 by decide)) (by omega) (by decide) dX6_init_28 (fun _ => ?_)
  refine r_putRF (pc := 30) C hnm g_X6_22 ((tu_n (by omega)).trans tu_s) rfl rfl rfl dX6_init_30 ?_
  refine r_vret (pc := 33) C dX6_init_33 ⟨rfl, rfl, ?_, by simp [tu], by simp [tu], by simp [tu], ?_, fun q hq => ⟨?_, ?_⟩⟩ (by decide)
  · rw [tu_s]
    refine congrArg (fun f => ((1, 8, f) : Kd)) (funext fun j => ?_)
    match j with
    | 0 => rfl
    | 1 => rfl
    | 2 => rfl
    | 3 => rfl
    | j + 4 => simp [va_up, rfG]
  · rw [sr_n (by omega), sr_n (by omega), sr_n (by omega), hI, nI_0]
  · rw [tu_n (by omega), tu_n (by omega), tu_n (by omega), tu_n (by omega), tu_n (by omega), tu_n (by omega)]
  · rw [sr_n (by omega), sr_n (by omega), sr_n (by omega)]

/-- a new row -/
def w0 : Nat → Int32 := fun j => if j = 4 then nI 1000 else if 10 ≤ j ∧ j < 14 then nI 10 else 0
def pm0 : Nat → Nat := fun i => i
def PDk (b : Nat) (X : va_W) (T : TT) (I : II) : PhiT := fun r X' T' I' => r = none ∧ X' = X ∧ isDk T' b ∧ DV I' b w0 0 0 0 pm0 ∧ Nx b (b + 42) T I T' I'
/-- the desk when its arrays and its ledger are there -/
def DkA (T : TT) (b : Nat) (rb rl : Nat → Option Nat) : Prop := T b = (1, 6, rfD b) ∧ T (b + 1) = (2, 4, nr) ∧ T (b + 2) = (2, 4, nr) ∧ T (b + 3) = (2, 4, nr) ∧ T (b + 4) = (5, 6, rb) ∧ T (b + 5) = (6, 10, rl) ∧ T (b + 6) = (1, 8, rfG (b + 6)) ∧ T (b + 6 + 1) = (2, 20, nr) ∧ T (b + 6 + 2) = (2, 20, nr) ∧ T (b + 6 + 3) = (2, 20, nr)
def DkI (I : II) (b : Nat) : Prop := (∀ j, j < 10 → I b j = if j = 1 then nI 1000 else 0) ∧ (∀ k, k < 4 → I (b + 2) k = 0) ∧ (∀ k, k < 4 → I (b + 3) k = 0) ∧ I (b + 6) 0 = nI 0
theorem rfD_up {b : Nat} {f : Nat → Option Nat} (hf : ∀ j, f j = none) : va_up (va_up (va_up (va_up (va_up (va_up f 10 (some (b + 1))) 11 (some (b + 1 + 1))) 12 (some (b + 1 + 1 + 1))) 13 (some (b + 1 + 1 + 1 + 1))) 14 (some (b + 1 + 1 + 1 + 1 + 1))) 15 (some (b + 1 + 1 + 1 + 1 + 1 + 1)) = rfD b := by
  funext j
  match j with
  | 0 | 1 | 2 | 3 | 4 | 5 | 6 | 7 | 8 | 9 => simp [va_up, rfD, hf]
  | 10 | 11 | 12 | 13 | 14 | 15 => simp [va_up, rfD]
  | j + 16 => simp [va_up, rfD, hf]
/-- a new borrower lies in the array -/
theorem DkA.bor {T T1 : TT} {b n : Nat} {rb rl : Nat → Option Nat} {c : Kd} (h : DkA T b rb rl) (h2 : ∀ q, q < b + 10 → q ≠ b + 4 → T1 q = T q) (h4 : T1 (b + 4) = (5, 6, va_up rb n (some (b + 10 + 2 * n)))) : DkA T1 b (va_up rb n (some (b + 10 + 2 * n))) rl := by
  obtain ⟨a0, a1, a2, a3, a4, a5, a6, a7, a8, a9⟩ := h
  exact ⟨(h2 _ (by omega) (by omega)).trans a0, (h2 _ (by omega) (by omega)).trans a1, (h2 _ (by omega) (by omega)).trans a2, (h2 _ (by omega) (by omega)).trans a3, h4, (h2 _ (by omega) (by omega)).trans a5, (h2 _ (by omega) (by omega)).trans a6, (h2 _ (by omega) (by omega)).trans a7, (h2 _ (by omega) (by omega)).trans a8, (h2 _ (by omega) (by omega)).trans a9⟩
theorem DkA.loan {T T1 : TT} {b n : Nat} {rb rl : Nat → Option Nat} {c : Kd} (h : DkA T b rb rl) (h2 : ∀ q, q < b + 10 → q ≠ b + 5 → T1 q = T q) (h4 : T1 (b + 5) = (6, 10, va_up rl n (some (b + 22 + 2 * n)))) : DkA T1 b rb (va_up rl n (some (b + 22 + 2 * n))) := by
  obtain ⟨a0, a1, a2, a3, a4, a5, a6, a7, a8, a9⟩ := h
  exact ⟨(h2 _ (by omega) (by omega)).trans a0, (h2 _ (by omega) (by omega)).trans a1, (h2 _ (by omega) (by omega)).trans a2, (h2 _ (by omega) (by omega)).trans a3, (h2 _ (by omega) (by omega)).trans a4, h4, (h2 _ (by omega) (by omega)).trans a6, (h2 _ (by omega) (by omega)).trans a7, (h2 _ (by omega) (by omega)).trans a8, (h2 _ (by omega) (by omega)).trans a9⟩
theorem DkI.mv {I I1 : II} {b : Nat} (h : DkI I b) (e : ∀ q, b ≤ q → q < b + 10 → q ≠ b + 1 → I1 q = I q) : DkI I1 b := by
  obtain ⟨h0, h2, h3, h6⟩ := h
  refine ⟨fun j hj => ?_, fun k hk => ?_, fun k hk => ?_, ?_⟩
  · rw [e b (by omega) (by omega) (by omega)]; exact h0 j hj
  · rw [e (b + 2) (by omega) (by omega) (by omega)]; exact h2 k hk
  · rw [e (b + 3) (by omega) (by omega) (by omega)]; exact h3 k hk
  · rw [e (b + 6) (by omega) (by omega) (by omega)]; exact h6
theorem DkI.dv {I : II} {b : Nat} (h : DkI I b) (hp : ∀ j, j < 4 → I (b + 1) j = nI 10) (hl : ∀ i, i < 10 → I (b + 5) i = nI (pm0 i)) : DV I b w0 0 0 0 pm0 := by
  obtain ⟨h0, h2, h3, h6⟩ := h
  refine ⟨fun j a q hA => ?_, ⟨⟨fun i hi => hi, fun i j _ _ e => e⟩, hl⟩, by omega, by omega, by omega⟩
  rcases hA with ⟨rfl, hA⟩ | ⟨k, hk, hA⟩ | ⟨n, hn, -⟩ | ⟨n, k, hn, -⟩ | ⟨s, i, hs, -⟩ | ⟨s, k, hs, -⟩ | ⟨rfl, rfl, rfl⟩ | ⟨e, r, he, -⟩
  · rcases hA with ⟨rfl, rfl⟩ | ⟨rfl, rfl⟩ | ⟨rfl, rfl⟩ | ⟨rfl, rfl⟩ | ⟨rfl, rfl⟩ | ⟨rfl, rfl⟩ | ⟨rfl, rfl⟩ | ⟨rfl, rfl⟩ | ⟨rfl, rfl⟩ <;> exact h0 _ (by decide)
  · rcases hA with ⟨rfl, rfl, rfl⟩ | ⟨rfl, rfl, rfl⟩ | ⟨rfl, rfl, rfl⟩
    · rw [hp _ hk]; simp only [w0]; rw [if_neg (by omega), if_pos (by omega)]
    · rw [h2 _ hk]; simp only [w0]; rw [if_neg (by omega), if_neg (by omega)]
    · rw [h3 _ hk]; simp only [w0]; rw [if_neg (by omega), if_neg (by omega)]
  · omega
  · omega
  · omega
  · omega
  · rw [h6]; exact nI_0
  · omega

theorem DkI.mv5 {I I1 : II} {b : Nat} (h : DkI I b) (e : ∀ q, q ≠ b + 5 → I1 q = I q) : DkI I1 b := by
  obtain ⟨h0, h2, h3, h6⟩ := h
  refine ⟨fun j hj => ?_, fun k hk => ?_, fun k hk => ?_, ?_⟩
  · rw [e b (by omega)]; exact h0 j hj
  · rw [e (b + 2) (by omega)]; exact h2 k hk
  · rw [e (b + 3) (by omega)]; exact h3 k hk
  · rw [e (b + 6) (by omega)]; exact h6

set_option maxHeartbeats 1000000 in
theorem z_desk {g : GG} {X : va_W} {T : TT} {I : II} {b : Nat} (hT : T b = (1, 6, fun _ => none)) (hI : I b = fun _ => 0) (hfu : Fu g T (b + 1)) : McZ g yX3_init cX3_init 2 2 41 244 [.ref b] X T I (b + 1) (PDk b X T I) := by
  refine McZ.of (by decide) rfl (Nat.le_of_ble_eq_true rfl) (fun k hfl hnm hz hao C => ?_)
  refine r_lo (lo' := [(0, _)]) rfl ?_
  refine r_aload_n (pc := 0) C 0 dX3_init_0 rfl rfl ?_
  refine r_obj (pc := 1) C o_X3 (Nat.le_of_ble_eq_true rfl) dX3_init_1 ?_
  refine r_aload_n (pc := 4) C 0 dX3_init_4 rfl rfl ?_
  refine r_iconst (pc := 5) (v := 0) C dX3_init_5 rfl ?_
  refine r_putI (pc := 6) C f_X3_9 hT rfl rfl rfl dX3_init_6 ?_
  refine r_I (u2_z hI) ?_
  refine r_aload_n (pc := 9) C 0 dX3_init_9 rfl rfl ?_
  refine r_sipush (pc := 10) (v := 1000) C dX3_init_10 rfl ?_
  refine r_putI (pc := 13) C f_X3_15 hT rfl rfl rfl dX3_init_13 ?_
  have hI1 : ∀ j, u2 I b 1 (nI 1000) b j = if j = 1 then nI 1000 else 0 := fun j => by
    by_cases e : j = 1
    · rw [e, if_pos rfl]; exact u2_g
    · rw [if_neg e, u2_o e, hI]
  refine r_aload_n (pc := 16) C 0 dX3_init_16 rfl rfl ?_
  refine r_iconst (pc := 17) (v := 0) C dX3_init_17 rfl ?_
  refine r_putI (pc := 18) C f_X3_18 hT rfl rfl rfl dX3_init_18 ?_
  refine r_I (u2_zz ((hI1 2).trans nI_0.symm)) ?_
  refine r_aload_n (pc := 21) C 0 dX3_init_21 rfl rfl ?_
  refine r_iconst (pc := 22) (v := 0) C dX3_init_22 rfl ?_
  refine r_putI (pc := 23) C f_X3_21 hT rfl rfl rfl dX3_init_23 ?_
  refine r_I (u2_zz ((hI1 3).trans nI_0.symm)) ?_
  refine r_aload_n (pc := 26) C 0 dX3_init_26 rfl rfl ?_
  refine r_iconst (pc := 27) (v := 0) C dX3_init_27 rfl ?_
  refine r_putI (pc := 28) C f_X3_24 hT rfl rfl rfl dX3_init_28 ?_
  refine r_I (u2_zz ((hI1 4).trans nI_0.symm)) ?_
  refine r_aload_n (pc := 31) C 0 dX3_init_31 rfl rfl ?_
  refine r_iconst (pc := 32) (v := 0) C dX3_init_32 rfl ?_
  refine r_putI (pc := 33) C f_X3_27 hT rfl rfl rfl dX3_init_33 ?_
  refine r_I (u2_zz ((hI1 5).trans nI_0.symm)) ?_
  refine r_aload_n (pc := 36) C 0 dX3_init_36 rfl rfl ?_
  refine r_iconst (pc := 37) (v := 0) C dX3_init_37 rfl ?_
  refine r_putI (pc := 38) C f_X3_30 hT rfl rfl rfl dX3_init_38 ?_
  refine r_I (u2_zz ((hI1 6).trans nI_0.symm)) ?_
  refine r_aload_n (pc := 41) C 0 dX3_init_41 rfl rfl ?_
  refine r_iconst (pc := 42) (v := 0) C dX3_init_42 rfl ?_
  refine r_putI (pc := 43) C f_X3_33 hT rfl rfl rfl dX3_init_43 ?_
  refine r_I (u2_zz ((hI1 7).trans nI_0.symm)) ?_
  refine r_aload_n (pc := 46) C 0 dX3_init_46 rfl rfl ?_
  refine r_iconst (pc := 47) (v := 0) C dX3_init_47 rfl ?_
  refine r_putI (pc := 48) C f_X3_36 hT rfl rfl rfl dX3_init_48 ?_
  refine r_I (u2_zz ((hI1 8).trans nI_0.symm)) ?_
  refine r_aload_n (pc := 51) C 0 dX3_init_51 rfl rfl ?_
  refine r_iconst (pc := 52) (v := 0) C dX3_init_52 rfl ?_
  refine r_putI (pc := 53) C f_X3_39 hT rfl rfl rfl dX3_init_53 ?_
  refine r_I (u2_zz ((hI1 9).trans nI_0.symm)) ?_
  refine r_aload_n (pc := 56) C 0 dX3_init_56 rfl rfl ?_
  refine r_iconst (pc := 57) (v := 4) C dX3_init_57 rfl ?_
  refine r_newI (pc := 58) (z := b + 1) C (by decide) hfu (by omega) (by decide) dX3_init_58 (fun _ => ?_)
  refine r_putRF (pc := 60) C hnm g_X3_42 ((tu_n (by omega)).trans hT) rfl rfl rfl dX3_init_60 ?_
  refine r_aload_n (pc := 63) C 0 dX3_init_63 rfl rfl ?_
  refine r_iconst (pc := 64) (v := 4) C dX3_init_64 rfl ?_
  refine r_newI (pc := 65) (z := b + 1 + 1) C (by decide) ((hfu.put (show (2 : Nat) ≠ 0 by decide)).re (show (1 : Nat) ≠ 0 by decide)) (by omega) (by decide) dX3_init_65 (fun _ => ?_)
  refine r_putRF (pc := 67) C hnm g_X3_46 ((tu_n (by omega)).trans tu_s) rfl rfl rfl dX3_init_67 ?_
  refine r_aload_n (pc := 70) C 0 dX3_init_70 rfl rfl ?_
  refine r_iconst (pc := 71) (v := 4) C dX3_init_71 rfl ?_
  refine r_newI (pc := 72) (z := b + 1 + 1 + 1) C (by decide) ((((hfu.put (show (2 : Nat) ≠ 0 by decide)).re (show (1 : Nat) ≠ 0 by decide)).put (show (2 : Nat) ≠ 0 by decide)).re (show (1 : Nat) ≠ 0 by decide)) (by omega) (by decide) dX3_init_72 (fun _ => ?_)
  refine r_putRF (pc := 74) C hnm g_X3_49 ((tu_n (by omega)).trans tu_s) rfl rfl rfl dX3_init_74 ?_
  refine r_aload_n (pc := 77) C 0 dX3_init_77 rfl rfl ?_
  refine r_bipush (pc := 78) (v := 6) C dX3_init_78 rfl ?_
  refine r_newRB (pc := 80) (z := b + 1 + 1 + 1 + 1) C (gx 135 (by decide +kernel) (by decide +kernel)) hao (by decide) ((((((hfu.put (show (2 : Nat) ≠ 0 by decide)).re (show (1 : Nat) ≠ 0 by decide)).put (show (2 : Nat) ≠ 0 by decide)).re (show (1 : Nat) ≠ 0 by decide)).put (show (2 : Nat) ≠ 0 by decide)).re (show (1 : Nat) ≠ 0 by decide)) (by omega) (by decide) dX3_init_80 (fun _ => ?_)
  refine r_putRF (pc := 83) C hnm g_X3_54 ((tu_n (by omega)).trans tu_s) rfl rfl rfl dX3_init_83 ?_
  refine r_aload_n (pc := 86) C 0 dX3_init_86 rfl rfl ?_
  refine r_bipush (pc := 87) (v := 10) C dX3_init_87 rfl ?_
  refine r_newRL (pc := 89) (z := b + 1 + 1 + 1 + 1 + 1) C (gx 137 (by decide +kernel) (by decide +kernel)) hao (by decide) ((((((((hfu.put (show (2 : Nat) ≠ 0 by decide)).re (show (1 : Nat) ≠ 0 by decide)).put (show (2 : Nat) ≠ 0 by decide)).re (show (1 : Nat) ≠ 0 by decide)).put (show (2 : Nat) ≠ 0 by decide)).re (show (1 : Nat) ≠ 0 by decide)).put (show (5 : Nat) ≠ 0 by decide)).re (show (1 : Nat) ≠ 0 by decide)) (by omega) (by decide) dX3_init_89 (fun _ => ?_)
  refine r_putRF (pc := 92) C hnm g_X3_60 ((tu_n (by omega)).trans tu_s) rfl rfl rfl dX3_init_92 ?_
  refine r_aload_n (pc := 95) C 0 dX3_init_95 rfl rfl ?_
  refine r_newO (pc := 96) (z := b + 1 + 1 + 1 + 1 + 1 + 1) C n_X3_64 ((((((((((hfu.put (show (2 : Nat) ≠ 0 by decide)).re (show (1 : Nat) ≠ 0 by decide)).put (show (2 : Nat) ≠ 0 by decide)).re (show (1 : Nat) ≠ 0 by decide)).put (show (2 : Nat) ≠ 0 by decide)).re (show (1 : Nat) ≠ 0 by decide)).put (show (5 : Nat) ≠ 0 by decide)).re (show (1 : Nat) ≠ 0 by decide)).put (show (6 : Nat) ≠ 0 by decide)).re (show (1 : Nat) ≠ 0 by decide)) (by omega) (by decide) dX3_init_96 (fun _ => ?_)
  refine r_dup (pc := 99) C dX3_init_99 rfl ?_
  refine r_ctorN (pc := 100) C hfl hao i_X3_66 (z_led (b := b + 6) tu_s sr_s (((((((((((hfu.put (show (2 : Nat) ≠ 0 by decide)).re (show (1 : Nat) ≠ 0 by decide)).put (show (2 : Nat) ≠ 0 by decide)).re (show (1 : Nat) ≠ 0 by decide)).put (show (2 : Nat) ≠ 0 by decide)).re (show (1 : Nat) ≠ 0 by decide)).put (show (5 : Nat) ≠ 0 by decide)).re (show (1 : Nat) ≠ 0 by decide)).put (show (6 : Nat) ≠ 0 by decide)).re (show (1 : Nat) ≠ 0 by decide)).put (show (1 : Nat) ≠ 0 by decide))) (by omega) (As := []) rfl rfl (Nat.le_of_ble_eq_true rfl) (by decide) (by decide) dX3_init_100 (fun r1 X1 T1 I1 e => ?_)
  obtain ⟨e1, e2, t0, t1, t2, t3, j0, hx⟩ := e
  subst r1
  subst X1
  refine r_st (st' := [.ref (b + 6), .ref b]) rfl ?_
  have hb1 := hx b (by omega)
  have hf : ∀ q, q < b + 6 → T1 q = _ := fun q hq => (hx q (by omega)).1
  have hfI : ∀ q, q < b + 6 → I1 q = _ := fun q hq => (hx q (by omega)).2
  refine r_putRF (pc := 103) C hnm g_X3_67 ((hf b (by omega)).trans ((tu_n (by omega)).trans tu_s)) rfl rfl rfl dX3_init_103 ?_
  rw [rfD_up (fun _ => rfl)]
  have hA0 : DkA (tu T1 b (1, 6, rfD b)) b (fun _ => none) (fun _ => none) := by
    refine ⟨tu_s, ?_, ?_, ?_, ?_, ?_, ?_, ?_, ?_, ?_⟩
    · rw [tu_n (by omega), hf _ (by omega)]; simp [tu]
    · rw [tu_n (by omega), hf _ (by omega)]; simp [tu]
    · rw [tu_n (by omega), hf _ (by omega)]; simp [tu]
    · rw [tu_n (by omega), hf _ (by omega)]; simp [tu]
    · rw [tu_n (by omega), hf _ (by omega)]; simp [tu]
    · rw [tu_n (by omega)]; exact t0
    · rw [tu_n (by omega)]; exact t1
    · rw [tu_n (by omega)]; exact t2
    · rw [tu_n (by omega)]; exact t3
  have hI0 : DkI I1 b := by
    refine ⟨fun j _ => ?_, fun k _ => ?_, fun k _ => ?_, j0⟩
    · rw [hfI b (by omega), sr_n (by omega), sr_n (by omega), sr_n (by omega), sr_n (by omega), sr_n (by omega), sr_n (by omega)]
      exact hI1 j
    · rw [hfI (b + 2) (by omega)]; simp [sr]
    · rw [hfI (b + 3) (by omega)]; simp [sr]
  have hX0 : Nx b (b + 10) T I (tu T1 b (1, 6, rfD b)) I1 := fun q hq => by
    obtain ⟨g1, g2⟩ := hx q (by omega)
    rw [tu_n (by omega), g1, g2]
    refine ⟨?_, ?_⟩
    · repeat rw [tu_n (by omega)]
    · repeat rw [sr_n (by omega)]
      rw [u2_r (by omega)]
  generalize tu T1 b (1, 6, rfD b) = T2 at hA0 hX0 ⊢
  refine r_iconst (pc := 106) (v := 0) C dX3_init_106 rfl ?_
  refine r_istore_n (pc := 107) (lo' := [(1, _), (0, _)]) C dX3_init_107 rfl (by decide) rfl ?_
  have loop1 : ∀ (n_ q : Nat) (J : II), 4 - q < n_ → q ≤ 4 → (∀ a, a ≠ b + 1 → J a = I1 a) → (∀ j, j < q → J (b + 1) j = nI 10) → (∀ J' : II, (∀ a, a ≠ b + 1 → J' a = I1 a) → (∀ j, j < 4 → J' (b + 1) j = nI 10) → Go g k 2 (Qm g k (PDk b X T I) 41 244) (0 + 1 + 1 + 1 + 1 + 1 + 1 + 3) (0 + 4 + 4 + 4 + 6 + 10 + 4 + 60) 127 [(0, .ref b)] [] X T2 J') → Go g k 2 (Qm g k (PDk b X T I) 41 244) (0 + 1 + 1 + 1 + 1 + 1 + 1 + 3) (0 + 4 + 4 + 4 + 6 + 10 + 4 + 60) 108 [(0, .ref b), (1, .int (nI q))] [] X T2 J := by
    intro n_
    induction n_ with
    | zero => intro _ _ h_; exact absurd h_ (Nat.not_lt_zero _)
    | succ n_ ih =>
      intro q J hn hq hf1 hf2 kk
      refine r_iload_n (pc := 108) C 1 dX3_init_108 rfl rfl ?_
      refine r_iconst (pc := 109) (v := 4) C dX3_init_109 rfl ?_
      refine r_cgeN (pc := 110) (tgt := 127) C dX3_init_110 rfl (by omega) (by omega) (fun c => ?_) (fun c => ?_)
      · refine r_ls [0] rfl ?_
        exact kk J hf1 (fun j hj => hf2 j (by omega))
      · skip
        refine r_aload_n (pc := 113) C 0 dX3_init_113 rfl rfl ?_
        refine r_getR (pc := 114) (x := b + 1) C f_X3_42 hA0.1 rfl rfl dX3_init_114 ?_
        refine r_iload_n (pc := 117) C 1 dX3_init_117 rfl rfl ?_
        refine r_bipush (pc := 118) (v := 10) C dX3_init_118 rfl ?_
        refine r_iast (pc := 120) (x := q) C hA0.2.1 rfl (by omega) (by decide) dX3_init_120 ?_
        refine r_iincN (pc := 121) (m := 1) (lo' := [(1, _), (0, _)]) C 1 dX3_init_121 rfl rfl (by decide) rfl ?_
        refine r_goto (pc := 124) (tgt := 108) C dX3_init_124 rfl ?_
        refine r_ls [1, 0] rfl ?_
        refine ih (q + 1) _ (by omega) (by omega) (fun a ha => (u2_r ha).trans (hf1 a ha)) (fun j hj => ?_) kk
        by_cases e : j = q
        · rw [e]; exact u2_g
        · rw [u2_o e]; exact hf2 j (by omega)
  refine r_ls [1, 0] rfl ?_
  refine loop1 5 0 I1 (by omega) (by omega) (fun _ _ => rfl) (fun j hj => absurd hj (Nat.not_lt_zero j)) (fun J1 hJ1 hJp => ?_)
  have hI2 : DkI J1 b := hI0.mv (fun q _ _ hq => hJ1 q hq)
  have hX2 : Nx b (b + 10) T I T2 J1 := fun q hq => ⟨(hX0 q hq).1, (hJ1 q (by omega)).trans (hX0 q hq).2⟩
  have hFu2 : Fu g T2 (b + 10) := Fu.ext (b := b) (fun q h1 h2 => hfu q h1 (by omega)) (fun q hq => (hX0 q hq).1) (fun q h1 h2 => ?_)
  rotate_left
  · obtain ⟨a0, a1, a2, a3, a4, a5, a6, a7, a8, a9⟩ := hA0
    obtain e | e | e | e | e | e | e | e | e | e : q = b ∨ q = b + 1 ∨ q = b + 2 ∨ q = b + 3 ∨ q = b + 4 ∨ q = b + 5 ∨ q = b + 6 ∨ q = b + 6 + 1 ∨ q = b + 6 + 2 ∨ q = b + 6 + 3 := by omega
    all_goals first | (rw [e, a0]; exact show (1 : Nat) ≠ 0 by decide) | (rw [e, a1]; exact show (2 : Nat) ≠ 0 by decide) | (rw [e, a2]; exact show (2 : Nat) ≠ 0 by decide) | (rw [e, a3]; exact show (2 : Nat) ≠ 0 by decide) | (rw [e, a4]; exact show (5 : Nat) ≠ 0 by decide) | (rw [e, a5]; exact show (6 : Nat) ≠ 0 by decide) | (rw [e, a6]; exact show (1 : Nat) ≠ 0 by decide) | (rw [e, a7]; exact show (2 : Nat) ≠ 0 by decide) | (rw [e, a8]; exact show (2 : Nat) ≠ 0 by decide) | (rw [e, a9]; exact show (2 : Nat) ≠ 0 by decide)
  refine r_iconst (pc := 127) (v := 0) C dX3_init_127 rfl ?_
  refine r_istore_n (pc := 128) (lo' := [(1, _), (0, _)]) C dX3_init_128 rfl (by decide) rfl ?_
  have loopB : ∀ (n_ q c_ s_ : Nat) (T3 : TT) (J : II) (r_ : Nat → Option Nat), 6 - q < n_ → q ≤ 6 → c_ = 9 + 2 * q → s_ = 92 + 7 * q → DkA T3 b r_ (fun _ => none) → DkI J b → (∀ j, j < 4 → J (b + 1) j = nI 10) → (∀ i, i < q → r_ i = some (b + 10 + 2 * i)) → (∀ i, i < q → T3 (b + 10 + 2 * i) = (1, 4, rfB (b + 10 + 2 * i)) ∧ T3 (b + 10 + 2 * i + 1) = (2, 4, nr)) → Nx b (b + 10 + 2 * q) T I T3 J → Fu g T3 (b + 10 + 2 * q) →  (∀ (T' : TT) (J' : II) (r' : Nat → Option Nat), DkA T' b r' (fun _ => none) → DkI J' b → (∀ j, j < 4 → J' (b + 1) j = nI 10) → (∀ i, i < 6 → r' i = some (b + 10 + 2 * i)) → (∀ i, i < 6 → T' (b + 10 + 2 * i) = (1, 4, rfB (b + 10 + 2 * i)) ∧ T' (b + 10 + 2 * i + 1) = (2, 4, nr)) → Nx b (b + 10 + 2 * 6) T I T' J' → Fu g T' (b + 10 + 2 * 6) →  Go g k 2 (Qm g k (PDk b X T I) 41 244) (9 + 2 * 6) (92 + 7 * 6) 154 [(0, .ref b)] [] X T' J') → Go g k 2 (Qm g k (PDk b X T I) 41 244) c_ s_ 129 [(0, .ref b), (1, .int (nI q))] [] X T3 J := by
    intro n_
    induction n_ with
    | zero => intro _ _ _ _ _ _ h_; exact absurd h_ (Nat.not_lt_zero _)
    | succ n_ ih =>
      intro q c_ s_ T3 J r_ hn hq hc_ hs_ hA hI3 hp3 hr hcl hX3 hF3 kk
      refine r_iload_n (pc := 129) C 1 dX3_init_129 rfl rfl ?_
      refine r_bipush (pc := 130) (v := 6) C dX3_init_130 rfl ?_
      refine r_cgeN (pc := 132) (tgt := 154) C dX3_init_132 rfl (by omega) (by omega) (fun c => ?_) (fun c => ?_)
      · obtain rfl : q = 6 := by omega
        refine r_ls [0] rfl ?_
        subst hc_
        subst hs_
        exact kk T3 J r_ hA hI3 hp3 hr hcl hX3 hF3
      · skip
        refine r_aload_n (pc := 135) C 0 dX3_init_135 rfl rfl ?_
        refine r_getR (pc := 136) (x := b + 4) C f_X3_54 hA.1 rfl rfl dX3_init_136 ?_
        refine r_iload_n (pc := 139) C 1 dX3_init_139 rfl rfl ?_
        refine r_newO (pc := 140) (z := b + 10 + 2 * q) C n_X3_52 hF3 (by omega) ⟨by omega, by omega⟩ dX3_init_140 (fun _ => ?_)
        refine r_dup (pc := 143) C dX3_init_143 rfl ?_
        refine r_ctorN (pc := 144) C hfl hao i_X3_71 (z_bor (b := b + 10 + 2 * q) tu_s sr_s (hF3.put (show (1 : Nat) ≠ 0 by decide))) (by omega) (As := []) rfl rfl (Nat.le_of_ble_eq_true rfl) (by decide) ⟨by omega, by omega⟩ dX3_init_144 (fun r1 X1 T4 J4 e => ?_)
        obtain ⟨e1, e2, t0, t1, hx4⟩ := e
        subst r1
        subst X1
        refine r_st (st' := [.ref (b + 10 + 2 * q), .int (nI q), .ref (b + 4)]) rfl ?_
        have hT4 : ∀ a, a < b + 10 + 2 * q → T4 a = T3 a := fun a ha => (hx4 a (by omega)).1.trans (tu_n (by omega))
        have hJ4 : ∀ a, ¬ (b + 10 + 2 * q ≤ a ∧ a < b + 10 + 2 * q + 2) → J4 a = J a := fun a ha => (hx4 a ha).2.trans (sr_n (by omega))
        refine r_astB (pc := 147) (x := q) C ((hT4 _ (by omega)).trans hA.2.2.2.2.1) t0 ca_X1 rfl (by omega) (by decide) dX3_init_147 ?_
        refine r_iincN (pc := 148) (m := 1) (lo' := [(1, _), (0, _)]) C 1 dX3_init_148 rfl rfl (by decide) rfl ?_
        refine r_goto (pc := 151) (tgt := 129) C dX3_init_151 rfl ?_
        refine r_ls [1, 0] rfl ?_
        refine ih (q + 1) _ _ _ _ (va_up r_ q (some (b + 10 + 2 * q))) (by omega) (by omega) (by omega) (by omega) (hA.bor (c := (0, 0, nr)) (fun a h1 h2 => (tu_n h2).trans (hT4 a (by omega))) tu_s) (hI3.mv (fun a _ h2 _ => hJ4 a (by omega))) (fun j hj => by rw [hJ4 _ (by omega)]; exact hp3 j hj) (fun i hi => ?_) (fun i hi => ?_) (fun a ha => ?_) ?_ kk
        · by_cases e : i = q
          · rw [e]; exact va_up_self _ _ _
          · rw [va_up_ne _ _ e]; exact hr i (by omega)
        · by_cases e : i = q
          · rw [e, tu_n (by omega), tu_n (by omega)]; exact ⟨t0, t1⟩
          · rw [tu_n (by omega), tu_n (by omega), hT4 _ (by omega), hT4 _ (by omega)]; exact hcl i (by omega)
        · rw [tu_n (by omega), hJ4 _ (by omega), (hx4 a (by omega)).1, tu_n (by omega)]
          exact hX3 a (by omega)
        · refine Fu.re ?_ (show (5 : Nat) ≠ 0 by decide)
          refine Fu.ext (b := b + 10 + 2 * q) (fun a h1 h2 => ?_) (fun a ha => rfl) (fun a h1 h2 => ?_)
          · rw [hT4 a h2]; exact hF3 a h1 h2
          · by_cases e : a = b + 10 + 2 * q
            · rw [e, t0]; exact show (1 : Nat) ≠ 0 by decide
            · rw [show a = b + 10 + 2 * q + 1 by omega, t1]; exact show (2 : Nat) ≠ 0 by decide
  refine r_ls [1, 0] rfl ?_
  refine loopB 7 0 _ _ T2 J1 (fun _ => none) (by omega) (by omega) (by omega) (by omega) hA0 hI2 hJp (fun i hi => absurd hi (Nat.not_lt_zero i)) (fun i hi => absurd hi (Nat.not_lt_zero i)) (by exact hX2) (by exact hFu2) (fun T5 J5 rB hA5 hI5 hp5 hr5 hc5 hX5 hF5 => ?_)
  refine r_iconst (pc := 154) (v := 0) C dX3_init_154 rfl ?_
  refine r_istore_n (pc := 155) (lo' := [(1, _), (0, _)]) C dX3_init_155 rfl (by decide) rfl ?_
  have loopL : ∀ (n_ q c_ s_ : Nat) (T3 : TT) (J : II) (r_ : Nat → Option Nat), 10 - q < n_ → q ≤ 10 → c_ = 21 + 2 * q → s_ = 134 + 11 * q → DkA T3 b rB r_ → DkI J b → (∀ j, j < 4 → J (b + 1) j = nI 10) → (∀ i, i < q → r_ i = some (b + 22 + 2 * i)) → (∀ i, i < q → T3 (b + 22 + 2 * i) = (1, 9, rfN (b + 22 + 2 * i)) ∧ T3 (b + 22 + 2 * i + 1) = (2, 4, nr)) → Nx b (b + 22 + 2 * q) T I T3 J → Fu g T3 (b + 22 + 2 * q) → (∀ i, i < 6 → T3 (b + 10 + 2 * i) = (1, 4, rfB (b + 10 + 2 * i)) ∧ T3 (b + 10 + 2 * i + 1) = (2, 4, nr)) → (∀ (T' : TT) (J' : II) (r' : Nat → Option Nat), DkA T' b rB r' → DkI J' b → (∀ j, j < 4 → J' (b + 1) j = nI 10) → (∀ i, i < 10 → r' i = some (b + 22 + 2 * i)) → (∀ i, i < 10 → T' (b + 22 + 2 * i) = (1, 9, rfN (b + 22 + 2 * i)) ∧ T' (b + 22 + 2 * i + 1) = (2, 4, nr)) → Nx b (b + 22 + 2 * 10) T I T' J' → Fu g T' (b + 22 + 2 * 10) → (∀ i, i < 6 → T' (b + 10 + 2 * i) = (1, 4, rfB (b + 10 + 2 * i)) ∧ T' (b + 10 + 2 * i + 1) = (2, 4, nr)) → Go g k 2 (Qm g k (PDk b X T I) 41 244) (21 + 2 * 10) (134 + 11 * 10) 181 [(0, .ref b)] [] X T' J') → Go g k 2 (Qm g k (PDk b X T I) 41 244) c_ s_ 156 [(0, .ref b), (1, .int (nI q))] [] X T3 J := by
    intro n_
    induction n_ with
    | zero => intro _ _ _ _ _ _ h_; exact absurd h_ (Nat.not_lt_zero _)
    | succ n_ ih =>
      intro q c_ s_ T3 J r_ hn hq hc_ hs_ hA hI3 hp3 hr hcl hX3 hF3 hB3 kk
      refine r_iload_n (pc := 156) C 1 dX3_init_156 rfl rfl ?_
      refine r_bipush (pc := 157) (v := 10) C dX3_init_157 rfl ?_
      refine r_cgeN (pc := 159) (tgt := 181) C dX3_init_159 rfl (by omega) (by omega) (fun c => ?_) (fun c => ?_)
      · obtain rfl : q = 10 := by omega
        refine r_ls [0] rfl ?_
        subst hc_
        subst hs_
        exact kk T3 J r_ hA hI3 hp3 hr hcl hX3 hF3 hB3
      · skip
        refine r_aload_n (pc := 162) C 0 dX3_init_162 rfl rfl ?_
        refine r_getR (pc := 163) (x := b + 5) C f_X3_60 hA.1 rfl rfl dX3_init_163 ?_
        refine r_iload_n (pc := 166) C 1 dX3_init_166 rfl rfl ?_
        refine r_newO (pc := 167) (z := b + 22 + 2 * q) C n_X3_58 hF3 (by omega) ⟨by omega, by omega⟩ dX3_init_167 (fun _ => ?_)
        refine r_dup (pc := 170) C dX3_init_170 rfl ?_
        refine r_ctorN (pc := 171) C hfl hao i_X3_72 (z_loan (b := b + 22 + 2 * q) tu_s sr_s (hF3.put (show (1 : Nat) ≠ 0 by decide))) (by omega) (As := []) rfl rfl (Nat.le_of_ble_eq_true rfl) (by decide) ⟨by omega, by omega⟩ dX3_init_171 (fun r1 X1 T4 J4 e => ?_)
        obtain ⟨e1, e2, t0, t1, hx4⟩ := e
        subst r1
        subst X1
        refine r_st (st' := [.ref (b + 22 + 2 * q), .int (nI q), .ref (b + 5)]) rfl ?_
        have hT4 : ∀ a, a < b + 22 + 2 * q → T4 a = T3 a := fun a ha => (hx4 a (by omega)).1.trans (tu_n (by omega))
        have hJ4 : ∀ a, ¬ (b + 22 + 2 * q ≤ a ∧ a < b + 22 + 2 * q + 2) → J4 a = J a := fun a ha => (hx4 a ha).2.trans (sr_n (by omega))
        refine r_astL (pc := 174) (x := q) C ((hT4 _ (by omega)).trans hA.2.2.2.2.2.1) t0 ca_X7 rfl (by omega) (by decide) dX3_init_174 ?_
        refine r_iincN (pc := 175) (m := 1) (lo' := [(1, _), (0, _)]) C 1 dX3_init_175 rfl rfl (by decide) rfl ?_
        refine r_goto (pc := 178) (tgt := 156) C dX3_init_178 rfl ?_
        refine r_ls [1, 0] rfl ?_
        refine ih (q + 1) _ _ _ _ (va_up r_ q (some (b + 22 + 2 * q))) (by omega) (by omega) (by omega) (by omega) (hA.loan (c := (0, 0, nr)) (fun a h1 h2 => (tu_n h2).trans (hT4 a (by omega))) tu_s) (hI3.mv (fun a _ h2 _ => hJ4 a (by omega))) (fun j hj => by rw [hJ4 _ (by omega)]; exact hp3 j hj) (fun i hi => ?_) (fun i hi => ?_) (fun a ha => ?_) ?_ (fun i hi => ⟨by rw [tu_n (by omega), hT4 _ (by omega)]; exact (hB3 i hi).1, by rw [tu_n (by omega), hT4 _ (by omega)]; exact (hB3 i hi).2⟩) kk
        · by_cases e : i = q
          · rw [e]; exact va_up_self _ _ _
          · rw [va_up_ne _ _ e]; exact hr i (by omega)
        · by_cases e : i = q
          · rw [e, tu_n (by omega), tu_n (by omega)]; exact ⟨t0, t1⟩
          · rw [tu_n (by omega), tu_n (by omega), hT4 _ (by omega), hT4 _ (by omega)]; exact hcl i (by omega)
        · rw [tu_n (by omega), hJ4 _ (by omega), (hx4 a (by omega)).1, tu_n (by omega)]
          exact hX3 a (by omega)
        · refine Fu.re ?_ (show (6 : Nat) ≠ 0 by decide)
          refine Fu.ext (b := b + 22 + 2 * q) (fun a h1 h2 => ?_) (fun a ha => rfl) (fun a h1 h2 => ?_)
          · rw [hT4 a h2]; exact hF3 a h1 h2
          · by_cases e : a = b + 22 + 2 * q
            · rw [e, t0]; exact show (1 : Nat) ≠ 0 by decide
            · rw [show a = b + 22 + 2 * q + 1 by omega, t1]; exact show (2 : Nat) ≠ 0 by decide
  refine r_ls [1, 0] rfl ?_
  refine loopL 11 0 _ _ T5 J5 (fun _ => none) (by omega) (by omega) (by omega) (by omega) hA5 hI5 hp5 (fun i hi => absurd hi (Nat.not_lt_zero i)) (fun i hi => absurd hi (Nat.not_lt_zero i)) (by exact hX5) (by exact hF5) hc5 (fun T6 J6 rL hA6 hI6 hp6 hr6 hc6 hX6 hF6 hB6 => ?_)
  obtain ⟨a0, a1, a2, a3, a4, a5, a6, a7, a8, a9⟩ := hA6
  refine r_conv (T' := tu T6 (b + 4) (5, 6, fun i => some (b + 10 + 2 * i))) (I' := J6) (a := b + 4) (by rw [a4]; exact show (5 : Nat) ≠ 0 by decide) (by rw [tu_s]; exact show (5 : Nat) ≠ 0 by decide) (fun q hq => ⟨tu_n hq, rfl⟩) (fun H h => ?_) ?_
  · simp only [cellOf, a4] at h
    simp only [cellOf, tu_s]
    exact h.trans (congrArg some (refs_eq (fun i hi => hr5 i hi)))
  refine r_conv (T' := tu (tu T6 (b + 4) (5, 6, fun i => some (b + 10 + 2 * i))) (b + 5) (8, 10, nr)) (I' := sr J6 (b + 5) (fun i => nI i)) (a := b + 5) (by rw [tu_n (by omega), a5]; exact show (6 : Nat) ≠ 0 by decide) (by rw [tu_s]; exact show (8 : Nat) ≠ 0 by decide) (fun q hq => ⟨tu_n hq, sr_n hq⟩) (fun H h => ?_) ?_
  · simp only [cellOf, tu_n (show b + 5 ≠ b + 4 by omega), a5] at h
    simp only [cellOf, tu_s, sr_s]
    exact h.trans (congrArg some (refs_eq (fun i hi => by rw [hr6 i hi, nI_clamp (by omega)])))
  have hdv : DV (sr J6 (b + 5) (fun i => nI i)) b w0 0 0 0 pm0 := by
    refine DkI.dv (hI6.mv5 (fun q h5 => sr_n h5)) (fun j hj => ?_) (fun i hi => ?_)
    · rw [sr_n (by omega)]; exact hp6 j hj
    · rw [sr_s]; rfl
  refine r_vret (pc := 181) C dX3_init_181 ⟨rfl, rfl, ⟨?_, ?_, ?_, ?_, ?_, tu_s, ?_, ?_, ?_, ?_, fun n hn => ⟨?_, ?_⟩, fun p hp => ⟨?_, ?_⟩⟩, hdv, fun q hq => ⟨?_, ?_⟩⟩ (by decide)
  · rw [tu_n (by omega), tu_n (by omega)]; exact a0
  · rw [tu_n (by omega), tu_n (by omega)]; exact a1
  · rw [tu_n (by omega), tu_n (by omega)]; exact a2
  · rw [tu_n (by omega), tu_n (by omega)]; exact a3
  · rw [tu_n (by omega), tu_s]
  · rw [tu_n (by omega), tu_n (by omega)]; exact a6
  · rw [tu_n (by omega), tu_n (by omega)]; exact a7
  · rw [tu_n (by omega), tu_n (by omega)]; exact a8
  · rw [tu_n (by omega), tu_n (by omega)]; exact a9
  · rw [tu_n (by omega), tu_n (by omega)]; exact (hB6 n hn).1
  · rw [tu_n (by omega), tu_n (by omega)]; exact (hB6 n hn).2
  · rw [tu_n (by omega), tu_n (by omega)]; exact (hc6 p hp).1
  · rw [tu_n (by omega), tu_n (by omega)]; exact (hc6 p hp).2
  · rw [tu_n (by omega), tu_n (by omega)]; exact (hX6 q (by omega)).1
  · rw [sr_n (by omega)]; exact (hX6 q (by omega)).2
