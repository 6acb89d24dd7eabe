/-! Constructors: the history, the reader, the builder, the class, the reference. -/
def PHs (h : Nat) (X : va_W) (T : TT) (I : II) : PhiT := fun r X' T' I' => r = none ∧ X' = X ∧ isHs T' h ∧ I' h 0 = nI 0 ∧ I' h 1 = nI 0 ∧ (∀ i, i < 8 → PmOk I' (h + 2 + 42 * i) pm0) ∧ Nx h (h + 338) T I T' I'

set_option maxHeartbeats 1000000 in
theorem z_hist {g : GG} {X : va_W} {T : TT} {I : II} {h : Nat} (hT : T h = (1, 7, fun _ => none)) (hI : I h = fun _ => 0) (hfu : Fu g T (h + 1)) : McZ g yX5_init cX5_init 2 3 337 2088 [.ref h] X T I (h + 1) (PHs h X T I) := by
  refine McZ.of (by decide) rfl (Nat.le_of_ble_eq_true rfl) (fun k hfl hnm hz hao C => ?_)
  refine r_lo (lo' := [(0, _)]) rfl ?_
  refine r_aload_n (pc := 0) C 0 dX5_init_0 rfl rfl ?_
  refine r_obj (pc := 1) C o_X5 (Nat.le_of_ble_eq_true rfl) dX5_init_1 ?_
  refine r_aload_n (pc := 4) C 0 dX5_init_4 rfl rfl ?_
  refine r_iconst (pc := 5) (v := 0) C dX5_init_5 rfl ?_
  refine r_putI (pc := 6) C f_X5_9 hT rfl rfl rfl dX5_init_6 ?_
  refine r_I (u2_z hI) ?_
  refine r_aload_n (pc := 9) C 0 dX5_init_9 rfl rfl ?_
  refine r_iconst (pc := 10) (v := 0) C dX5_init_10 rfl ?_
  refine r_putI (pc := 11) C f_X5_15 hT rfl rfl rfl dX5_init_11 ?_
  refine r_I (u2_z hI) ?_
  refine r_aload_n (pc := 14) C 0 dX5_init_14 rfl rfl ?_
  refine r_bipush (pc := 15) (v := 8) C dX5_init_15 rfl ?_
  refine r_newRD (pc := 17) (z := h + 1) C (gx 293 (by decide +kernel) (by decide +kernel)) hao (by decide) hfu (by omega) (by decide) dX5_init_17 (fun _ => ?_)
  refine r_putRF (pc := 20) C hnm g_X5_20 ((tu_n (by omega)).trans hT) rfl rfl rfl dX5_init_20 ?_
  rw [show va_up (fun _ => none) 2 (some (h + 1)) = rfH h from by
    funext j
    match j with
    | 0 => rfl
    | 1 => rfl
    | 2 => rfl
    | j + 3 => simp [va_up, rfH]]
  refine r_iconst (pc := 23) (v := 0) C dX5_init_23 rfl ?_
  refine r_istore_n (pc := 24) (lo' := [(1, _), (0, _)]) C dX5_init_24 rfl (by decide) rfl ?_
  have loop : ∀ (n_ q c_ s_ : Nat) (T3 : TT) (J : II) (r_ : Nat → Option Nat), 8 - q < n_ → q ≤ 8 → c_ = 1 + 42 * q → s_ = 8 + 260 * q → T3 h = (1, 7, rfH h) → T3 (h + 1) = (7, 8, r_) → J h = (fun _ => 0) → (∀ i, i < q → r_ i = some (h + 2 + 42 * i)) → (∀ i, i < q → isDk T3 (h + 2 + 42 * i) ∧ PmOk J (h + 2 + 42 * i) pm0) → Nx h (h + 2 + 42 * q) T I T3 J → Fu g T3 (h + 2 + 42 * q) → Go g k 2 (Qm g k (PHs h X T I) 337 2088) c_ s_ 25 [(0, .ref h), (1, .int (nI q))] [] X T3 J := by
    intro n_
    induction n_ with
    | zero => intro _ _ _ _ _ _ h_; exact absurd h_ (Nat.not_lt_zero _)
    | succ n_ ih =>
      intro q c_ s_ T3 J r_ hn hq hc_ hs_ hA hA1 hJ0 hr hcl hX3 hF3
      refine r_iload_n (pc := 25) C 1 dX5_init_25 rfl rfl ?_
      refine r_bipush (pc := 26) (v := 8) C dX5_init_26 rfl ?_
      refine r_cgeN (pc := 28) (tgt := 50) C dX5_init_28 rfl (by omega) (by omega) (fun c => ?_) (fun c => ?_)
      · obtain rfl : q = 8 := by omega
        refine r_conv (T' := tu T3 (h + 1) (7, 8, fun i => some (h + 2 + 42 * i))) (I' := J) (a := h + 1) (by rw [hA1]; exact show (7 : Nat) ≠ 0 by decide) (by rw [tu_s]; exact show (7 : Nat) ≠ 0 by decide) (fun q hq => ⟨tu_n hq, rfl⟩) (fun H h9 => ?_) ?_
        · simp only [cellOf, hA1] at h9
          simp only [cellOf, tu_s]
          exact h9.trans (congrArg some (refs_eq (fun i hi => hr i hi)))
        refine r_vret (pc := 50) C dX5_init_50 ⟨rfl, rfl, ⟨by rw [tu_n (by omega)]; exact hA, tu_s, fun i hi => (hcl i hi).1.mv (fun a h1 h2 => tu_n (by omega))⟩, by rw [hJ0, nI_0], by rw [hJ0, nI_0], fun i hi => (hcl i hi).2, fun a ha => ⟨?_, ?_⟩⟩ ⟨by omega, by omega⟩
        · rw [tu_n (by omega)]; exact (hX3 a (by omega)).1
        · exact (hX3 a (by omega)).2
      · skip
        refine r_aload_n (pc := 31) C 0 dX5_init_31 rfl rfl ?_
        refine r_getR (pc := 32) (x := h + 1) C f_X5_20 hA rfl rfl dX5_init_32 ?_
        refine r_iload_n (pc := 35) C 1 dX5_init_35 rfl rfl ?_
        refine r_newO (pc := 36) (z := h + 2 + 42 * q) C n_X5_18 hF3 (by omega) ⟨by omega, by omega⟩ dX5_init_36 (fun _ => ?_)
        refine r_dup (pc := 39) C dX5_init_39 rfl ?_
        refine r_ctor (pc := 40) C hfl hao i_X5_24 (z_desk (b := h + 2 + 42 * q) tu_s sr_s (hF3.put (show (1 : Nat) ≠ 0 by decide))) (by omega) (As := []) rfl rfl (Nat.le_of_ble_eq_true rfl) (by decide) ⟨by omega, by omega⟩ dX5_init_40 (fun r1 X1 T4 J4 e => ?_)
        obtain ⟨e1, e2, t0, t1, hx4⟩ := e
        subst r1
        subst X1
        refine r_st (st' := [.ref (h + 2 + 42 * q), .int (nI q), .ref (h + 1)]) rfl ?_
        have hT4 : ∀ a, a < h + 2 + 42 * q → T4 a = T3 a := fun a ha => (hx4 a (by omega)).1.trans (tu_n (by omega))
        have hJ4 : ∀ a, ¬ (h + 2 + 42 * q ≤ a ∧ a < h + 2 + 42 * q + 42) → J4 a = J a := fun a ha => (hx4 a ha).2.trans (sr_n (by omega))
        refine r_astD (pc := 43) (x := q) C ((hT4 _ (by omega)).trans hA1) t0.1 ca_X3 rfl (by omega) (by decide) dX5_init_43 ?_
        refine r_iincN (pc := 44) (m := 1) (lo' := [(1, _), (0, _)]) C 1 dX5_init_44 rfl rfl (by decide) rfl ?_
        refine r_goto (pc := 47) (tgt := 25) C dX5_init_47 rfl ?_
        refine r_ls [1, 0] rfl ?_
        refine ih (q + 1) _ _ _ _ (va_up r_ q (some (h + 2 + 42 * q))) (by omega) (by omega) (by omega) (by omega) (by rw [tu_n (by omega), hT4 _ (by omega)]; exact hA) tu_s (by rw [hJ4 _ (by omega)]; exact hJ0) (fun i hi => ?_) (fun i hi => ?_) (fun a ha => ?_) ?_
        · by_cases e : i = q
          · rw [e]; exact va_up_self _ _ _
          · rw [va_up_ne _ _ e]; exact hr i (by omega)
        · by_cases e : i = q
          · rw [e]
            exact ⟨t0.mv (fun a h1 h2 => tu_n (by omega)), t1.pk⟩
          · refine ⟨(hcl i (by omega)).1.mv (fun a h1 h2 => (tu_n (by omega)).trans (hT4 a (by omega))), (hcl i (by omega)).2.mv (hJ4 _ (by omega))⟩
        · rw [tu_n (by omega), hJ4 _ (by omega), (hx4 a (by omega)).1, tu_n (by omega)]
          exact hX3 a (by omega)
        · refine Fu.re ?_ (show (7 : Nat) ≠ 0 by decide)
          refine Fu.ext (b := h + 2 + 42 * q) (fun a h1 h2 => ?_) (fun a ha => rfl) (fun a h1 h2 => (t0.kd a h1 (by omega)).1)
          rw [hT4 a h2]; exact hF3 a h1 h2
  refine r_ls [1, 0] rfl ?_
  refine loop 9 0 _ _ _ _ (fun _ => none) (by omega) (by omega) (by omega) (by omega) tu_s (by rw [tu_n (by omega), tu_s]) (by rw [sr_n (by omega)]; exact hI) (fun i hi => absurd hi (Nat.not_lt_zero i)) (fun i hi => absurd hi (Nat.not_lt_zero i)) (fun a ha => ⟨?_, ?_⟩) ((hfu.put (show (7 : Nat) ≠ 0 by decide)).re (show (1 : Nat) ≠ 0 by decide))
  · rw [tu_n (by omega), tu_n (by omega)]
  · rw [sr_n (by omega)]

def PRd (r0 : Nat) (X : va_W) (T : TT) (I : II) : PhiT := fun r X' T' I' => r = none ∧ X' = X ∧ isRd T' r0 ∧ I' r0 1 = nI 0 ∧ Nx r0 (r0 + 3) T I T' I'

set_option maxHeartbeats 1000000 in
theorem z_read {g : GG} {X : va_W} {T : TT} {I : II} {r : Nat} (hT : T r = (1, 5, fun _ => none)) (hI : I r = fun _ => 0) (hfu : Fu g T (r + 1)) : McZ g yX2_init cX2_init 1 1 2 65 [.ref r] X T I (r + 1) (PRd r X T I) := by
  refine McZ.of (by decide) rfl (Nat.le_of_ble_eq_true rfl) (fun k hfl hnm hz hao C => ?_)
  refine r_lo (lo' := [(0, _)]) rfl ?_
  refine r_aload_n (pc := 0) C 0 dX2_init_0 rfl rfl ?_
  refine r_obj (pc := 1) C o_X2 (Nat.le_of_ble_eq_true rfl) dX2_init_1 ?_
  refine r_aload_n (pc := 4) C 0 dX2_init_4 rfl rfl ?_
  refine r_iconst (pc := 5) (v := 0) C dX2_init_5 rfl ?_
  refine r_putI (pc := 6) C f_X2_9 hT rfl rfl rfl dX2_init_6 ?_
  refine r_I (u2_z hI) ?_
  refine r_aload_n (pc := 9) C 0 dX2_init_9 rfl rfl ?_
  refine r_gets (pc := 10) C C.Z.1.2.1 (gx 313 (by decide +kernel) (by decide +kernel)) dX2_init_10 ?_
  refine r_putRN (pc := 13) C f_X2_21 hT rfl rfl rfl dX2_init_13 ?_
  refine r_aload_n (pc := 16) C 0 dX2_init_16 rfl rfl ?_
  refine r_iconst (pc := 17) (v := 5) C dX2_init_17 rfl ?_
  refine r_newI (pc := 18) (z := r + 1) C (by decide) (hfu.re (show (1 : Nat) ≠ 0 by decide)) (by omega) (by decide) dX2_init_18 (fun _ => ?_)
  refine r_putRF (pc := 20) C hnm g_X2_24 ((tu_n (by omega)).trans tu_s) rfl rfl rfl dX2_init_20 ?_
  refine r_aload_n (pc := 23) C 0 dX2_init_23 rfl rfl ?_
  refine r_bipush (pc := 24) (v := 60) C dX2_init_24 rfl ?_
  refine r_newC (pc := 26) (z := r + 1 + 1) C (by decide) (((hfu.re (show (1 : Nat) ≠ 0 by decide)).put (show (2 : Nat) ≠ 0 by decide)).re (show (1 : Nat) ≠ 0 by decide)) (by omega) (by decide) dX2_init_26 (fun _ => ?_)
  refine r_putRF (pc := 28) C hnm g_X2_28 ((tu_n (by omega)).trans tu_s) rfl rfl rfl dX2_init_28 ?_
  refine r_aload_n (pc := 31) C 0 dX2_init_31 rfl rfl ?_
  refine r_iconst (pc := 32) (v := 0) C dX2_init_32 rfl ?_
  have hI2 : sr (sr I (r + 1) (fun _ => 0)) (r + 1 + 1) (fun _ => 0) r = fun _ => 0 := by rw [sr_n (by omega), sr_n (by omega)]; exact hI
  refine r_putI (pc := 33) C f_X2_32 tu_s rfl rfl rfl dX2_init_33 ?_
  refine r_I (u2_z hI2) ?_
  have hne1 : r + 1 ≠ r := by omega
  have hne2 : r + 1 + 1 ≠ r := by omega
  have hX : ∀ a, ¬ (r ≤ a ∧ a < r + 3) → tu (tu (tu (tu (tu T r (1, 5, va_up (fun _ => none) 1 (some (ga g 10)))) (r + 1) (2, 5, nr)) r (1, 5, va_up (va_up (fun _ => none) 1 (some (ga g 10))) 2 (some (r + 1)))) (r + 1 + 1) (3, 60, nr)) r (1, 5, va_up (va_up (va_up (fun _ => none) 1 (some (ga g 10))) 2 (some (r + 1))) 3 (some (r + 1 + 1))) a = T a ∧ sr (sr I (r + 1) (fun _ => 0)) (r + 1 + 1) (fun _ => 0) a = I a := fun a ha => ⟨by rw [tu_n (by omega), tu_n (by omega), tu_n (by omega), tu_n (by omega), tu_n (by omega)], by rw [sr_n (by omega), sr_n (by omega)]⟩
  have hT1 : tu (tu (tu (tu (tu T r (1, 5, va_up (fun _ => none) 1 (some (ga g 10)))) (r + 1) (2, 5, nr)) r (1, 5, va_up (va_up (fun _ => none) 1 (some (ga g 10))) 2 (some (r + 1)))) (r + 1 + 1) (3, 60, nr)) r (1, 5, va_up (va_up (va_up (fun _ => none) 1 (some (ga g 10))) 2 (some (r + 1))) 3 (some (r + 1 + 1))) (r + 1) = (2, 5, nr) := by rw [tu_n hne1, tu_n (by omega), tu_n hne1, tu_s]
  have hT2 : tu (tu (tu (tu (tu T r (1, 5, va_up (fun _ => none) 1 (some (ga g 10)))) (r + 1) (2, 5, nr)) r (1, 5, va_up (va_up (fun _ => none) 1 (some (ga g 10))) 2 (some (r + 1)))) (r + 1 + 1) (3, 60, nr)) r (1, 5, va_up (va_up (va_up (fun _ => none) 1 (some (ga g 10))) 2 (some (r + 1))) 3 (some (r + 1 + 1))) (r + 1 + 1) = (3, 60, nr) := by rw [tu_n hne2, tu_s]
  have hT0 : tu (tu (tu (tu (tu T r (1, 5, va_up (fun _ => none) 1 (some (ga g 10)))) (r + 1) (2, 5, nr)) r (1, 5, va_up (va_up (fun _ => none) 1 (some (ga g 10))) 2 (some (r + 1)))) (r + 1 + 1) (3, 60, nr)) r (1, 5, va_up (va_up (va_up (fun _ => none) 1 (some (ga g 10))) 2 (some (r + 1))) 3 (some (r + 1 + 1))) r = (1, 5, va_up (va_up (va_up (fun _ => none) 1 (some (ga g 10))) 2 (some (r + 1))) 3 (some (r + 1 + 1))) := tu_s
  generalize tu (tu (tu (tu (tu T r (1, 5, va_up (fun _ => none) 1 (some (ga g 10)))) (r + 1) (2, 5, nr)) r (1, 5, va_up (va_up (fun _ => none) 1 (some (ga g 10))) 2 (some (r + 1)))) (r + 1 + 1) (3, 60, nr)) r (1, 5, va_up (va_up (va_up (fun _ => none) 1 (some (ga g 10))) 2 (some (r + 1))) 3 (some (r + 1 + 1))) = T2 at hX hT0 hT1 hT2 ⊢
  generalize sr (sr I (r + 1) (fun _ => 0)) (r + 1 + 1) (fun _ => 0) = I2 at hX hI2 ⊢
  refine r_conv (T' := tu T2 r (9, 5, rfR r)) (I' := I2) (a := r) (by rw [hT0]; exact show (1 : Nat) ≠ 0 by decide) (by rw [tu_s]; exact show (9 : Nat) ≠ 0 by decide) (fun q hq => ⟨tu_n hq, rfl⟩) (fun H h9 => ?_) ?_
  · have e : cellOf g (tu T2 r (9, 5, rfR r)) I2 r = cellOf g T2 I2 r := by
      rw [cell_obj hT0]
      simp only [cellOf, tu_s, hI2]
      rfl
    rw [e]; exact h9
  refine r_vret (pc := 36) C dX2_init_36 ⟨rfl, rfl, ⟨tu_s, (tu_n (by omega)).trans hT1, (tu_n (by omega)).trans hT2⟩, by rw [hI2, nI_0], fun a ha => ⟨(tu_n (by omega)).trans (hX a ha).1, (hX a ha).2⟩⟩ (by decide)

def PSi (s : Nat) (X : va_W) (T : TT) (I : II) : PhiT := fun r X' T' I' => r = none ∧ X' = X ∧ SB T' I' s (s + 1) 16 [] ∧ Nx s (s + 2) T I T' I'

set_option maxHeartbeats 1000000 in
theorem z_sb5 {g : GG} {X : va_W} {T : TT} {I : II} {s : Nat} (hT : T s = (1, 1, fun _ => none)) (hI : I s = fun _ => 0) (hfu : Fu g T (s + 1)) : McZ g yJ5_init_d00df cJ5_init_d00df 2 1 1 16 [.ref s, .int (nI 16)] X T I (s + 1) (PSi s X T I) := by
  refine McZ.of (by decide) rfl (Nat.le_of_ble_eq_true rfl) (fun k hfl hnm hz hao C => ?_)
  refine r_lo (lo' := [(0, _), (1, _)]) rfl ?_
  refine r_aload_n (pc := 0) C 0 dJ5_init_d00df_0 rfl rfl ?_
  refine r_obj (pc := 1) C o_J5 (Nat.le_of_ble_eq_true rfl) dJ5_init_d00df_1 ?_
  refine r_gets (pc := 4) C C.Z.1.2.2.2.2.1 (gx 344 (by decide +kernel) (by decide +kernel)) dJ5_init_d00df_4 ?_
  refine r_ifeq (pc := 7) (tgt := 25) C dJ5_init_d00df_7 rfl (fun c => absurd c (by decide)) (fun _ => ?_)
  refine r_aload_n (pc := 10) C 0 dJ5_init_d00df_10 rfl rfl ?_
  refine r_iload_n (pc := 11) C 1 dJ5_init_d00df_11 rfl rfl ?_
  refine r_newZ (pc := 12) (z := s + 1) C (by decide) hfu (by omega) (by decide) dJ5_init_d00df_12 (fun _ => ?_)
  refine r_putBR (pc := 14) C f_J5_15 ((tu_n (by omega)).trans hT) rfl rfl rfl dJ5_init_d00df_14 ?_
  refine r_aload_n (pc := 17) C 0 dJ5_init_d00df_17 rfl rfl ?_
  refine r_iconst (pc := 18) (v := 0) C dJ5_init_d00df_18 rfl ?_
  refine r_putBI (pc := 19) C f_J5_22 tu_s rfl rfl rfl dJ5_init_d00df_19 ?_
  have hI2 : sr I (s + 1) (fun _ => 0) s = fun _ => 0 := by rw [sr_n (by omega)]; exact hI
  refine r_I (u2_z hI2) ?_
  refine r_goto (pc := 22) (tgt := 38) C dJ5_init_d00df_22 rfl ?_
  refine r_vret (pc := 38) C dJ5_init_d00df_38 ⟨rfl, rfl, ⟨?_, by rw [tu_n (by omega), tu_s], by rw [hI2, nI_0], by rw [hI2, ← nI_0]; rfl, by show 0 ≤ 16; omega, Or.inl rfl, fun j hj => absurd hj (Nat.not_lt_zero j), by rw [sr_s]; exact sb_fit0⟩, fun q hq => ⟨by rw [tu_n (by omega), tu_n (by omega)], sr_n (by omega)⟩⟩ (by decide)
  rw [tu_s]
  refine congrArg (fun f => ((1, 1, f) : Kd)) (funext fun j => ?_)
  match j with
  | 0 => rfl
  | j + 1 => simp [va_up, rfS]

set_option maxHeartbeats 1000000 in
theorem z_sb {g : GG} {X : va_W} {T : TT} {I : II} {s : Nat} (hT : T s = (1, 1, fun _ => none)) (hI : I s = fun _ => 0) (hfu : Fu g T (s + 1)) : McZ g yJ4_init_da8c8 cJ4_init_da8c8 1 2 1 16 [.ref s] X T I (s + 1) (PSi s X T I) := by
  refine McZ.of (by decide) rfl (Nat.le_of_ble_eq_true rfl) (fun k hfl hnm hz hao C => ?_)
  refine r_lo (lo' := [(0, _)]) rfl ?_
  refine r_aload_n (pc := 0) C 0 dJ4_init_da8c8_0 rfl rfl ?_
  refine r_bipush (pc := 1) (v := 16) C dJ4_init_da8c8_1 rfl ?_
  refine r_ctor (pc := 3) C hfl hao i_J4_1 (z_sb5 hT hI hfu) (by omega) (As := [_]) rfl rfl (Nat.le_of_ble_eq_true rfl) (by decide) (by decide) dJ4_init_da8c8_3 (fun r1 X1 T4 J4 e => ?_)
  obtain ⟨e1, e2, t0, hx4⟩ := e
  subst r1
  subst X1
  refine r_st (st' := []) rfl ?_
  exact r_vret (pc := 6) C dJ4_init_da8c8_6 ⟨rfl, rfl, t0, hx4⟩ (by decide)

/-- the class's new object -/
def NCl (x : Nat) (T : TT) (I : II) : Prop := isCl T x ∧ SB T I (x + 511) (x + 511 + 1) 16 [] ∧ DV I (x + 1) w0 0 0 0 pm0 ∧ PmOk I (x + 43) pm0 ∧ PmOk I (x + 85) pm0 ∧ PmOk I (x + 127) pm0 ∧ (∀ i, i < 8 → PmOk I (x + 169 + 2 + 42 * i) pm0) ∧ I (x + 169) 0 = nI 0 ∧ I (x + 169) 1 = nI 0 ∧ I (x + 507) 1 = nI 0 ∧ I x 8 = nI 0 ∧ I x 9 = nI 0 ∧ I x 10 = -1 ∧ I x 11 = -1
def PCl (g_ : GG) (x : Nat) (X : va_W) (T : TT) (I : II) : PhiT := fun r X' T' I' => r = none ∧ X' = X ∧ NCl x T' I' ∧ Nx x (x + 513) T I T' I' ∧ Fu g_ T' (x + 513)

theorem isHs.mv {T T' : TT} {h : Nat} (hh : isHs T h) (e : ∀ q, h ≤ q → q < h + 338 → T' q = T q) : isHs T' h :=
  ⟨(e _ (by omega) (by omega)).trans hh.1, (e _ (by omega) (by omega)).trans hh.2.1, fun i hi => (hh.2.2 i hi).mv (fun q h1 h2 => e q (by omega) (by omega))⟩
theorem isHs.kd {T : TT} {h : Nat} (hh : isHs T h) (q : Nat) (h1 : h ≤ q) (h2 : q < h + 338) : (T q).1 ≠ 0 ∧ (T q).1 ≠ 4 := by
  by_cases e0 : q = h
  · rw [e0, hh.1]; exact ⟨show (1 : Nat) ≠ 0 by decide, show (1 : Nat) ≠ 4 by decide⟩
  by_cases e1 : q = h + 1
  · rw [e1, hh.2.1]; exact ⟨show (7 : Nat) ≠ 0 by decide, show (7 : Nat) ≠ 4 by decide⟩
  exact (hh.2.2 ((q - h - 2) / 42) (by omega)).kd q (by omega) (by omega)
theorem isRd.mv {T T' : TT} {r : Nat} (hh : isRd T r) (e : ∀ q, r ≤ q → q < r + 3 → T' q = T q) : isRd T' r :=
  ⟨(e _ (by omega) (by omega)).trans hh.1, (e _ (by omega) (by omega)).trans hh.2.1, (e _ (by omega) (by omega)).trans hh.2.2⟩
theorem isRd.kd {T : TT} {r : Nat} (hh : isRd T r) (q : Nat) (h1 : r ≤ q) (h2 : q < r + 3) : (T q).1 ≠ 0 ∧ (T q).1 ≠ 4 := by
  rcases (show q = r ∨ q = r + 1 ∨ q = r + 2 by omega) with e | e | e
  · rw [e, hh.1]; exact ⟨show (9 : Nat) ≠ 0 by decide, show (9 : Nat) ≠ 4 by decide⟩
  · rw [e, hh.2.1]; exact ⟨show (2 : Nat) ≠ 0 by decide, show (2 : Nat) ≠ 4 by decide⟩
  · rw [e, hh.2.2]; exact ⟨show (3 : Nat) ≠ 0 by decide, show (3 : Nat) ≠ 4 by decide⟩
theorem SB.nz2 {T : TT} {I : II} {s m : Nat} {l : List Nat} (h : SB T I s (s + 1) m l) (q : Nat) (h1 : s ≤ q) (h2 : q < s + 2) : (T q).1 ≠ 0 := by
  rcases (show q = s ∨ q = s + 1 by omega) with e | e
  · rw [e, h.1]; exact show (1 : Nat) ≠ 0 by decide
  · rw [e, h.2.1]; exact show (4 : Nat) ≠ 0 by decide
theorem SB.mvx {T T' : TT} {I I' : II} {s m : Nat} {l : List Nat} (h : SB T I s (s + 1) m l) (hT : ∀ q, s ≤ q → T' q = T q) (hI : ∀ q, s ≤ q → I' q = I q) : SB T' I' s (s + 1) m l := by
  obtain ⟨a1, a2, a3, a4, a5, a6, a7, a8⟩ := h
  exact ⟨(hT _ (by omega)).trans a1, (hT _ (by omega)).trans a2, (congrFun (hI _ (by omega)) 1).trans a3, (congrFun (hI _ (by omega)) 3).trans a4, a5, a6, by rw [hI _ (by omega)]; exact a7, by rw [hI _ (by omega)]; exact a8⟩

set_option maxHeartbeats 1000000 in
theorem z_cls {g : GG} {X : va_W} {T : TT} {I : II} {x : Nat} (hT : T x = (1, 10, fun _ => none)) (hI : I x = fun _ => 0) (hfu : Fu g T (x + 1)) : McZ g yX9_init cX9_init 1 4 512 3281 [.ref x] X T I (x + 1) (PCl g x X T I) := by
  refine McZ.of (by decide) rfl (Nat.le_of_ble_eq_true rfl) (fun k hfl hnm hz hao C => ?_)
  refine r_lo (lo' := [(0, _)]) rfl ?_
  refine r_aload_n (pc := 0) C 0 dX9_init_0 rfl rfl ?_
  refine r_obj (pc := 1) C o_X9 (Nat.le_of_ble_eq_true rfl) dX9_init_1 ?_
  refine r_aload_n (pc := 4) C 0 dX9_init_4 rfl rfl ?_
  refine r_newO (pc := 5) (z := x + 1) C n_X9_7 hfu (by omega) (by decide) dX9_init_5 (fun _ => ?_)
  refine r_dup (pc := 8) C dX9_init_8 rfl ?_
  refine r_ctor (pc := 9) C hfl hao i_X9_9 (z_desk (b := x + 1) tu_s sr_s (hfu.put (show (1 : Nat) ≠ 0 by decide))) (by omega) (As := []) rfl rfl (Nat.le_of_ble_eq_true rfl) (by decide) (by decide) dX9_init_9 (fun r1 X1 U1 I1 e => ?_)
  obtain ⟨e1, e2, d1, v1, hx1⟩ := e
  subst r1
  subst X1
  refine r_st (st' := [.ref (x + 1), .ref x]) rfl ?_
  have nx1 : Nx (x + 1) (x + 1 + 42) T I U1 I1 := fun q hq => ⟨(hx1 q hq).1.trans (tu_n (by omega)), (hx1 q hq).2.trans (sr_n (by omega))⟩
  refine r_putRF (pc := 12) C hnm g_X9_10 ((nx1 x (by omega)).1.trans hT) rfl rfl rfl dX9_init_12 ?_
  obtain ⟨T1, hTn1⟩ : ∃ T9, T9 = tu U1 x (1, 10, va_up (fun _ => none) 0 (some (x + 1))) := ⟨_, rfl⟩
  rw [← hTn1]
  have ht1 : ∀ q, q ≠ x → T1 q = U1 q := fun q hq => by rw [hTn1]; exact tu_n hq
  have hx_1 : T1 x = (1, 10, va_up (fun _ => none) 0 (some (x + 1))) := by rw [hTn1]; exact tu_s
  have fu1 : Fu g T1 (x + 1 + 42) := Fu.ext (b := x + 1) (fun q h1 h2 => by
    by_cases e : q = x
    · rw [e, hx_1]; exact show (1 : Nat) ≠ 0 by decide
    · rw [ht1 q e, (nx1 q (by omega)).1]; exact hfu q h1 h2) (fun q _ => rfl) (fun q h1 h2 => by rw [ht1 q (by omega)]; exact (fun q h1 h2 => (d1.kd q h1 h2).1) q h1 h2)
  have xi1 : I1 x = fun _ => 0 := (nx1 x (by omega)).2.trans hI
  refine r_aload_n (pc := 15) C 0 dX9_init_15 rfl rfl ?_
  refine r_newO (pc := 16) (z := x + 1 + 42) C n_X9_7 fu1 (by omega) (by decide) dX9_init_16 (fun _ => ?_)
  refine r_dup (pc := 19) C dX9_init_19 rfl ?_
  refine r_ctor (pc := 20) C hfl hao i_X9_9 (z_desk (b := x + 1 + 42) tu_s sr_s (fu1.put (show (1 : Nat) ≠ 0 by decide))) (by omega) (As := []) rfl rfl (Nat.le_of_ble_eq_true rfl) (by decide) (by decide) dX9_init_20 (fun r1 X1 U2 I2 e => ?_)
  obtain ⟨e1, e2, d2, v2, hx2⟩ := e
  subst r1
  subst X1
  refine r_st (st' := [.ref (x + 1 + 42), .ref x]) rfl ?_
  have nx2 : Nx (x + 1 + 42) (x + 1 + 42 + 42) T1 I1 U2 I2 := fun q hq => ⟨(hx2 q hq).1.trans (tu_n (by omega)), (hx2 q hq).2.trans (sr_n (by omega))⟩
  refine r_putRF (pc := 23) C hnm g_X9_16 ((nx2 x (by omega)).1.trans hx_1) rfl rfl rfl dX9_init_23 ?_
  obtain ⟨T2, hTn2⟩ : ∃ T9, T9 = tu U2 x (1, 10, va_up (va_up (fun _ => none) 0 (some (x + 1))) 1 (some (x + 1 + 42))) := ⟨_, rfl⟩
  rw [← hTn2]
  have ht2 : ∀ q, q ≠ x → T2 q = U2 q := fun q hq => by rw [hTn2]; exact tu_n hq
  have hx_2 : T2 x = (1, 10, va_up (va_up (fun _ => none) 0 (some (x + 1))) 1 (some (x + 1 + 42))) := by rw [hTn2]; exact tu_s
  have fu2 : Fu g T2 (x + 1 + 42 + 42) := Fu.ext (b := x + 1 + 42) (fun q h1 h2 => by
    by_cases e : q = x
    · rw [e, hx_2]; exact show (1 : Nat) ≠ 0 by decide
    · rw [ht2 q e, (nx2 q (by omega)).1]; exact fu1 q h1 h2) (fun q _ => rfl) (fun q h1 h2 => by rw [ht2 q (by omega)]; exact (fun q h1 h2 => (d2.kd q h1 h2).1) q h1 h2)
  have xi2 : I2 x = fun _ => 0 := (nx2 x (by omega)).2.trans xi1
  refine r_aload_n (pc := 26) C 0 dX9_init_26 rfl rfl ?_
  refine r_newO (pc := 27) (z := x + 1 + 42 + 42) C n_X9_7 fu2 (by omega) (by decide) dX9_init_27 (fun _ => ?_)
  refine r_dup (pc := 30) C dX9_init_30 rfl ?_
  refine r_ctor (pc := 31) C hfl hao i_X9_9 (z_desk (b := x + 1 + 42 + 42) tu_s sr_s (fu2.put (show (1 : Nat) ≠ 0 by decide))) (by omega) (As := []) rfl rfl (Nat.le_of_ble_eq_true rfl) (by decide) (by decide) dX9_init_31 (fun r1 X1 U3 I3 e => ?_)
  obtain ⟨e1, e2, d3, v3, hx3⟩ := e
  subst r1
  subst X1
  refine r_st (st' := [.ref (x + 1 + 42 + 42), .ref x]) rfl ?_
  have nx3 : Nx (x + 1 + 42 + 42) (x + 1 + 42 + 42 + 42) T2 I2 U3 I3 := fun q hq => ⟨(hx3 q hq).1.trans (tu_n (by omega)), (hx3 q hq).2.trans (sr_n (by omega))⟩
  refine r_putRF (pc := 34) C hnm g_X9_19 ((nx3 x (by omega)).1.trans hx_2) rfl rfl rfl dX9_init_34 ?_
  obtain ⟨T3, hTn3⟩ : ∃ T9, T9 = tu U3 x (1, 10, va_up (va_up (va_up (fun _ => none) 0 (some (x + 1))) 1 (some (x + 1 + 42))) 2 (some (x + 1 + 42 + 42))) := ⟨_, rfl⟩
  rw [← hTn3]
  have ht3 : ∀ q, q ≠ x → T3 q = U3 q := fun q hq => by rw [hTn3]; exact tu_n hq
  have hx_3 : T3 x = (1, 10, va_up (va_up (va_up (fun _ => none) 0 (some (x + 1))) 1 (some (x + 1 + 42))) 2 (some (x + 1 + 42 + 42))) := by rw [hTn3]; exact tu_s
  have fu3 : Fu g T3 (x + 1 + 42 + 42 + 42) := Fu.ext (b := x + 1 + 42 + 42) (fun q h1 h2 => by
    by_cases e : q = x
    · rw [e, hx_3]; exact show (1 : Nat) ≠ 0 by decide
    · rw [ht3 q e, (nx3 q (by omega)).1]; exact fu2 q h1 h2) (fun q _ => rfl) (fun q h1 h2 => by rw [ht3 q (by omega)]; exact (fun q h1 h2 => (d3.kd q h1 h2).1) q h1 h2)
  have xi3 : I3 x = fun _ => 0 := (nx3 x (by omega)).2.trans xi2
  refine r_aload_n (pc := 37) C 0 dX9_init_37 rfl rfl ?_
  refine r_newO (pc := 38) (z := x + 1 + 42 + 42 + 42) C n_X9_7 fu3 (by omega) (by decide) dX9_init_38 (fun _ => ?_)
  refine r_dup (pc := 41) C dX9_init_41 rfl ?_
  refine r_ctor (pc := 42) C hfl hao i_X9_9 (z_desk (b := x + 1 + 42 + 42 + 42) tu_s sr_s (fu3.put (show (1 : Nat) ≠ 0 by decide))) (by omega) (As := []) rfl rfl (Nat.le_of_ble_eq_true rfl) (by decide) (by decide) dX9_init_42 (fun r1 X1 U4 I4 e => ?_)
  obtain ⟨e1, e2, d4, v4, hx4⟩ := e
  subst r1
  subst X1
  refine r_st (st' := [.ref (x + 1 + 42 + 42 + 42), .ref x]) rfl ?_
  have nx4 : Nx (x + 1 + 42 + 42 + 42) (x + 1 + 42 + 42 + 42 + 42) T3 I3 U4 I4 := fun q hq => ⟨(hx4 q hq).1.trans (tu_n (by omega)), (hx4 q hq).2.trans (sr_n (by omega))⟩
  refine r_putRF (pc := 45) C hnm g_X9_22 ((nx4 x (by omega)).1.trans hx_3) rfl rfl rfl dX9_init_45 ?_
  obtain ⟨T4, hTn4⟩ : ∃ T9, T9 = tu U4 x (1, 10, va_up (va_up (va_up (va_up (fun _ => none) 0 (some (x + 1))) 1 (some (x + 1 + 42))) 2 (some (x + 1 + 42 + 42))) 3 (some (x + 1 + 42 + 42 + 42))) := ⟨_, rfl⟩
  rw [← hTn4]
  have ht4 : ∀ q, q ≠ x → T4 q = U4 q := fun q hq => by rw [hTn4]; exact tu_n hq
  have hx_4 : T4 x = (1, 10, va_up (va_up (va_up (va_up (fun _ => none) 0 (some (x + 1))) 1 (some (x + 1 + 42))) 2 (some (x + 1 + 42 + 42))) 3 (some (x + 1 + 42 + 42 + 42))) := by rw [hTn4]; exact tu_s
  have fu4 : Fu g T4 (x + 1 + 42 + 42 + 42 + 42) := Fu.ext (b := x + 1 + 42 + 42 + 42) (fun q h1 h2 => by
    by_cases e : q = x
    · rw [e, hx_4]; exact show (1 : Nat) ≠ 0 by decide
    · rw [ht4 q e, (nx4 q (by omega)).1]; exact fu3 q h1 h2) (fun q _ => rfl) (fun q h1 h2 => by rw [ht4 q (by omega)]; exact (fun q h1 h2 => (d4.kd q h1 h2).1) q h1 h2)
  have xi4 : I4 x = fun _ => 0 := (nx4 x (by omega)).2.trans xi3
  refine r_aload_n (pc := 48) C 0 dX9_init_48 rfl rfl ?_
  refine r_newO (pc := 49) (z := x + 1 + 42 + 42 + 42 + 42) C n_X9_25 fu4 (by omega) (by decide) dX9_init_49 (fun _ => ?_)
  refine r_dup (pc := 52) C dX9_init_52 rfl ?_
  refine r_ctor (pc := 53) C hfl hao i_X9_27 (z_hist (h := x + 1 + 42 + 42 + 42 + 42) tu_s sr_s (fu4.put (show (1 : Nat) ≠ 0 by decide))) (by omega) (As := []) rfl rfl (Nat.le_of_ble_eq_true rfl) (by decide) (by decide) dX9_init_53 (fun r1 X1 U5 I5 e => ?_)
  obtain ⟨e1, e2, s5, c5, n5, p5, hx5⟩ := e
  subst r1
  subst X1
  refine r_st (st' := [.ref (x + 1 + 42 + 42 + 42 + 42), .ref x]) rfl ?_
  have nx5 : Nx (x + 1 + 42 + 42 + 42 + 42) (x + 1 + 42 + 42 + 42 + 42 + 338) T4 I4 U5 I5 := fun q hq => ⟨(hx5 q hq).1.trans (tu_n (by omega)), (hx5 q hq).2.trans (sr_n (by omega))⟩
  refine r_putRF (pc := 56) C hnm g_X9_28 ((nx5 x (by omega)).1.trans hx_4) rfl rfl rfl dX9_init_56 ?_
  obtain ⟨T5, hTn5⟩ : ∃ T9, T9 = tu U5 x (1, 10, va_up (va_up (va_up (va_up (va_up (fun _ => none) 0 (some (x + 1))) 1 (some (x + 1 + 42))) 2 (some (x + 1 + 42 + 42))) 3 (some (x + 1 + 42 + 42 + 42))) 4 (some (x + 1 + 42 + 42 + 42 + 42))) := ⟨_, rfl⟩
  rw [← hTn5]
  have ht5 : ∀ q, q ≠ x → T5 q = U5 q := fun q hq => by rw [hTn5]; exact tu_n hq
  have hx_5 : T5 x = (1, 10, va_up (va_up (va_up (va_up (va_up (fun _ => none) 0 (some (x + 1))) 1 (some (x + 1 + 42))) 2 (some (x + 1 + 42 + 42))) 3 (some (x + 1 + 42 + 42 + 42))) 4 (some (x + 1 + 42 + 42 + 42 + 42))) := by rw [hTn5]; exact tu_s
  have fu5 : Fu g T5 (x + 1 + 42 + 42 + 42 + 42 + 338) := Fu.ext (b := x + 1 + 42 + 42 + 42 + 42) (fun q h1 h2 => by
    by_cases e : q = x
    · rw [e, hx_5]; exact show (1 : Nat) ≠ 0 by decide
    · rw [ht5 q e, (nx5 q (by omega)).1]; exact fu4 q h1 h2) (fun q _ => rfl) (fun q h1 h2 => by rw [ht5 q (by omega)]; exact (fun q h1 h2 => (s5.kd q h1 h2).1) q h1 h2)
  have xi5 : I5 x = fun _ => 0 := (nx5 x (by omega)).2.trans xi4
  refine r_aload_n (pc := 59) C 0 dX9_init_59 rfl rfl ?_
  refine r_newO (pc := 60) (z := x + 1 + 42 + 42 + 42 + 42 + 338) C n_X9_32 fu5 (by omega) (by decide) dX9_init_60 (fun _ => ?_)
  refine r_dup (pc := 63) C dX9_init_63 rfl ?_
  refine r_ctorN (pc := 64) C hfl hao i_X9_34 (z_read (r := x + 1 + 42 + 42 + 42 + 42 + 338) tu_s sr_s (fu5.put (show (1 : Nat) ≠ 0 by decide))) (by omega) (As := []) rfl rfl (Nat.le_of_ble_eq_true rfl) (by decide) (by decide) dX9_init_64 (fun r1 X1 U6 I6 e => ?_)
  obtain ⟨e1, e2, s6, v6, hx6⟩ := e
  subst r1
  subst X1
  refine r_st (st' := [.ref (x + 1 + 42 + 42 + 42 + 42 + 338), .ref x]) rfl ?_
  have nx6 : Nx (x + 1 + 42 + 42 + 42 + 42 + 338) (x + 1 + 42 + 42 + 42 + 42 + 338 + 3) T5 I5 U6 I6 := fun q hq => ⟨(hx6 q hq).1.trans (tu_n (by omega)), (hx6 q hq).2.trans (sr_n (by omega))⟩
  refine r_putRF (pc := 67) C hnm g_X9_35 ((nx6 x (by omega)).1.trans hx_5) rfl rfl rfl dX9_init_67 ?_
  obtain ⟨T6, hTn6⟩ : ∃ T9, T9 = tu U6 x (1, 10, va_up (va_up (va_up (va_up (va_up (va_up (fun _ => none) 0 (some (x + 1))) 1 (some (x + 1 + 42))) 2 (some (x + 1 + 42 + 42))) 3 (some (x + 1 + 42 + 42 + 42))) 4 (some (x + 1 + 42 + 42 + 42 + 42))) 5 (some (x + 1 + 42 + 42 + 42 + 42 + 338))) := ⟨_, rfl⟩
  rw [← hTn6]
  have ht6 : ∀ q, q ≠ x → T6 q = U6 q := fun q hq => by rw [hTn6]; exact tu_n hq
  have hx_6 : T6 x = (1, 10, va_up (va_up (va_up (va_up (va_up (va_up (fun _ => none) 0 (some (x + 1))) 1 (some (x + 1 + 42))) 2 (some (x + 1 + 42 + 42))) 3 (some (x + 1 + 42 + 42 + 42))) 4 (some (x + 1 + 42 + 42 + 42 + 42))) 5 (some (x + 1 + 42 + 42 + 42 + 42 + 338))) := by rw [hTn6]; exact tu_s
  have fu6 : Fu g T6 (x + 1 + 42 + 42 + 42 + 42 + 338 + 3) := Fu.ext (b := x + 1 + 42 + 42 + 42 + 42 + 338) (fun q h1 h2 => by
    by_cases e : q = x
    · rw [e, hx_6]; exact show (1 : Nat) ≠ 0 by decide
    · rw [ht6 q e, (nx6 q (by omega)).1]; exact fu5 q h1 h2) (fun q _ => rfl) (fun q h1 h2 => by rw [ht6 q (by omega)]; exact (fun q h1 h2 => (s6.kd q h1 h2).1) q h1 h2)
  have xi6 : I6 x = fun _ => 0 := (nx6 x (by omega)).2.trans xi5
  refine r_aload_n (pc := 70) C 0 dX9_init_70 rfl rfl ?_
  refine r_bipush (pc := 71) (v := 60) C dX9_init_71 rfl ?_
  refine r_newC (pc := 73) (z := x + 1 + 42 + 42 + 42 + 42 + 338 + 3) C (by decide) fu6 (by omega) (by decide) dX9_init_73 (fun _ => ?_)
  refine r_putRF (pc := 75) C hnm g_X9_39 ((tu_n (by omega)).trans hx_6) rfl rfl rfl dX9_init_75 ?_
  have fu7 := (fu6.put (n := x + 1 + 42 + 42 + 42 + 42 + 338 + 3) (c := (3, 60, nr)) (show (3 : Nat) ≠ 0 by decide)).re (a := x) (c := (1, 10, va_up (va_up (va_up (va_up (va_up (va_up (va_up (fun _ => none) 0 (some (x + 1))) 1 (some (x + 1 + 42))) 2 (some (x + 1 + 42 + 42))) 3 (some (x + 1 + 42 + 42 + 42))) 4 (some (x + 1 + 42 + 42 + 42 + 42))) 5 (some (x + 1 + 42 + 42 + 42 + 42 + 338))) 6 (some (x + 1 + 42 + 42 + 42 + 42 + 338 + 3)))) (show (1 : Nat) ≠ 0 by decide)
  obtain ⟨T7, hTn7⟩ : ∃ T9, T9 = tu (tu T6 (x + 1 + 42 + 42 + 42 + 42 + 338 + 3) (3, 60, nr)) x (1, 10, va_up (va_up (va_up (va_up (va_up (va_up (va_up (fun _ => none) 0 (some (x + 1))) 1 (some (x + 1 + 42))) 2 (some (x + 1 + 42 + 42))) 3 (some (x + 1 + 42 + 42 + 42))) 4 (some (x + 1 + 42 + 42 + 42 + 42))) 5 (some (x + 1 + 42 + 42 + 42 + 42 + 338))) 6 (some (x + 1 + 42 + 42 + 42 + 42 + 338 + 3))) := ⟨_, rfl⟩
  obtain ⟨I7, hIn7⟩ : ∃ I9, I9 = sr I6 (x + 1 + 42 + 42 + 42 + 42 + 338 + 3) (fun _ => 0) := ⟨_, rfl⟩
  rw [← hTn7] at fu7
  rw [← hTn7, ← hIn7]
  have ht7 : ∀ q, q ≠ x → q ≠ x + 1 + 42 + 42 + 42 + 42 + 338 + 3 → T7 q = T6 q := fun q h1 h2 => by rw [hTn7, tu_n h1, tu_n h2]
  have hi7 : ∀ q, q ≠ x + 1 + 42 + 42 + 42 + 42 + 338 + 3 → I7 q = I6 q := fun q h2 => by rw [hIn7, sr_n h2]
  have hx_7 : T7 x = (1, 10, va_up (va_up (va_up (va_up (va_up (va_up (va_up (fun _ => none) 0 (some (x + 1))) 1 (some (x + 1 + 42))) 2 (some (x + 1 + 42 + 42))) 3 (some (x + 1 + 42 + 42 + 42))) 4 (some (x + 1 + 42 + 42 + 42 + 42))) 5 (some (x + 1 + 42 + 42 + 42 + 42 + 338))) 6 (some (x + 1 + 42 + 42 + 42 + 42 + 338 + 3))) := by rw [hTn7]; exact tu_s
  have hb7 : T7 (x + 1 + 42 + 42 + 42 + 42 + 338 + 3) = (3, 60, nr) := by rw [hTn7, tu_n (by omega)]; exact tu_s
  have xi7 : I7 x = fun _ => 0 := (hi7 x (by omega)).trans xi6
  refine r_aload_n (pc := 78) C 0 dX9_init_78 rfl rfl ?_
  refine r_newO (pc := 79) (z := x + 1 + 42 + 42 + 42 + 42 + 338 + 3 + 1) C n_X9_43 fu7 (by omega) (by decide) dX9_init_79 (fun _ => ?_)
  refine r_dup (pc := 82) C dX9_init_82 rfl ?_
  refine r_ctor (pc := 83) C hfl hao i_X9_45 (z_sb (s := x + 1 + 42 + 42 + 42 + 42 + 338 + 3 + 1) tu_s sr_s (fu7.put (show (1 : Nat) ≠ 0 by decide))) (by omega) (As := []) rfl rfl (Nat.le_of_ble_eq_true rfl) (by decide) (by decide) dX9_init_83 (fun r1 X1 U8 I8 e => ?_)
  obtain ⟨e1, e2, s8, hx8⟩ := e
  subst r1
  subst X1
  refine r_st (st' := [.ref (x + 1 + 42 + 42 + 42 + 42 + 338 + 3 + 1), .ref x]) rfl ?_
  have nx8 : Nx (x + 1 + 42 + 42 + 42 + 42 + 338 + 3 + 1) (x + 1 + 42 + 42 + 42 + 42 + 338 + 3 + 1 + 2) T7 I7 U8 I8 := fun q hq => ⟨(hx8 q hq).1.trans (tu_n (by omega)), (hx8 q hq).2.trans (sr_n (by omega))⟩
  refine r_putRF (pc := 86) C hnm g_X9_46 ((nx8 x (by omega)).1.trans hx_7) rfl rfl rfl dX9_init_86 ?_
  obtain ⟨T8, hTn8⟩ : ∃ T9, T9 = tu U8 x (1, 10, va_up (va_up (va_up (va_up (va_up (va_up (va_up (va_up (fun _ => none) 0 (some (x + 1))) 1 (some (x + 1 + 42))) 2 (some (x + 1 + 42 + 42))) 3 (some (x + 1 + 42 + 42 + 42))) 4 (some (x + 1 + 42 + 42 + 42 + 42))) 5 (some (x + 1 + 42 + 42 + 42 + 42 + 338))) 6 (some (x + 1 + 42 + 42 + 42 + 42 + 338 + 3))) 7 (some (x + 1 + 42 + 42 + 42 + 42 + 338 + 3 + 1))) := ⟨_, rfl⟩
  rw [← hTn8]
  have ht8 : ∀ q, q ≠ x → T8 q = U8 q := fun q hq => by rw [hTn8]; exact tu_n hq
  have hx_8 : T8 x = (1, 10, va_up (va_up (va_up (va_up (va_up (va_up (va_up (va_up (fun _ => none) 0 (some (x + 1))) 1 (some (x + 1 + 42))) 2 (some (x + 1 + 42 + 42))) 3 (some (x + 1 + 42 + 42 + 42))) 4 (some (x + 1 + 42 + 42 + 42 + 42))) 5 (some (x + 1 + 42 + 42 + 42 + 42 + 338))) 6 (some (x + 1 + 42 + 42 + 42 + 42 + 338 + 3))) 7 (some (x + 1 + 42 + 42 + 42 + 42 + 338 + 3 + 1))) := by rw [hTn8]; exact tu_s
  have fu8 : Fu g T8 (x + 1 + 42 + 42 + 42 + 42 + 338 + 3 + 1 + 2) := Fu.ext (b := x + 1 + 42 + 42 + 42 + 42 + 338 + 3 + 1) (fun q h1 h2 => by
    by_cases e : q = x
    · rw [e, hx_8]; exact show (1 : Nat) ≠ 0 by decide
    · rw [ht8 q e, (nx8 q (by omega)).1]; exact fu7 q h1 h2) (fun q _ => rfl) (fun q h1 h2 => by rw [ht8 q (by omega)]; exact s8.nz2 q h1 h2)
  have xi8 : I8 x = fun _ => 0 := (nx8 x (by omega)).2.trans xi7
  refine r_aload_n (pc := 89) C 0 dX9_init_89 rfl rfl ?_
  refine r_iconst (pc := 90) (v := 0) C dX9_init_90 rfl ?_
  refine r_putI (pc := 91) C f_X9_50 hx_8 rfl rfl rfl dX9_init_91 ?_
  refine r_I (u2_z xi8) ?_
  refine r_aload_n (pc := 94) C 0 dX9_init_94 rfl rfl ?_
  refine r_iconst (pc := 95) (v := 0) C dX9_init_95 rfl ?_
  refine r_putI (pc := 96) C f_X9_54 hx_8 rfl rfl rfl dX9_init_96 ?_
  refine r_I (u2_z xi8) ?_
  refine r_aload_n (pc := 99) C 0 dX9_init_99 rfl rfl ?_
  refine r_iconstm (pc := 100) C dX9_init_100 rfl ?_
  refine r_putI (pc := 101) C f_X9_58 hx_8 rfl rfl rfl dX9_init_101 ?_
  refine r_aload_n (pc := 104) C 0 dX9_init_104 rfl rfl ?_
  refine r_iconstm (pc := 105) C dX9_init_105 rfl ?_
  refine r_putI (pc := 106) C f_X9_61 hx_8 rfl rfl rfl dX9_init_106 ?_
  have a7 : ∀ q, x < q → q < x + 511 → T8 q = T7 q ∧ I8 q = I7 q := fun q h1 h2 => ⟨(ht8 q (by omega)).trans (nx8 q (by omega)).1, (nx8 q (by omega)).2⟩
  have a6 : ∀ q, x < q → q < x + 510 → T8 q = T6 q ∧ I8 q = I6 q := fun q h1 h2 => ⟨(a7 q h1 (by omega)).1.trans (ht7 q (by omega) (by omega)), (a7 q h1 (by omega)).2.trans (hi7 q (by omega))⟩
  have a5 : ∀ q, x < q → q < x + 507 → T8 q = T5 q ∧ I8 q = I5 q := fun q h1 h2 => ⟨(a6 q h1 (by omega)).1.trans ((ht6 q (by omega)).trans (nx6 q (by omega)).1), (a6 q h1 (by omega)).2.trans (nx6 q (by omega)).2⟩
  have a4 : ∀ q, x < q → q < x + 169 → T8 q = T4 q ∧ I8 q = I4 q := fun q h1 h2 => ⟨(a5 q h1 (by omega)).1.trans ((ht5 q (by omega)).trans (nx5 q (by omega)).1), (a5 q h1 (by omega)).2.trans (nx5 q (by omega)).2⟩
  have a3 : ∀ q, x < q → q < x + 127 → T8 q = T3 q ∧ I8 q = I3 q := fun q h1 h2 => ⟨(a4 q h1 (by omega)).1.trans ((ht4 q (by omega)).trans (nx4 q (by omega)).1), (a4 q h1 (by omega)).2.trans (nx4 q (by omega)).2⟩
  have a2 : ∀ q, x < q → q < x + 85 → T8 q = T2 q ∧ I8 q = I2 q := fun q h1 h2 => ⟨(a3 q h1 (by omega)).1.trans ((ht3 q (by omega)).trans (nx3 q (by omega)).1), (a3 q h1 (by omega)).2.trans (nx3 q (by omega)).2⟩
  have a1 : ∀ q, x < q → q < x + 43 → T8 q = T1 q ∧ I8 q = I1 q := fun q h1 h2 => ⟨(a2 q h1 (by omega)).1.trans ((ht2 q (by omega)).trans (nx2 q (by omega)).1), (a2 q h1 (by omega)).2.trans (nx2 q (by omega)).2⟩
  have hF : ∀ q, ¬ (x ≤ q ∧ q < x + 513) → T8 q = T q ∧ I8 q = I q := fun q hq => by
    rw [ht8 q (by omega), (nx8 q (by omega)).1, (nx8 q (by omega)).2, ht7 q (by omega) (by omega), hi7 q (by omega), ht6 q (by omega), (nx6 q (by omega)).1, (nx6 q (by omega)).2, ht5 q (by omega), (nx5 q (by omega)).1, (nx5 q (by omega)).2, ht4 q (by omega), (nx4 q (by omega)).1, (nx4 q (by omega)).2, ht3 q (by omega), (nx3 q (by omega)).1, (nx3 q (by omega)).2, ht2 q (by omega), (nx2 q (by omega)).1, (nx2 q (by omega)).2, ht1 q (by omega)]
    exact nx1 q (by omega)
  have hU : ∀ q, q ≠ x → u2 (u2 I8 x 10 (-1)) x 11 (-1) q = I8 q := fun q hq => (u2_r hq).trans (u2_r hq)
  have hIx : ∀ j, j ≠ 10 → j ≠ 11 → u2 (u2 I8 x 10 (-1)) x 11 (-1) x j = 0 := fun j h1 h2 => by rw [u2_o h2, u2_o h1, xi8]
  have hI0 := hU
  have hrf : ∀ f : Nat → Option Nat, f = rfC x → T8 x = (1, 10, f) → T8 x = (1, 10, rfC x) := fun f e h => e ▸ h
  refine r_vret (pc := 109) C dX9_init_109 ⟨rfl, rfl, ⟨⟨hrf _ ?_ hx_8, d1.mv (fun q h1 h2 => (a1 q (by omega) (by omega)).1.trans (ht1 q (by omega))), d2.mv (fun q h1 h2 => (a2 q (by omega) (by omega)).1.trans (ht2 q (by omega))), d3.mv (fun q h1 h2 => (a3 q (by omega) (by omega)).1.trans (ht3 q (by omega))), d4.mv (fun q h1 h2 => (a4 q (by omega) (by omega)).1.trans (ht4 q (by omega))), s5.mv (fun q h1 h2 => (a5 q (by omega) (by omega)).1.trans (ht5 q (by omega))), s6.mv (fun q h1 h2 => (a6 q (by omega) (by omega)).1.trans (ht6 q (by omega))), (a7 _ (by omega) (by omega)).1.trans hb7⟩, s8.mvx (fun q h1 => ht8 q (by omega)) (fun q h1 => hU q (by omega)), v1.mv (fun q hq => (hU q (by omega)).trans (a1 q (by omega) (by omega)).2), v2.pk.mv ((hU _ (by omega)).trans (a2 _ (by omega) (by omega)).2), v3.pk.mv ((hU _ (by omega)).trans (a3 _ (by omega) (by omega)).2), v4.pk.mv ((hU _ (by omega)).trans (a4 _ (by omega) (by omega)).2), fun i hi => (p5 i hi).mv ((hU _ (by omega)).trans (a5 _ (by omega) (by omega)).2), (congrFun ((hU _ (by omega)).trans (a5 _ (by omega) (by omega)).2) 0).trans c5, (congrFun ((hU _ (by omega)).trans (a5 _ (by omega) (by omega)).2) 1).trans n5, (congrFun ((hU _ (by omega)).trans (a6 _ (by omega) (by omega)).2) 1).trans v6, (hIx 8 (by decide) (by decide)).trans nI_0.symm, (hIx 9 (by decide) (by decide)).trans nI_0.symm, (u2_o (by decide)).trans u2_g, u2_g⟩, fun q hq => ⟨(hF q hq).1, (hU q (by omega)).trans (hF q hq).2⟩, fu8⟩ (by decide)
  funext j
  match j with
  | 0 | 1 | 2 | 3 | 4 | 5 | 6 | 7 => simp [va_up, rfC]
  | j + 8 => simp [va_up, rfC]

/-- the reference's new object -/
def NMd (M : Nat) (T : TT) (I : II) : Prop := isMd T M ∧ I (M + 1) = w0 ∧ (∀ j, j ≠ 13 → j ≠ 14 → I M j = 0) ∧ I M 13 = -1 ∧ I M 14 = -1
def PMd (g : GG) (M : Nat) (X : va_W) (T : TT) (I : II) : PhiT := fun r X' T' I' => r = none ∧ X' = X ∧ NMd M T' I' ∧ Nx M (M + 8) T I T' I' ∧ Fu g T' (M + 8)
def w1 (q : Nat) : Nat → Int32 := fun j => if j = 4 then nI 1000 else if 10 ≤ j ∧ j < 10 + q then nI 10 else 0
theorem w1_s {q : Nat} : upd (w1 q) (10 + q) (nI 10) = w1 (q + 1) := by
  funext j
  simp only [upd, w1]
  by_cases h4 : j = 4
  · rw [if_pos h4, if_pos h4, if_neg (by omega)]
  · rw [if_neg h4, if_neg h4]
    by_cases e : j = 10 + q
    · rw [if_pos e, if_pos (by omega)]
    · rw [if_neg e]
      by_cases e2 : 10 ≤ j ∧ j < 10 + q
      · rw [if_pos e2, if_pos (by omega)]
      · rw [if_neg e2, if_neg (by omega)]
theorem w1_0 : upd (fun _ => 0) 4 (nI 1000) = w1 0 := by
  funext j
  simp only [upd, w1]
  by_cases h4 : j = 4
  · rw [if_pos h4, if_pos h4]
  · rw [if_neg h4, if_neg h4, if_neg (by omega)]
theorem w1_4 : w1 4 = w0 := rfl
theorem rfM_up {M : Nat} : va_up (va_up (va_up (va_up (va_up (va_up (va_up (fun _ => none) 1 (some (M + 1))) 2 (some (M + 1 + 1))) 3 (some (M + 1 + 1 + 1))) 4 (some (M + 1 + 1 + 1 + 1))) 8 (some (M + 1 + 1 + 1 + 1 + 1))) 10 (some (M + 1 + 1 + 1 + 1 + 1 + 1))) 15 (some (M + 1 + 1 + 1 + 1 + 1 + 1 + 1)) = rfM M := by
  funext j
  match j with
  | 0 | 1 | 2 | 3 | 4 | 5 | 6 | 7 | 8 | 9 | 10 | 11 | 12 | 13 | 14 | 15 => simp [va_up, rfM]
  | j + 16 => simp [va_up, rfM]

def NMq (M : Nat) (T : TT) (I : II) (w : Nat → Int32) : Prop := isMd T M ∧ I (M + 1) = w ∧ (∀ j, j ≠ 13 → j ≠ 14 → I M j = 0) ∧ I M 13 = -1 ∧ I M 14 = -1
/-- the store gets names -/
theorem r_genTI {g : GG} {k : KK} {nL : Nat} {Q : State → Prop} {cells slots pc : Nat} {lo : List (Nat × Value)} {st : List Value} {X : va_W} {T : TT} {I : II} (P : TT → II → Prop) (h : P T I) (kk : ∀ T' I', P T' I' → Go g k nL Q cells slots pc lo st X T' I') : Go g k nL Q cells slots pc lo st X T I := kk T I h

set_option maxHeartbeats 1000000 in
theorem z_mod {g : GG} {X : va_W} {T : TT} {I : II} {M : Nat} (hT : T M = (1, 11, fun _ => none)) (hI : I M = fun _ => 0) (hfu : Fu g T (M + 1)) : McZ g yX10_init cX10_init 2 1 7 2563 [.ref M] X T I (M + 1) (PMd g M X T I) := by
  refine McZ.of (by decide) rfl (Nat.le_of_ble_eq_true rfl) (fun k hfl hnm hz hao C => ?_)
  refine r_lo (lo' := [(0, _)]) rfl ?_
  refine r_aload_n (pc := 0) C 0 dX10_init_0 rfl rfl ?_
  refine r_obj (pc := 1) C o_X10 (Nat.le_of_ble_eq_true rfl) dX10_init_1 ?_
  refine r_aload_n (pc := 4) C 0 dX10_init_4 rfl rfl ?_
  refine r_sipush (pc := 5) (v := 218) C dX10_init_5 rfl ?_
  refine r_newI (pc := 8) (z := M + 1) C (by decide) hfu (by omega) (by decide) dX10_init_8 (fun _ => ?_)
  refine r_putRF (pc := 10) C hnm g_X10_13 ((tu_n (by omega)).trans hT) rfl rfl rfl dX10_init_10 ?_
  refine r_aload_n (pc := 13) C 0 dX10_init_13 rfl rfl ?_
  refine r_sipush (pc := 14) (v := 1744) C dX10_init_14 rfl ?_
  refine r_newI (pc := 17) (z := M + 1 + 1) C (by decide) ((hfu.put (show (2 : Nat) ≠ 0 by decide)).re (show (1 : Nat) ≠ 0 by decide)) (by omega) (by decide) dX10_init_17 (fun _ => ?_)
  refine r_putRF (pc := 19) C hnm g_X10_17 ((tu_n (by omega)).trans tu_s) rfl rfl rfl dX10_init_19 ?_
  refine r_aload_n (pc := 22) C 0 dX10_init_22 rfl rfl ?_
  refine r_sipush (pc := 23) (v := 218) C dX10_init_23 rfl ?_
  refine r_newI (pc := 26) (z := M + 1 + 1 + 1) C (by decide) ((((hfu.put (show (2 : Nat) ≠ 0 by decide)).re (show (1 : Nat) ≠ 0 by decide)).put (show (2 : Nat) ≠ 0 by decide)).re (show (1 : Nat) ≠ 0 by decide)) (by omega) (by decide) dX10_init_26 (fun _ => ?_)
  refine r_putRF (pc := 28) C hnm g_X10_20 ((tu_n (by omega)).trans tu_s) rfl rfl rfl dX10_init_28 ?_
  refine r_aload_n (pc := 31) C 0 dX10_init_31 rfl rfl ?_
  refine r_sipush (pc := 32) (v := 218) C dX10_init_32 rfl ?_
  refine r_newI (pc := 35) (z := M + 1 + 1 + 1 + 1) C (by decide) ((((((hfu.put (show (2 : Nat) ≠ 0 by decide)).re (show (1 : Nat) ≠ 0 by decide)).put (show (2 : Nat) ≠ 0 by decide)).re (show (1 : Nat) ≠ 0 by decide)).put (show (2 : Nat) ≠ 0 by decide)).re (show (1 : Nat) ≠ 0 by decide)) (by omega) (by decide) dX10_init_35 (fun _ => ?_)
  refine r_putRF (pc := 37) C hnm g_X10_23 ((tu_n (by omega)).trans tu_s) rfl rfl rfl dX10_init_37 ?_
  refine r_aload_n (pc := 40) C 0 dX10_init_40 rfl rfl ?_
  refine r_bipush (pc := 41) (v := 100) C dX10_init_41 rfl ?_
  refine r_newC (pc := 43) (z := M + 1 + 1 + 1 + 1 + 1) C (by decide) ((((((((hfu.put (show (2 : Nat) ≠ 0 by decide)).re (show (1 : Nat) ≠ 0 by decide)).put (show (2 : Nat) ≠ 0 by decide)).re (show (1 : Nat) ≠ 0 by decide)).put (show (2 : Nat) ≠ 0 by decide)).re (show (1 : Nat) ≠ 0 by decide)).put (show (2 : Nat) ≠ 0 by decide)).re (show (1 : Nat) ≠ 0 by decide)) (by omega) (by decide) dX10_init_43 (fun _ => ?_)
  refine r_putRF (pc := 45) C hnm g_X10_26 ((tu_n (by omega)).trans tu_s) rfl rfl rfl dX10_init_45 ?_
  refine r_aload_n (pc := 48) C 0 dX10_init_48 rfl rfl ?_
  refine r_bipush (pc := 49) (v := 60) C dX10_init_49 rfl ?_
  refine r_newC (pc := 51) (z := M + 1 + 1 + 1 + 1 + 1 + 1) C (by decide) ((((((((((hfu.put (show (2 : Nat) ≠ 0 by decide)).re (show (1 : Nat) ≠ 0 by decide)).put (show (2 : Nat) ≠ 0 by decide)).re (show (1 : Nat) ≠ 0 by decide)).put (show (2 : Nat) ≠ 0 by decide)).re (show (1 : Nat) ≠ 0 by decide)).put (show (2 : Nat) ≠ 0 by decide)).re (show (1 : Nat) ≠ 0 by decide)).put (show (3 : Nat) ≠ 0 by decide)).re (show (1 : Nat) ≠ 0 by decide)) (by omega) (by decide) dX10_init_51 (fun _ => ?_)
  refine r_putRF (pc := 53) C hnm g_X10_30 ((tu_n (by omega)).trans tu_s) rfl rfl rfl dX10_init_53 ?_
  refine r_aload_n (pc := 56) C 0 dX10_init_56 rfl rfl ?_
  refine r_iconstm (pc := 57) C dX10_init_57 rfl ?_
  refine r_putI (pc := 58) C f_X10_33 tu_s rfl rfl rfl dX10_init_58 ?_
  refine r_aload_n (pc := 61) C 0 dX10_init_61 rfl rfl ?_
  refine r_iconstm (pc := 62) C dX10_init_62 rfl ?_
  refine r_putI (pc := 63) C f_X10_36 tu_s rfl rfl rfl dX10_init_63 ?_
  refine r_aload_n (pc := 66) C 0 dX10_init_66 rfl rfl ?_
  refine r_iconst (pc := 67) (v := 5) C dX10_init_67 rfl ?_
  refine r_newI (pc := 68) (z := M + 1 + 1 + 1 + 1 + 1 + 1 + 1) C (by decide) ((((((((((((hfu.put (show (2 : Nat) ≠ 0 by decide)).re (show (1 : Nat) ≠ 0 by decide)).put (show (2 : Nat) ≠ 0 by decide)).re (show (1 : Nat) ≠ 0 by decide)).put (show (2 : Nat) ≠ 0 by decide)).re (show (1 : Nat) ≠ 0 by decide)).put (show (2 : Nat) ≠ 0 by decide)).re (show (1 : Nat) ≠ 0 by decide)).put (show (3 : Nat) ≠ 0 by decide)).re (show (1 : Nat) ≠ 0 by decide)).put (show (3 : Nat) ≠ 0 by decide)).re (show (1 : Nat) ≠ 0 by decide)) (by omega) (by decide) dX10_init_68 (fun _ => ?_)
  refine r_putRF (pc := 70) C hnm g_X10_39 ((tu_n (by omega)).trans tu_s) rfl rfl rfl dX10_init_70 ?_
  rw [rfM_up]
  refine r_genTI (fun T8 I8 => NMq M T8 I8 (fun _ => 0) ∧ Nx M (M + 8) T I T8 I8 ∧ Fu g T8 (M + 8)) ⟨⟨⟨tu_s, by simp [tu], by simp [tu], by simp [tu], by simp [tu], by simp [tu], by simp [tu], by simp [tu]⟩, ?_, fun j h1 h2 => ?_, ?_, ?_⟩, fun q hq => ⟨?_, ?_⟩, ?_⟩ (fun T8 I8 h8 => ?_)
  · simp [sr, u2]
  · rw [sr_n (by omega), u2_o h2, u2_o h1]
    repeat rw [sr_n (by omega)]
    rw [hI]
  · rw [sr_n (by omega), u2_o (by decide)]; exact u2_g
  · rw [sr_n (by omega)]; exact u2_g
  · repeat rw [tu_n (by omega)]
  · rw [sr_n (by omega), u2_r (by omega), u2_r (by omega)]
    repeat rw [sr_n (by omega)]
  · exact ((((((((((((((hfu.put (show (2 : Nat) ≠ 0 by decide)).re (show (1 : Nat) ≠ 0 by decide)).put (show (2 : Nat) ≠ 0 by decide)).re (show (1 : Nat) ≠ 0 by decide)).put (show (2 : Nat) ≠ 0 by decide)).re (show (1 : Nat) ≠ 0 by decide)).put (show (2 : Nat) ≠ 0 by decide)).re (show (1 : Nat) ≠ 0 by decide)).put (show (3 : Nat) ≠ 0 by decide)).re (show (1 : Nat) ≠ 0 by decide)).put (show (3 : Nat) ≠ 0 by decide)).re (show (1 : Nat) ≠ 0 by decide)).put (show (2 : Nat) ≠ 0 by decide)).re (show (1 : Nat) ≠ 0 by decide))
  obtain ⟨⟨hM, hw, hz1, h13, h14⟩, hX8, hF8⟩ := h8
  refine r_aload_n (pc := 73) C 0 dX10_init_73 rfl rfl ?_
  refine r_getR (pc := 74) (x := M + 1) C f_X10_13 hM.1 rfl rfl dX10_init_74 ?_
  refine r_iconst (pc := 77) (v := 4) C dX10_init_77 rfl ?_
  refine r_sipush (pc := 78) (v := 1000) C dX10_init_78 rfl ?_
  refine r_iast (pc := 81) (x := 4) C hM.2.1 rfl (by omega) (by decide) dX10_init_81 ?_
  refine r_iconst (pc := 82) (v := 0) C dX10_init_82 rfl ?_
  refine r_istore_n (pc := 83) (lo' := [(1, _), (0, _)]) C dX10_init_83 rfl (by decide) rfl ?_
  have loop : ∀ (n_ q : Nat) (J : II), 4 - q < n_ → q ≤ 4 → NMq M T8 J (w1 q) → Nx M (M + 8) T I T8 J → Go g k 2 (Qm g k (PMd g M X T I) 7 2563) (0 + 1 + 1 + 1 + 1 + 1 + 1 + 1) (0 + 218 + 1744 + 218 + 218 + 100 + 60 + 5) 84 [(0, .ref M), (1, .int (nI q))] [] X T8 J := by
    intro n_
    induction n_ with
    | zero => intro _ _ h_; exact absurd h_ (Nat.not_lt_zero _)
    | succ n_ ih =>
      intro q J hn hq hJ hXJ
      obtain ⟨-, j1, j2, j3, j4⟩ := hJ
      refine r_iload_n (pc := 84) C 1 dX10_init_84 rfl rfl ?_
      refine r_iconst (pc := 85) (v := 4) C dX10_init_85 rfl ?_
      refine r_cgeN (pc := 86) (tgt := 106) C dX10_init_86 rfl (by omega) (by omega) (fun c => ?_) (fun c => ?_)
      · obtain rfl : q = 4 := by omega
        exact r_vret (pc := 106) C dX10_init_106 ⟨rfl, rfl, ⟨hM, j1.trans w1_4, j2, j3, j4⟩, hXJ, hF8⟩ (by decide)
      · skip
        refine r_aload_n (pc := 89) C 0 dX10_init_89 rfl rfl ?_
        refine r_getR (pc := 90) (x := M + 1) C f_X10_13 hM.1 rfl rfl dX10_init_90 ?_
        refine r_bipush (pc := 93) (v := 10) C dX10_init_93 rfl ?_
        refine r_iload_n (pc := 95) C 1 dX10_init_95 rfl rfl ?_
        refine r_iaddN (pc := 96) C dX10_init_96 ?_
        refine r_bipush (pc := 97) (v := 10) C dX10_init_97 rfl ?_
        refine r_iast (pc := 99) (x := 10 + q) C hM.2.1 rfl (by omega) (by decide) dX10_init_99 ?_
        refine r_iincN (pc := 100) (m := 1) (lo' := [(1, _), (0, _)]) C 1 dX10_init_100 rfl rfl (by decide) rfl ?_
        refine r_goto (pc := 103) (tgt := 84) C dX10_init_103 rfl ?_
        refine r_ls [1, 0] rfl ?_
        refine ih (q + 1) _ (by omega) (by omega) ⟨hM, ?_, fun j a1 a2 => (congrFun (u2_r (by omega)) j).trans (j2 j a1 a2), (congrFun (u2_r (by omega)) 13).trans j3, (congrFun (u2_r (by omega)) 14).trans j4⟩ (fun a ha => ⟨(hXJ a ha).1, (u2_r (by omega)).trans (hXJ a ha).2⟩)
        rw [u2_sr, sr_s, j1]; exact w1_s
  refine r_ls [1, 0] rfl ?_
  refine loop 5 0 _ (by omega) (by omega) ⟨hM, ?_, fun j a1 a2 => (congrFun (u2_r (by omega)) j).trans (hz1 j a1 a2), (congrFun (u2_r (by omega)) 13).trans h13, (congrFun (u2_r (by omega)) 14).trans h14⟩ (fun a ha => ⟨(hX8 a ha).1, (u2_r (by omega)).trans (hX8 a ha).2⟩)
  rw [u2_sr, sr_s, hw]; exact w1_0
