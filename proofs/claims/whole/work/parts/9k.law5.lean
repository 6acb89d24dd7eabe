/-! The law's body: the two objects, the loop. -/
theorem and63 (x : Int32) : ∃ j, j < 64 ∧ x &&& nI 63 = nI j := by
  refine ⟨x.toBitVec.toNat % 64, Nat.mod_lt _ (by decide), ?_⟩
  apply Int32.toBitVec_inj.mp
  apply BitVec.eq_of_toNat_eq
  show (x.toBitVec &&& (nI 63).toBitVec).toNat = (x.toBitVec.toNat % 64) % 2 ^ 32
  rw [BitVec.toNat_and]
  show x.toBitVec.toNat &&& (2 ^ 6 - 1) = _
  rw [Nat.and_two_pow_sub_one_eq_mod]
  omega
theorem gd_w0 : Gd w0 0 0 0 0 0 :=
  ⟨⟨rfl, rfl, rfl, by decide, by decide, by decide, fun s h => absurd h (Nat.not_lt_zero s)⟩, fun k hk => ⟨10, by decide, by decide, by unfold w0; rw [if_neg (by omega), if_pos (by omega)]⟩, ⟨0, 0, Nat.le_refl _, Nat.le_refl _, rfl, rfl, fun s h => absurd h (Nat.not_lt_zero s)⟩, fun r s _ h => absurd h (Nat.not_lt_zero s), by decide, by decide⟩
def s0 : AS := (w0, [], none, [], [], none, none)
theorem nil_us {P : Nat → (Nat → Int32) → Prop} : ∀ k u, ([] : List (Nat → Int32))[k]? = some u → P k u := fun k u hk => absurd (show (none : Option (Nat → Int32)) = some u from hk) (by simp)
theorem cst_0 {T : TT} {I : II} {x : Nat} (h : NCl x T I) : CSt I x s0 0 0 := by
  obtain ⟨-, -, hV, p1, p2, p3, p4, h0, h1, h2, h3, h4, h5, h6⟩ := h
  exact ⟨DkH.of hV gd_w0, ⟨0, 0, 0, gd_w0, fun s hs => absurd hs (Nat.not_lt_zero s)⟩, ⟨_, p1⟩, ⟨_, p2⟩, ⟨_, p3⟩, fun i hi => ⟨_, p4 i hi⟩, ⟨0, by decide, h1, h0, Nat.zero_le _, nil_us⟩, Or.inl ⟨rfl, h4⟩, ⟨0, by decide, h2⟩, ⟨h3, Nat.zero_le _, nil_bf, nil_bf⟩, h5, h6, fun e he => absurd he (by simp [AS.ea, s0]), fun e he => absurd he (by simp [AS.fa, s0])⟩
theorem rs_0 {T : TT} {I : II} {M : Nat} (h : NMd M T I) : RS I M s0 := by
  obtain ⟨-, h1, h2, h3, h4⟩ := h
  exact ⟨h1, ⟨0, by decide, h2 6 (by decide) (by decide), h2 5 (by decide) (by decide), Nat.zero_le _, nil_us⟩, Or.inl ⟨rfl, h2 7 (by decide) (by decide)⟩, ⟨h2 9 (by decide) (by decide), Nat.zero_le _, nil_bf, nil_bf⟩, ⟨h2 11 (by decide) (by decide), Nat.zero_le _, nil_bf, nil_bf⟩, h3, h4⟩
section G9K
variable {g : GG} {k : KK} {Q : State → Prop} {b x M a d n L : Nat} {xs : Nat → Int32} {f : Nat → Int64} {h : Nat → UInt64} {T : TT} {I : II} {s : AS}
theorem lw_case (S : LwC g k b L xs) (hn : 6 * n + 6 ≤ L) (hI : Iv x M T I s s n) (hback : Bk g k Q b x M a d n) {j : Nat} (hj : j < 64) : Go g k 9 Q (600 + 30 * n) (6000 + 4200 * n) 45 (lo0 b x M a d (6 * n)) [.int (nI j)] (XO g a f d h) T I := by
  have C := S.1
  match j, hj with
  | 0, _ => exact r_tblI (pc := 45) (tgt := 316) C dL_law_45 (by decide) (by decide) (by rfl) rfl (lw_0 S hn hI hback)
  | 1, _ => exact r_tblI (pc := 45) (tgt := 372) C dL_law_45 (by decide) (by decide) (by rfl) rfl (lw_1 S hn hI hback)
  | 2, _ => exact r_tblI (pc := 45) (tgt := 452) C dL_law_45 (by decide) (by decide) (by rfl) rfl (lw_2 S hn hI hback)
  | 3, _ => exact r_tblI (pc := 45) (tgt := 520) C dL_law_45 (by decide) (by decide) (by rfl) rfl (lw_3 S hn hI hback)
  | 4, _ => exact r_tblI (pc := 45) (tgt := 624) C dL_law_45 (by decide) (by decide) (by rfl) rfl (lw_4 S hn hI hback)
  | 5, _ => exact r_tblI (pc := 45) (tgt := 704) C dL_law_45 (by decide) (by decide) (by rfl) rfl (lw_5 S hn hI hback)
  | 6, _ => exact r_tblI (pc := 45) (tgt := 784) C dL_law_45 (by decide) (by decide) (by rfl) rfl (lw_6 S hn hI hback)
  | 7, _ => exact r_tblI (pc := 45) (tgt := 852) C dL_law_45 (by decide) (by decide) (by rfl) rfl (lw_7 S hn hI hback)
  | 8, _ => exact r_tblI (pc := 45) (tgt := 932) C dL_law_45 (by decide) (by decide) (by rfl) rfl (lw_8 S hn hI hback)
  | 9, _ => exact r_tblI (pc := 45) (tgt := 988) C dL_law_45 (by decide) (by decide) (by rfl) rfl (lw_9 S hn hI hback)
  | 10, _ => exact r_tblI (pc := 45) (tgt := 1001) C dL_law_45 (by decide) (by decide) (by rfl) rfl (lw_10 S hn hI hback)
  | 11, _ => exact r_tblI (pc := 45) (tgt := 1057) C dL_law_45 (by decide) (by decide) (by rfl) rfl (lw_11 S hn hI hback)
  | 12, _ => exact r_tblI (pc := 45) (tgt := 1070) C dL_law_45 (by decide) (by decide) (by rfl) rfl (lw_12 S hn hI hback)
  | 13, _ => exact r_tblI (pc := 45) (tgt := 1126) C dL_law_45 (by decide) (by decide) (by rfl) rfl (lw_13 S hn hI hback)
  | 14, _ => exact r_tblI (pc := 45) (tgt := 1139) C dL_law_45 (by decide) (by decide) (by rfl) rfl (lw_14 S hn hI hback)
  | 15, _ => exact r_tblI (pc := 45) (tgt := 1195) C dL_law_45 (by decide) (by decide) (by rfl) rfl (lw_15 S hn hI hback)
  | 16, _ => exact r_tblI (pc := 45) (tgt := 1263) C dL_law_45 (by decide) (by decide) (by rfl) rfl (lw_16 S hn hI hback)
  | 17, _ => exact r_tblI (pc := 45) (tgt := 1331) C dL_law_45 (by decide) (by decide) (by rfl) rfl (lw_17 S hn hI hback)
  | 18, _ => exact r_tblI (pc := 45) (tgt := 1387) C dL_law_45 (by decide) (by decide) (by rfl) rfl (lw_18 S hn hI hback)
  | 19, _ => exact r_tblI (pc := 45) (tgt := 1450) C dL_law_45 (by decide) (by decide) (by rfl) rfl (lw_19 S hn hI hback)
  | 20, _ => exact r_tblI (pc := 45) (tgt := 1506) C dL_law_45 (by decide) (by decide) (by rfl) rfl (lw_20 S hn hI hback)
  | 21, _ => exact r_tblI (pc := 45) (tgt := 1562) C dL_law_45 (by decide) (by decide) (by rfl) rfl (lw_21 S hn hI hback)
  | 22, _ => exact r_tblI (pc := 45) (tgt := 1618) C dL_law_45 (by decide) (by decide) (by rfl) rfl (lw_22 S hn hI hback)
  | 23, _ => exact r_tblI (pc := 45) (tgt := 1631) C dL_law_45 (by decide) (by decide) (by rfl) rfl (lw_23 S hn hI hback)
  | 24, _ => exact r_tblI (pc := 45) (tgt := 1656) C dL_law_45 (by decide) (by decide) (by rfl) rfl (lw_24 S hn hI hback)
  | 25, _ => exact r_tblI (pc := 45) (tgt := 1712) C dL_law_45 (by decide) (by decide) (by rfl) rfl (lw_25 S hn hI hback)
  | 26, _ => exact r_tblI (pc := 45) (tgt := 1768) C dL_law_45 (by decide) (by decide) (by rfl) rfl (lw_26 S hn hI hback)
  | 27, _ => exact r_tblI (pc := 45) (tgt := 1824) C dL_law_45 (by decide) (by decide) (by rfl) rfl (lw_27 S hn hI hback)
  | 28, _ => exact r_tblI (pc := 45) (tgt := 1880) C dL_law_45 (by decide) (by decide) (by rfl) rfl (lw_28 S hn hI hback)
  | 29, _ => exact r_tblI (pc := 45) (tgt := 1936) C dL_law_45 (by decide) (by decide) (by rfl) rfl (lw_29 S hn hI hback)
  | 30, _ => exact r_tblI (pc := 45) (tgt := 1992) C dL_law_45 (by decide) (by decide) (by rfl) rfl (lw_30 S hn hI hback)
  | 31, _ => exact r_tblI (pc := 45) (tgt := 2048) C dL_law_45 (by decide) (by decide) (by rfl) rfl (lw_31 S hn hI hback)
  | 32, _ => exact r_tblI (pc := 45) (tgt := 2116) C dL_law_45 (by decide) (by decide) (by rfl) rfl (lw_32 S hn hI hback)
  | 33, _ => exact r_tblI (pc := 45) (tgt := 2172) C dL_law_45 (by decide) (by decide) (by rfl) rfl (lw_33 S hn hI hback)
  | 34, _ => exact r_tblI (pc := 45) (tgt := 2235) C dL_law_45 (by decide) (by decide) (by rfl) rfl (lw_34 S hn hI hback)
  | 35, _ => exact r_tblI (pc := 45) (tgt := 2303) C dL_law_45 (by decide) (by decide) (by rfl) rfl (lw_35 S hn hI hback)
  | 36, _ => exact r_tblI (pc := 45) (tgt := 2359) C dL_law_45 (by decide) (by decide) (by rfl) rfl (lw_36 S hn hI hback)
  | 37, _ => exact r_tblI (pc := 45) (tgt := 2415) C dL_law_45 (by decide) (by decide) (by rfl) rfl (lw_37 S hn hI hback)
  | 38, _ => exact r_tblI (pc := 45) (tgt := 2483) C dL_law_45 (by decide) (by decide) (by rfl) rfl (lw_38 S hn hI hback)
  | 39, _ => exact r_tblI (pc := 45) (tgt := 2563) C dL_law_45 (by decide) (by decide) (by rfl) rfl (lw_39 S hn hI hback)
  | 40, _ => exact r_tblI (pc := 45) (tgt := 2607) C dL_law_45 (by decide) (by decide) (by rfl) rfl (lw_40 S hn hI hback)
  | 41, _ => exact r_tblI (pc := 45) (tgt := 2663) C dL_law_45 (by decide) (by decide) (by rfl) rfl (lw_41 S hn hI hback)
  | 42, _ => exact r_tblI (pc := 45) (tgt := 2676) C dL_law_45 (by decide) (by decide) (by rfl) rfl (lw_42 S hn hI hback)
  | 43, _ => exact r_tblI (pc := 45) (tgt := 2744) C dL_law_45 (by decide) (by decide) (by rfl) rfl (lw_43 S hn hI hback)
  | 44, _ => exact r_tblI (pc := 45) (tgt := 2800) C dL_law_45 (by decide) (by decide) (by rfl) rfl (lw_44 S hn hI hback)
  | 45, _ => exact r_tblI (pc := 45) (tgt := 2856) C dL_law_45 (by decide) (by decide) (by rfl) rfl (lw_45 S hn hI hback)
  | 46, _ => exact r_tblI (pc := 45) (tgt := 2881) C dL_law_45 (by decide) (by decide) (by rfl) rfl (lw_46 S hn hI hback)
  | 47, _ => exact r_tblI (pc := 45) (tgt := 2894) C dL_law_45 (by decide) (by decide) (by rfl) rfl (lw_47 S hn hI hback)
  | 48, _ => exact r_tblI (pc := 45) (tgt := 2907) C dL_law_45 (by decide) (by decide) (by rfl) rfl (lw_48 S hn hI hback)
  | 49, _ => exact r_tblI (pc := 45) (tgt := 2920) C dL_law_45 (by decide) (by decide) (by rfl) rfl (lw_49 S hn hI hback)
  | 50, _ => exact r_tblI (pc := 45) (tgt := 2933) C dL_law_45 (by decide) (by decide) (by rfl) rfl (lw_50 S hn hI hback)
  | 51, _ => exact r_tblI (pc := 45) (tgt := 2989) C dL_law_45 (by decide) (by decide) (by rfl) rfl (lw_51 S hn hI hback)
  | 52, _ => exact r_tblI (pc := 45) (tgt := 3054) C dL_law_45 (by decide) (by decide) (by rfl) rfl (lw_52 S hn hI hback)
  | 53, _ => exact r_tblI (pc := 45) (tgt := 3120) C dL_law_45 (by decide) (by decide) (by rfl) rfl (lw_53 S hn hI hback)
  | 54, _ => exact r_tblI (pc := 45) (tgt := 3133) C dL_law_45 (by decide) (by decide) (by rfl) rfl (lw_54 S hn hI hback)
  | 55, _ => exact r_tblI (pc := 45) (tgt := 3189) C dL_law_45 (by decide) (by decide) (by rfl) rfl (lw_55 S hn hI hback)
  | 56, _ => exact r_tblI (pc := 45) (tgt := 3245) C dL_law_45 (by decide) (by decide) (by rfl) rfl (lw_56 S hn hI hback)
  | 57, _ => exact r_tblI (pc := 45) (tgt := 3303) C dL_law_45 (by decide) (by decide) (by rfl) rfl (lw_57 S hn hI hback)
  | 58, _ => exact r_tblI (pc := 45) (tgt := 3347) C dL_law_45 (by decide) (by decide) (by rfl) rfl (lw_58 S hn hI hback)
  | 59, _ => exact r_tblI (pc := 45) (tgt := 3391) C dL_law_45 (by decide) (by decide) (by rfl) rfl (lw_59 S hn hI hback)
  | 60, _ => exact r_tblI (pc := 45) (tgt := 3435) C dL_law_45 (by decide) (by decide) (by rfl) rfl (lw_60 S hn hI hback)
  | 61, _ => exact r_tblI (pc := 45) (tgt := 3448) C dL_law_45 (by decide) (by decide) (by rfl) rfl (lw_61 S hn hI hback)
  | 62, _ => exact r_tblI (pc := 45) (tgt := 3492) C dL_law_45 (by decide) (by decide) (by rfl) rfl (lw_62 S hn hI hback)
  | 63, _ => exact r_tblI (pc := 45) (tgt := 3505) C dL_law_45 (by decide) (by decide) (by rfl) rfl (lw_63 S hn hI hback)
  | j + 64, hj => exact absurd hj (by omega)
/-- the way out -/
def Out (g : GG) (k : KK) (Q : State → Prop) (b x M a d : Nat) : Prop := ∀ (m : Nat) (f' : Nat → Int64) (h' : Nat → UInt64) (T' : TT) (I' : II), Go g k 9 Q 603072 7186538 3556 (lo0 b x M a d m) [.int (nI 1)] (XO g a f' d h') T' I'
theorem lw_loop (S : LwC g k b L xs) (hend : Out g k Q b x M a d) : ∀ (r n : Nat), 513 ≤ n + r → n ≤ 512 → ∀ (f : Nat → Int64) (h : Nat → UInt64) (T : TT) (I : II) (s : AS), Iv x M T I s s n → Go g k 9 Q (600 + 30 * n) (6000 + 4200 * n) 28 (lo0 b x M a d (6 * n)) [] (XO g a f d h) T I
  | 0, n, h1, h2, _, _, _, _, _, _ => absurd h1 (by omega)
  | r + 1, n, h1, h2, f, h, T, I, s, hI => by
    obtain ⟨C, hfl, hnc, hX, hbl, hbA, hL⟩ := id S
    refine r_iload (pc := 28) C 5 dL_law_28 rfl ?_
    refine r_aload_n (pc := 30) C 0 dL_law_30 rfl rfl ?_
    refine r_slen (pc := 31) C hX hbl hbA dL_law_31 ?_
    refine r_bipush (pc := 32) (v := 6) C dL_law_32 rfl ?_
    refine r_isub (pc := 34) C dL_law_34 ?_
    refine r_cgt (pc := 35) (tgt := 3555) C dL_law_35 rfl (fun _ => ?_) (fun hc => ?_)
    · refine r_iconst (pc := 3555) (v := 1) C dL_law_3555 rfl ?_
      exact r_wide (by omega) (by omega) (hend (6 * n) f h T I)
    · have hn : 6 * n + 6 ≤ L := by
        rw [Int32.lt_iff_toInt_lt, pk_sub_toInt (by omega) (by omega), nI_toInt (by omega)] at hc
        omega
      refine r_aload_n (pc := 38) C 0 dL_law_38 rfl rfl ?_
      refine r_iload (pc := 39) C 5 dL_law_39 rfl ?_
      refine r_sld (pc := 41) (x := 6 * n) C hX hbl hbA rfl (by omega) (by omega) dL_law_41 ?_
      refine r_bipush (pc := 42) (v := 63) C dL_law_42 rfl ?_
      refine r_iand (pc := 44) C dL_law_44 ?_
      obtain ⟨j, hj, ej⟩ := and63 (xs (6 * n))
      refine r_t ej ?_
      refine lw_case S hn hI (fun f' h' T' I' s' hI' => ?_) hj
      refine r_iinc (pc := 3549) (v := nI (6 * (n + 1))) (lo' := [(5, _), (0, _), (1, _), (2, _), (3, _), (4, _)]) C 5 dL_law_3549 rfl (by show nI (6 * n) + nI 6 = _; rw [nI_add, show 6 * n + 6 = 6 * (n + 1) by omega]) (by decide) rfl ?_
      refine r_goto (pc := 3552) (tgt := 28) C dL_law_3552 rfl ?_
      refine r_ls (lo' := lo0 b x M a d (6 * (n + 1))) [1, 2, 3, 4, 5, 0] rfl ?_
      exact r_wide (by omega) (by omega) (lw_loop S hend r (n + 1) (by omega) (by omega) f' h' T' I' s' hI')
def T0 : TT := fun _ => (0, 0, nr)
def I0 : II := fun _ _ => 0
theorem lw_body (S : LwC g k b L xs) (hao : AOs (ks k)) (hg : g0 g = (ks k).heap.size) (hend : ∀ x M a d, Out g k Q b x M a d) : Go g k 9 Q 0 0 0 [(0, .ref b)] [] [] T0 I0 := by
  obtain ⟨C, hfl, hnc, hX, hbl, hbA, hL⟩ := id S
  have hfu : Fu g T0 (g0 g) := fun q h1 h2 => absurd h1 (by omega)
  refine r_newO (pc := 0) C n_L_8 hfu (by omega) ⟨by decide, by decide⟩ dL_law_0 (fun f1 => ?_)
  refine r_dup (pc := 3) C dL_law_3 rfl ?_
  refine r_ctor (pc := 4) C hfl hao i_L_179 (z_cls (x := g0 g) tu_s sr_s (hfu.put (show (1 : Nat) ≠ 0 by decide))) (by omega) (As := []) rfl rfl (Nat.le_of_ble_eq_true rfl) (by decide) (by decide) dL_law_4 (fun r1 X1 T1 I1 e => ?_)
  obtain ⟨rfl, rfl, hC1, -, hf1⟩ := e
  refine r_st (st' := [.ref (g0 g)]) rfl ?_
  refine r_astore_n (pc := 7) (lo' := [(1, _), (0, _)]) C dL_law_7 rfl (by decide) rfl ?_
  refine r_newO (pc := 8) C n_L_180 hf1 (by omega) ⟨by decide, by decide⟩ dL_law_8 (fun f2 => ?_)
  refine r_dup (pc := 11) C dL_law_11 rfl ?_
  refine r_ctor (pc := 12) C hfl hao i_L_182 (z_mod (M := g0 g + 513) tu_s sr_s (hf1.put (show (1 : Nat) ≠ 0 by decide))) (by omega) (As := []) rfl rfl (Nat.le_of_ble_eq_true rfl) (by decide) (by decide) dL_law_12 (fun r2 X2 T2 I2 e => ?_)
  obtain ⟨rfl, rfl, hM2, hN2, -⟩ := e
  refine r_st (st' := [.ref (g0 g + 513)]) rfl ?_
  refine r_astore_n (pc := 15) (lo' := [(2, _), (1, _), (0, _)]) C dL_law_15 rfl (by decide) rfl ?_
  refine r_iconst (pc := 16) (v := 1) C dL_law_16 rfl ?_
  refine r_newJ (pc := 17) C ⟨by decide, by decide⟩ dL_law_17 (fun q1 => ?_)
  refine r_astore_n (pc := 19) (lo' := [(3, _), (2, _), (1, _), (0, _)]) C dL_law_19 rfl (by decide) rfl ?_
  refine r_iconst (pc := 20) (v := 1) C dL_law_20 rfl ?_
  refine r_newD1 (pc := 21) C ⟨by decide, by decide⟩ dL_law_21 (fun q2 => ?_)
  refine r_astore (pc := 23) (lo' := [(4, _), (3, _), (2, _), (1, _), (0, _)]) C dL_law_23 (by decide) rfl ?_
  refine r_iconst (pc := 25) (v := 0) C dL_law_25 rfl ?_
  refine r_istore (pc := 26) (lo' := [(5, _), (4, _), (3, _), (2, _), (1, _), (0, _)]) C dL_law_26 (by decide) rfl ?_
  refine r_ls (lo' := lo0 b (g0 g) (g0 g + 513) q1 q2 (6 * 0)) [5, 4, 3, 2, 1, 0] rfl ?_
  have e2 : ∀ q, q < g0 g + 513 → T2 q = T1 q ∧ I2 q = I1 q := fun q hq => by
    obtain ⟨z1, z2⟩ := hN2 q (by omega)
    exact ⟨z1.trans (tu_n (by omega)), z2.trans (sr_n (by omega))⟩
  have hI : Iv (g0 g) (g0 g + 513) T2 I2 s0 s0 0 := by
    refine ⟨hC1.1.mv (fun q h1 h2 => (e2 q (by omega)).1), hM2.1, Nat.le_refl _, ⟨0, 0, (cst_0 hC1).mv (fun q h1 h2 => (e2 q (by omega)).2), ⟨Nat.le_refl _, Nat.le_refl _⟩⟩, ⟨g0 g + 511 + 1, 16, ?_⟩, rs_0 hM2⟩
    obtain ⟨a1, a2, a3, a4, a5, a6, a7, a8⟩ := hC1.2.1
    obtain ⟨z1, z2⟩ := e2 (g0 g + 511) (by omega)
    obtain ⟨z3, z4⟩ := e2 (g0 g + 511 + 1) (by omega)
    exact ⟨z1.trans a1, z3.trans a2, by rw [z2]; exact a3, by rw [z2]; exact a4, a5, a6, by rw [z4]; exact a7, by rw [z4]; exact a8⟩
  exact r_wide (by decide) (by decide) (lw_loop S (hend _ _ _ _) 513 0 (by decide) (by decide) (fun _ => 0) (fun _ => 0) T2 I2 s0 hI)
end G9K
