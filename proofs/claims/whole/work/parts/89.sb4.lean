/-! The builder: letters, numbers, constant strings appended. -/
theorem tx_lo {l w : List Nat} {j : Nat} (h : j < l.length) : tx (l ++ w) j = tx l j := by
  simp only [tx, List.getD_eq_getElem?_getD, List.getElem?_append_left h]
theorem tx_hi {l w : List Nat} {i : Nat} : tx (l ++ w) (l.length + i) = tx w i := by
  simp only [tx, List.getD_eq_getElem?_getD]
  rw [List.getElem?_append_right (by omega), Nat.add_sub_cancel_left]
theorem SB.app {T : TT} {I I' : II} {s y m : Nat} {l w : List Nat} (h : SB T I s y m l) (h1 : I' s 1 = I s 1) (h3 : I' s 3 = nI (l.length + w.length)) (hm : l.length + w.length ≤ m) (hk : ∀ j, j < l.length → I' y j = I y j) (hw : ∀ i, i < w.length → tx w i < 256 ∧ I' y (l.length + i) = sb_b (tx w i)) (hf : sb_Fit (I' y)) : SB T I' s y m (l ++ w) := by
  obtain ⟨a1, a2, a3, a4, a5, a6, a7, a8⟩ := h
  refine ⟨a1, a2, h1.trans a3, by rw [h3, List.length_append], by rw [List.length_append]; exact hm, a6, ?_, hf⟩
  intro j hj
  rw [List.length_append] at hj
  by_cases e : j < l.length
  · rw [tx_lo e, hk j e]
    exact a7 j e
  · have e2 : j = l.length + (j - l.length) := by omega
    rw [e2, tx_hi]
    exact hw _ (by omega)
/-- it has become l' -/
def PSB (s : Nat) (X : va_W) (T : TT) (I : II) (l' : List Nat) (r0 : Option Value) : PhiT := fun r X' T' I' => r = r0 ∧ X' = X ∧ ∃ y' m', SB T' I' s y' m' l' ∧ EXT s T I T' I'

set_option maxHeartbeats 1000000 in
theorem c_canEnc {g : GG} {X : va_W} {T : TT} {I : II} {c : Nat} (hc : c < 128) : Mc g yJ1_canEncode_fc78d cJ1_canEncode_fc78d 1 (some .boolean) 0 0 0 [.int (nI c)] X T I (Ex (some (.int (nI 1))) X T I) := by
  refine Mc.of (by decide) (Nat.le_of_ble_eq_true rfl) (fun k hfl C => ?_)
  refine r_lo (lo' := [(0, _)]) rfl ?_
  refine r_iload_n (pc := 0) C 0 dJ1_canEncode_fc78d_0 rfl rfl ?_
  refine r_sipush (pc := 1) (v := 255) C dJ1_canEncode_fc78d_1 rfl ?_
  refine r_cgtN (pc := 4) (tgt := 11) C dJ1_canEncode_fc78d_4 rfl (by omega) (by omega) (fun c => False.elim (by omega)) (fun _ => ?_)
  refine r_iconst (pc := 7) (v := 1) C dJ1_canEncode_fc78d_7 rfl ?_
  refine r_goto (pc := 8) (tgt := 12) C dJ1_canEncode_fc78d_8 rfl ?_
  exact r_zret (pc := 12) C rfl dJ1_canEncode_fc78d_12 ⟨rfl, rfl, rfl, rfl⟩ (by decide)

set_option maxHeartbeats 1000000 in
theorem c_appC {g : GG} {X : va_W} {T : TT} {I : II} {s y m : Nat} {l : List Nat} (h : SB T I s y m l) {c : Nat} (hc : c < 128) (hl : l.length + 1 ≤ 142) : Mc g yJ5_append_3fe6f cJ5_append_3fe6f 2 (some (.object "java/lang/AbstractStringBuilder")) 4 1 142 [.ref s, .int (nI c)] X T I (PSB s X T I (l ++ [c]) (some (.ref s))) := by
  have hm := h.mm
  obtain ⟨a1, a2, a3, a4, a5, a6, a7, a8⟩ := id h
  refine Mc.of (by decide) (Nat.le_of_ble_eq_true rfl) (fun k hfl C => ?_)
  refine r_lo (lo' := [(0, _), (1, _)]) rfl ?_
  refine r_aload_n (pc := 0) C 0 dJ5_append_3fe6f_0 rfl rfl ?_
  refine r_aload_n (pc := 1) C 0 dJ5_append_3fe6f_1 rfl rfl ?_
  refine r_getBI (pc := 2) C f_J5_79 a1 rfl dJ5_append_3fe6f_2 ?_
  refine r_t (y := nI l.length) a4 ?_
  refine r_iconst (pc := 5) (v := 1) C dJ5_append_3fe6f_5 rfl ?_
  refine r_iaddN (pc := 6) C dJ5_append_3fe6f_6 ?_
  refine r_callU (pc := 7) C hfl kU_J5_100 (c_ensure h (q := l.length + 1) (by omega) hl) a1 rfl rfl (Nat.le_of_ble_eq_true rfl) (by decide) (by decide) dJ5_append_3fe6f_7 (fun r1 X1 T1 I1 e => ?_)
  obtain ⟨e1, e2, y1, m1, h1, hq, hE⟩ := e
  subst r1
  subst X1
  obtain ⟨b1, b2, b3, b4, b5, b6, b7, b8⟩ := id h1
  have hne := h1.ne
  refine r_st (st' := []) rfl ?_
  refine r_aload_n (pc := 10) C 0 dJ5_append_3fe6f_10 rfl rfl ?_
  refine r_callU (pc := 11) C hfl kU_J5_83 (c_sbLat h1) b1 rfl rfl (Nat.le_of_ble_eq_true rfl) (by decide) (by decide) dJ5_append_3fe6f_11 (fun r2 X2 T2 I2 e => ?_)
  obtain ⟨e1, e2, e3, e4⟩ := e
  subst r2
  subst X2
  subst T2
  subst I2
  refine r_st (st' := [.int (nI 1)]) rfl ?_
  refine r_ifeqN (pc := 14) (tgt := 45) C dJ5_append_3fe6f_14 rfl (by omega) (fun c => False.elim (by omega)) (fun _ => ?_)
  refine r_iload_n (pc := 17) C 1 dJ5_append_3fe6f_17 rfl rfl ?_
  refine r_cSi (pc := 18) C hfl k_J5_191 (c_canEnc hc) rfl rfl (Nat.le_of_ble_eq_true rfl) (by decide) (by decide) dJ5_append_3fe6f_18 ?_
  refine r_ifeqN (pc := 21) (tgt := 45) C dJ5_append_3fe6f_21 rfl (by omega) (fun c => False.elim (by omega)) (fun _ => ?_)
  refine r_aload_n (pc := 24) C 0 dJ5_append_3fe6f_24 rfl rfl ?_
  refine r_getB (pc := 25) (v := .ref y1) C f_J5_15 b1 rfl rfl dJ5_append_3fe6f_25 ?_
  refine r_aload_n (pc := 28) C 0 dJ5_append_3fe6f_28 rfl rfl ?_
  refine r_dup (pc := 29) C dJ5_append_3fe6f_29 rfl ?_
  refine r_getBI (pc := 30) C f_J5_79 b1 rfl dJ5_append_3fe6f_30 ?_
  refine r_t (y := nI l.length) b4 ?_
  refine r_dup_x1 (pc := 33) C dJ5_append_3fe6f_33 rfl rfl ?_
  refine r_iconst (pc := 34) (v := 1) C dJ5_append_3fe6f_34 rfl ?_
  refine r_iaddN (pc := 35) C dJ5_append_3fe6f_35 ?_
  refine r_putBI (pc := 36) C f_J5_79 b1 rfl rfl rfl dJ5_append_3fe6f_36 ?_
  refine r_iload_n (pc := 39) C 1 dJ5_append_3fe6f_39 rfl rfl ?_
  refine r_i2b (pc := 40) (v := sb_b c) C dJ5_append_3fe6f_40 rfl ?_
  refine r_bast (pc := 41) (x := l.length) C b2 rfl (by omega) (by omega) (pk_vb _) dJ5_append_3fe6f_41 ?_
  refine r_goto (pc := 42) (tgt := 75) C dJ5_append_3fe6f_42 rfl ?_
  refine r_aload_n (pc := 75) C 0 dJ5_append_3fe6f_75 rfl rfl ?_
  have hI : SB T1 (u2 (u2 I1 s 3 (nI (l.length + 1))) y1 l.length (sb_b c)) s y1 m1 (l ++ [c]) := by
    refine h1.app (w := [c]) ?_ ?_ hq (fun j hj => ?_) (fun i hi => ?_) ?_
    · rw [u2_r hne, u2_o (by decide)]
    · rw [u2_r hne, u2_g]
      rfl
    · rw [u2_o (by omega), u2_r (Ne.symm hne)]
    · have hi0 : i < 1 := hi
      obtain rfl : i = 0 := by omega
      exact ⟨by show c < 256; omega, u2_g⟩
    · rw [show u2 (u2 I1 s 3 (nI (l.length + 1))) y1 l.length (sb_b c) y1 = upd (I1 y1) l.length (sb_b c) from sr_s.trans (by rw [u2_r (Ne.symm hne)])]
      exact sb_fitU b8 (sb_fitB c)
  exact r_aret (pc := 76) C (Or.inl ⟨_, rfl⟩) (Or.inr ⟨_, rfl⟩) dJ5_append_3fe6f_76 ⟨rfl, rfl, y1, m1, hI, hE.u (fun q hq1 hq4 => by rw [u2_r (fun e => hq4 (by rw [e, b2])), u2_r hq1])⟩ (by decide)

theorem dg_is {v i : Nat} (hi : 1 ≤ i) (hi2 : i ≤ 10) (h1 : i = 1 ∨ 10 ^ (i - 1) ≤ v) (h2 : i = 10 ∨ v < 10 ^ i) (hv : v < 2 ^ 31) : sb_dg v = i := by
  match i, hi, hi2 with
  | 1, _, _ => simp at h2; unfold sb_dg; (repeat' split) <;> omega
  | 2, _, _ => simp at h1 h2; unfold sb_dg; (repeat' split) <;> omega
  | 3, _, _ => simp at h1 h2; unfold sb_dg; (repeat' split) <;> omega
  | 4, _, _ => simp at h1 h2; unfold sb_dg; (repeat' split) <;> omega
  | 5, _, _ => simp at h1 h2; unfold sb_dg; (repeat' split) <;> omega
  | 6, _, _ => simp at h1 h2; unfold sb_dg; (repeat' split) <;> omega
  | 7, _, _ => simp at h1 h2; unfold sb_dg; (repeat' split) <;> omega
  | 8, _, _ => simp at h1 h2; unfold sb_dg; (repeat' split) <;> omega
  | 9, _, _ => simp at h1 h2; unfold sb_dg; (repeat' split) <;> omega
  | 10, _, _ => simp at h1; unfold sb_dg; (repeat' split) <;> omega
  | i + 11, _, h => omega
theorem p10_9 : ∀ i, i ≤ 9 → 10 ^ i < 2 ^ 31 := by decide
theorem mI_mul {a b : Nat} : nI a * (-nI b) = -nI (a * b) := by rw [← nI_ml]; grind

set_option maxHeartbeats 1000000 in
theorem c_ssize {g : GG} {X : va_W} {T : TT} {I : II} {v : Nat} (hv : v < 2 ^ 31) : Mc g yJ6_stringSize_0f7a4 cJ6_stringSize_0f7a4 4 (some .int) 0 0 0 [.int (nI v)] X T I (Ex (some (.int (nI (sb_dg v)))) X T I) := by
  refine Mc.of (by decide) (Nat.le_of_ble_eq_true rfl) (fun k hfl C => ?_)
  refine r_lo (lo' := [(0, _)]) rfl ?_
  refine r_iconst (pc := 0) (v := 1) C dJ6_stringSize_0f7a4_0 rfl ?_
  refine r_istore_n (pc := 1) (lo' := [(1, _), (0, _)]) C dJ6_stringSize_0f7a4_1 rfl (by decide) rfl ?_
  refine r_iload_n (pc := 2) C 1 dJ6_stringSize_0f7a4_2 rfl rfl ?_
  refine r_iflt (pc := 3) (tgt := 11) C dJ6_stringSize_0f7a4_3 rfl (fun c => absurd c (nI_pos hv)) (fun _ => ?_)
  refine r_iconst (pc := 6) (v := 0) C dJ6_stringSize_0f7a4_6 rfl ?_
  refine r_istore_n (pc := 7) (lo' := [(1, _), (0, _)]) C dJ6_stringSize_0f7a4_7 rfl (by decide) rfl ?_
  refine r_iload_n (pc := 8) C 1 dJ6_stringSize_0f7a4_8 rfl rfl ?_
  refine r_ineg (pc := 9) C dJ6_stringSize_0f7a4_9 ?_
  refine r_istore_n (pc := 10) (lo' := [(0, _), (1, _)]) C dJ6_stringSize_0f7a4_10 rfl (by decide) rfl ?_
  refine r_bipushm (pc := 11) (v := -nI 10) C dJ6_stringSize_0f7a4_11 (by decide) ?_
  refine r_istore_n (pc := 13) (lo' := [(2, _), (0, _), (1, _)]) C dJ6_stringSize_0f7a4_13 rfl (by decide) rfl ?_
  refine r_iconst (pc := 14) (v := 1) C dJ6_stringSize_0f7a4_14 rfl ?_
  refine r_istore_n (pc := 15) (lo' := [(3, _), (2, _), (0, _), (1, _)]) C dJ6_stringSize_0f7a4_15 rfl (by decide) rfl ?_
  have loop : ∀ (n_ i : Nat) (p : Int32), 10 - i < n_ → 1 ≤ i → i ≤ 10 → (i ≤ 9 → p = -nI (10 ^ i)) → (i = 1 ∨ 10 ^ (i - 1) ≤ v) → Go g k 4 (Qm g k (Ex (some (.int (nI (sb_dg v)))) X T I) 0 0) 0 0 16 [(0, .int (-nI v)), (1, .int (nI 0)), (2, .int p), (3, .int (nI i))] [] X T I := by
    intro n_
    induction n_ with
    | zero => intro _ _ h_; exact absurd h_ (Nat.not_lt_zero _)
    | succ n_ ih =>
      intro i p hn h1 h2 hp hi
      refine r_iload_n (pc := 16) C 3 dJ6_stringSize_0f7a4_16 rfl rfl ?_
      refine r_bipush (pc := 17) (v := 10) C dJ6_stringSize_0f7a4_17 rfl ?_
      refine r_cgeN (pc := 19) (tgt := 42) C dJ6_stringSize_0f7a4_19 rfl (by omega) (by omega) (fun c => ?_) (fun c => ?_)
      · obtain rfl : i = 10 := by omega
        refine r_bipush (pc := 42) (v := 10) C dJ6_stringSize_0f7a4_42 rfl ?_
        refine r_iload_n (pc := 44) C 1 dJ6_stringSize_0f7a4_44 rfl rfl ?_
        refine r_iaddN (pc := 45) C dJ6_stringSize_0f7a4_45 ?_
        refine r_t (y := nI (sb_dg v)) (congrArg nI (by rw [dg_is (i := 10) (by omega) (by omega) hi (Or.inl rfl) hv])) ?_
        exact r_iret (pc := 46) C dJ6_stringSize_0f7a4_46 ⟨rfl, rfl, rfl, rfl⟩ (by decide)
      · have hp9 := hp (by omega)
        have h10 := p10_9 i (by omega)
        subst hp9
        refine r_iload_n (pc := 22) C 0 dJ6_stringSize_0f7a4_22 rfl rfl ?_
        refine r_iload_n (pc := 23) C 2 dJ6_stringSize_0f7a4_23 rfl rfl ?_
        refine r_cle (pc := 24) (tgt := 31) C dJ6_stringSize_0f7a4_24 rfl (fun c => ?_) (fun c => ?_)
        · have hge := (sb_nle hv h10).mp c
          refine r_bipush (pc := 31) (v := 10) C dJ6_stringSize_0f7a4_31 rfl ?_
          refine r_iload_n (pc := 33) C 2 dJ6_stringSize_0f7a4_33 rfl rfl ?_
          refine r_imul (pc := 34) C dJ6_stringSize_0f7a4_34 ?_
          refine r_istore_n (pc := 35) (lo' := [(2, _), (0, _), (1, _), (3, _)]) C dJ6_stringSize_0f7a4_35 rfl (by decide) rfl ?_
          refine r_iincN (pc := 36) (m := 1) (lo' := [(3, _), (2, _), (0, _), (1, _)]) C 3 dJ6_stringSize_0f7a4_36 rfl rfl (by decide) rfl ?_
          refine r_goto (pc := 39) (tgt := 16) C dJ6_stringSize_0f7a4_39 rfl ?_
          refine r_ls [2, 3, 1, 0] rfl ?_
          exact ih (i + 1) _ (by omega) (by omega) (by omega) (fun _ => by rw [mI_mul, Nat.pow_succ, Nat.mul_comm]) (Or.inr hge)
        · have hlt : v < 10 ^ i := Nat.lt_of_not_le (fun z => c ((sb_nle hv h10).mpr z))
          refine r_iload_n (pc := 27) C 3 dJ6_stringSize_0f7a4_27 rfl rfl ?_
          refine r_iload_n (pc := 28) C 1 dJ6_stringSize_0f7a4_28 rfl rfl ?_
          refine r_iaddN (pc := 29) C dJ6_stringSize_0f7a4_29 ?_
          refine r_t (y := nI (sb_dg v)) (congrArg nI (by rw [dg_is h1 h2 hi (Or.inr hlt) hv]; rfl)) ?_
          exact r_iret (pc := 30) C dJ6_stringSize_0f7a4_30 ⟨rfl, rfl, rfl, rfl⟩ (by decide)
  refine r_ls [2, 3, 1, 0] rfl ?_
  exact loop 11 1 _ (by omega) (by omega) (by omega) (fun _ => rfl) (Or.inl rfl)
