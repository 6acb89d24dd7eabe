theorem c_obey {g : GG} {X : va_W} {T : TT} {I : II} {b : Nat} (hd : isDk T b) {w : Nat → Int32} {B N E : Nat} {pm : Nat → Nat} (hV : DV I b w B N E pm) {D U : Nat} (hG : Gd w B N E D U) (hS : Sd w N) (hDx : D + 60 ≤ 100000) {d i : Nat} (hi : i < 9) (ha : T d = (2, 5, nr)) : Mc g yX3_obey cX3_obey 3 (some (.object "LendingDesk$Fault")) 7 0 0 [.ref b, .ref (ga g (10 + i)), .ref d] X T I (CHx g I b X T w B N E i (I d)) := match i, hi with
  | 0, _ => c_obey_0 hd hV hG hS hDx ha
  | 1, _ => c_obey_1 hd hV hG hS hDx ha
  | 2, _ => c_obey_2 hd hV hG hS hDx ha
  | 3, _ => c_obey_3 hd hV hG hS hDx ha
  | 4, _ => c_obey_4 hd hV hG hS hDx ha
  | 5, _ => c_obey_5 hd hV hG hS hDx ha
  | 6, _ => c_obey_6 hd hV hG hS hDx ha
  | 7, _ => c_obey_7 hd hV hG hS hDx ha
  | 8, _ => c_obey_8 hd hV hG hS hDx ha
/-- what counting the commands of a program leaves -/
def CCp (I0 : II) (r : Nat) (R : Bool × Nat × Nat) (X : va_W) (T : TT) : PhiT := fun r' X' T' I' => X' = X ∧ T' = T ∧ ∃ v nm, v < 9 ∧ I' = rI I0 r R.2.1 v nm ∧ r' = some (.int (if R.1 = true then nI R.2.2 else -1))
theorem CCp_t {I0 : II} {r e m v : Nat} {R : Bool × Nat × Nat} {X : va_W} {T : TT} {nm : Nat → Int32} (h : R = (true, e, m)) (hv : v < 9) : CCp I0 r R X T (some (.int (nI m))) X T (rI I0 r e v nm) := by
  subst h
  exact ⟨rfl, rfl, v, nm, hv, rfl, rfl⟩
theorem CCp_f {I0 : II} {r e m v : Nat} {R : Bool × Nat × Nat} {X : va_W} {T : TT} {nm : Nat → Int32} (h : R = (false, e, m)) (hv : v < 9) : CCp I0 r R X T (some (.int (-1))) X T (rI I0 r e v nm) := by
  subst h
  exact ⟨rfl, rfl, v, nm, hv, rfl, rfl⟩
theorem prV_st {c : Nat → Nat} {L f p n : Nat} (h : (cmV c L p).1 = true) (hl : (cmV c L p).2.1 < L) (hn : 1 ≤ n) : (if has c L (cmV c L p).2.1 59 then prV c L f ((cmV c L p).2.1 + 1) n else (false, (cmV c L p).2.1, n)) = prV c L (f + 1) p (n - 1) := by
  by_cases h2 : has c L (cmV c L p).2.1 59
  · rw [if_pos h2, prV_go h h2, show n - 1 + 1 = n by omega]
  · rw [if_neg h2, prV_end h h2, decide_eq_false (show ¬ (cmV c L p).2.1 = L by omega), show n - 1 + 1 = n by omega]
set_option maxHeartbeats 1000000 in
theorem q_countCommands {g : GG} {X : va_W} {T : TT} {I : II} {x : Nat} (hcl : isCl T x) {L v0 : Nat} {c : Nat → Nat} (hL : L ≤ 60) (hc : ∀ j, j < L → I (x + 510) j = nI (c j)) (hc2 : ∀ j, j < L → c j < 128) (hv0 : v0 < 9) (hv1 : I (x + 507) 1 = nI v0) : Mc g yX9_countCommands cX9_countCommands 3 (some .int) 8 0 0 [.ref x, .int (nI L)] X T I (CCp (opI I (x + 507) (x + 510) L) (x + 507) (prV c L 61 0 0) X T) := by
  have hd := hcl.2.1
  refine Mc.of (by decide) (Nat.le_of_ble_eq_true rfl) (fun k hfl C => ?_)
  refine r_lo (lo' := [(0, _), (1, _)]) rfl ?_
  refine r_aload_n (pc := 0) C 0 dX9_countCommands_0 rfl rfl ?_
  refine r_getR (pc := 1) (x := x + 507) C f_X9_35 hcl.1 rfl rfl dX9_countCommands_1 ?_
  refine r_aload_n (pc := 4) C 0 dX9_countCommands_4 rfl rfl ?_
  refine r_getR (pc := 5) (x := x + 510) C f_X9_39 hcl.1 rfl rfl dX9_countCommands_5 ?_
  refine r_iload_n (pc := 8) C 1 dX9_countCommands_8 rfl rfl ?_
  refine r_c9v (pc := 9) C hfl k_X9_403 (c_open hcl.2.2.2.2.2.2.1 hcl.2.2.2.2.2.2.2 (by omega) hL hc hc2) hcl.2.2.2.2.2.2.1.1 ca_X2 rfl rfl (Nat.le_of_ble_eq_true rfl) (by decide) (by decide) dX9_countCommands_9 ?_
  have hR0 : Rdr (opI I (x + 507) (x + 510) L) (x + 507) L c := opI_R (by omega) hL hc hc2
  refine r_I (rI_id (p := 0) (v := v0) opI_0 (opI_1.trans hv1)).symm ?_
  refine r_iconst (pc := 12) (v := 1) C dX9_countCommands_12 rfl ?_
  refine r_istore_n (pc := 13) (lo' := [(2, _), (0, _), (1, _)]) C dX9_countCommands_13 rfl (by decide) rfl ?_
  have loop_14 : ∀ (n_14 : Nat) (n p v : Nat) (nm : Nat → Int32), 62 - n < n_14 → (1 ≤ n) → (n ≤ 61) → (v < 9) → (p ≤ L) → (n ≤ p + 1) → ((n = 1 ∧ p = 0) ∨ (1 < n ∧ 0 < p ∧ p < L ∧ (if has c L p 59 then prV c L (61 - (n - 1)) (p + 1) (n - 1) else (false, p, n - 1)) = (prV c L 61 0 0))) → Go g k 3 (Qm g k (CCp (opI I (x + 507) (x + 510) L) (x + 507) (prV c L 61 0 0) X T) 0 0) 0 0 14 [(0, .ref x), (1, .int (nI L)), (2, .int (nI n))] [] X T ((rI (opI I (x + 507) (x + 510) L) (x + 507) p v nm)) := by
    intro n_14
    induction n_14 with
    | zero => intro _ _ _ _ h_; exact absurd h_ (Nat.not_lt_zero _)
    | succ n_14 ih_14 =>
      intro n p v nm hq hn1 hn61 hv9 hpL hnp hinv
      refine r_iload_n (pc := 14) C 2 dX9_countCommands_14 rfl rfl ?_
      refine r_bipush (pc := 15) (v := 60) C dX9_countCommands_15 rfl ?_
      refine r_cgtN (pc := 17) (tgt := 50) C dX9_countCommands_17 rfl (by omega) (by omega) (fun c_17 => False.elim (by omega)) (fun c_17 => ?_)
      refine r_aload_n (pc := 20) C 0 dX9_countCommands_20 rfl rfl ?_
      refine r_getR (pc := 21) (x := x + 507) C f_X9_35 hcl.1 rfl rfl dX9_countCommands_21 ?_
      have hQ : (∃ q, q ≤ L ∧ n - 1 ≤ q ∧ prV c L (61 - (n - 1)) q (n - 1) = (prV c L 61 0 0) ∧ Mc g yX2_readCommand cX2_readCommand 1 (some .boolean) 6 0 0 [.ref (x + 507)] X T (rI (opI I (x + 507) (x + 510) L) (x + 507) p v nm) (RC (opI I (x + 507) (x + 510) L) (x + 507) (cmV c L q) X T)) ∨ ((prV c L 61 0 0) = (false, p, n - 1) ∧ Mc g yX2_readCommand cX2_readCommand 1 (some .boolean) 6 0 0 [.ref (x + 507)] X T (rI (opI I (x + 507) (x + 510) L) (x + 507) p v nm) (Ex (some (.int (nI 0))) X T (rI (opI I (x + 507) (x + 510) L) (x + 507) p v nm))) := by
        rcases hinv with ⟨h1, h2⟩ | ⟨h1, h2, h3, h4⟩
        · subst h1; subst h2
          exact Or.inl ⟨0, by omega, by omega, rfl, c_cmd0 hcl.2.2.2.2.2.2.1 hR0 hv9⟩
        · by_cases h5 : has c L p 59
          · rw [if_pos h5] at h4
            exact Or.inl ⟨p + 1, by omega, by omega, h4, c_cmd1 hcl.2.2.2.2.2.2.1 hR0 hv9 h2 h5⟩
          · rw [if_neg h5] at h4
            exact Or.inr ⟨h4.symm, c_cmdx hcl.2.2.2.2.2.2.1 hR0 h2 hpL h5⟩
      rcases hQ with ⟨q, hq1, hq2, hq3, hM⟩ | ⟨hq3, hM⟩
      · skip
        refine r_callV9 (pc := 24) C hfl k_X9_407 hM hcl.2.2.2.2.2.2.1.1 ca_X2 rfl rfl (Nat.le_of_ble_eq_true rfl) (by decide) (by decide) dX9_countCommands_24 (fun r2 X2 T2 I2 h2 => ?_)
        obtain ⟨e1, e2, e3, v2, nm2, hv2, e4, -⟩ := h2
        subst X2
        subst T2
        subst r2
        subst I2
        refine r_st (st' := [.int _]) rfl ?_
        have q1 := cmV_le (c := c) hq1
        refine r_ifneB (pc := 27) (tgt := 32) C dX9_countCommands_27 rfl (fun c_27 => ?_) (fun c_27 => ?_)
        · skip
          refine r_aload_n (pc := 32) C 0 dX9_countCommands_32 rfl rfl ?_
          refine r_getR (pc := 33) (x := x + 507) C f_X9_35 hcl.1 rfl rfl dX9_countCommands_33 ?_
          refine r_c9i (pc := 36) C hfl k_X9_410 (c_isAtEnd hcl.2.2.2.2.2.2.1 hR0 q1.1) hcl.2.2.2.2.2.2.1.1 ca_X2 rfl rfl (Nat.le_of_ble_eq_true rfl) (by decide) (by decide) dX9_countCommands_36 ?_
          refine r_ifeqB (pc := 39) (tgt := 44) C dX9_countCommands_39 rfl (fun c_39 => ?_) (fun c_39 => ?_)
          · skip
            refine r_iincN (pc := 44) (m := 1) (lo' := [(2, _), (0, _), (1, _)]) C 2 dX9_countCommands_44 rfl rfl (by decide) rfl ?_
            refine r_goto (pc := 47) (tgt := 14) C dX9_countCommands_47 rfl ?_
            refine r_ls [1, 2, 0] rfl ?_
            exact ih_14 (n + 1) _ v2 nm2 (by omega) (by omega) (by omega) hv2 q1.1 (by have := (q1.2 c_27).1; omega) (Or.inr ⟨by omega, by have := (q1.2 c_27).1; omega, by omega, by rw [← hq3, show 61 - (n - 1) = (61 - n) + 1 by omega, show n + 1 - 1 = n by omega]; exact prV_st c_27 (by omega) (by omega)⟩)
          · skip
            refine r_iload_n (pc := 42) C 2 dX9_countCommands_42 rfl rfl ?_
            exact r_iret (pc := 43) C dX9_countCommands_43 (CCp_t (by rw [← hq3, show 61 - (n - 1) = (61 - n) + 1 by omega, prV_end c_27 (fun z => absurd z.1 (by omega)), decide_eq_true (show (cmV c L q).2.1 = L by have := q1.1; omega), show n - 1 + 1 = n by omega]) hv2) (by decide)
        · skip
          refine r_iconstm (pc := 30) C dX9_countCommands_30 rfl ?_
          exact r_iret (pc := 31) C dX9_countCommands_31 (CCp_f (by rw [← hq3, show 61 - (n - 1) = (61 - n) + 1 by omega, prV_no c_27]) hv2) (by decide)
      · skip
        refine r_c9i (pc := 24) C hfl k_X9_407 hM hcl.2.2.2.2.2.2.1.1 ca_X2 rfl rfl (Nat.le_of_ble_eq_true rfl) (by decide) (by decide) dX9_countCommands_24 ?_
        refine r_ifneN (pc := 27) (tgt := 32) C dX9_countCommands_27 rfl (by omega) (fun c_27 => False.elim (by omega)) (fun c_27 => ?_)
        refine r_iconstm (pc := 30) C dX9_countCommands_30 rfl ?_
        exact r_iret (pc := 31) C dX9_countCommands_31 (CCp_f hq3 hv9) (by decide)
      
  refine r_ls [1, 2, 0] rfl ?_
  exact loop_14 63 1 0 _ _ (by omega) (by omega) (by omega) hv0 (by omega) (by omega) (Or.inl ⟨rfl, rfl⟩)
