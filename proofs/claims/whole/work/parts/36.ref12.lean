set_option maxHeartbeats 1000000 in
theorem c_doesAll {g : GG} {X : va_W} {T : TT} {I : II} {M : Nat} (hm : isMd T M) {c : Nat → Nat} {L : Nat} (hI : Inp I M L c) {B N E D U : Nat} (hG0 : Gd (I (M + 1)) B N E D U) (hS0 : Sd (I (M + 1)) N) (hD : D + 6000 ≤ 100000) (hU : U + 100 ≤ 10000) (hok : (prV c L 61 0 0).1 = true) : Mc g yX10_doesAll cX10_doesAll 2 (some .boolean) 8 0 0 [.ref M] X T I (DA I M X T (exV c L 61 0 0 (I (M + 1)))) := by
  have hL := hI.2.1
  refine Mc.of (by decide) (Nat.le_of_ble_eq_true rfl) (fun k hfl C => ?_)
  refine r_lo (lo' := [(0, _)]) rfl ?_
  refine r_aload_n (pc := 0) C 0 dX10_doesAll_0 rfl rfl ?_
  refine r_iconst (pc := 1) (v := 0) C dX10_doesAll_1 rfl ?_
  refine r_putI (pc := 2) C f_X10_273 hm.1 rfl rfl rfl dX10_doesAll_2 ?_
  refine r_aload_n (pc := 5) C 0 dX10_doesAll_5 rfl rfl ?_
  refine r_iconst (pc := 6) (v := 0) C dX10_doesAll_6 rfl ?_
  refine r_putI (pc := 7) C f_X10_236 hm.1 rfl rfl rfl dX10_doesAll_7 ?_
  refine r_I exI_0 ?_
  refine r_iconst (pc := 10) (v := 1) C dX10_doesAll_10 rfl ?_
  refine r_istore_n (pc := 11) (lo' := [(1, _), (0, _)]) C dX10_doesAll_11 rfl (by decide) rfl ?_
  refine r_iload_n (pc := 12) C 0 dX10_doesAll_12 rfl rfl ?_
  refine r_ifeqN (pc := 13) (tgt := 55) C dX10_doesAll_13 rfl (by omega) (fun c_13 => False.elim (by omega)) (fun c_13 => ?_)
  have loop_16 : ∀ (n_16 : Nat) (f p n : Nat) (s : Int32) (nm w : Nat → Int32) (B N E : Nat), f < n_16 → (p ≤ L) → (n ≤ p) → (L - p < f) → ((prV c L f p n).1 = true) → (exV c L f p n w = exV c L 61 0 0 (I (M + 1))) → (Gd w B N E (D + 60 * n) (U + n)) → (Sd w N) → Go g k 2 (Qm g k (DA I M X T (exV c L 61 0 0 (I (M + 1)))) 0 0) 0 0 16 [(0, .ref M)] [] X T ((psI (exI I M n w) M p s nm)) := by
    intro n_16
    induction n_16 with
    | zero => intro _ _ _ _ _ _ _ _ _ h_; exact absurd h_ (Nat.not_lt_zero _)
    | succ n_16 ih_16 =>
      intro f p n s nm w B N E hf hp hnp hpf hpr hinv hG hS
      obtain ⟨f, rfl⟩ : ∃ f2, f = f2 + 1 := ⟨f - 1, by omega⟩
      have hL := hI.2.1
      have ok := prV_ok hpr
      have q1 := cmV_le (c := c) hp
      obtain ⟨g1, g2, g3⟩ := gd_cts hG
      have ec : cdW w (cmV c L p).2.2.1 (cmx (cmV c L p).2.2.2) = cdV w B N (cmV c L p).2.2.1 (cmx (cmV c L p).2.2.2) := by rw [cdW, g1, g2]
      refine r_aload_n (pc := 16) C 0 dX10_doesAll_16 rfl rfl ?_
      refine r_callV (pc := 17) C hfl k_X10_270 (c_readsCommand hm (Inp.v hI ((congrFun (sr_n (by omega)) _).trans (u2_o (by decide))) ((sr_n (by omega)).trans (u2_r (by omega)))) hp) hm.1 ca_X10 rfl rfl (Nat.le_of_ble_eq_true rfl) (by decide) (by decide) dX10_doesAll_17 (fun r2 X2 T2 I2 h2 => ?_)
      obtain ⟨rfl, rfl, rfl, s2, n2, rfl, h2⟩ := h2
      obtain ⟨hs2, hn2⟩ := h2 ok
      have hi9 := (q1.2 ok).2
      have hn3 : ∀ k_, k_ < (shL (cmV c L p).2.2.1).length → n2 k_ = (cmx (cmV c L p).2.2.2) k_ := fun k_ hk => hn2 k_ (by rw [cmV_len ok]; exact hk)
      refine r_st (st' := [.int _]) rfl ?_
      refine r_I (I' := sr (psI (u2 I M 17 (nI n)) M (cmV c L p).2.1 s2 n2) (M + 1) w) exI_s ?_
      refine r_pop (pc := 20) C dX10_doesAll_20 rfl ?_
      refine r_aload_n (pc := 21) C 0 dX10_doesAll_21 rfl rfl ?_
      refine r_cVi (pc := 22) C hfl k_X10_276 (c_notNow hm hG hi9 (psI_16.trans hs2)) hm.1 ca_X10 rfl rfl (Nat.le_of_ble_eq_true rfl) (by decide) (by decide) dX10_doesAll_22 ?_
      refine r_t (y := nI (cdW w (cmV c L p).2.2.1 (cmx (cmV c L p).2.2.2))) (congrArg nI (by rw [psI_7, cdV_c hi9 hn3, ← ec])) ?_
      refine r_ifeqN (pc := 25) (tgt := 30) C dX10_doesAll_25 rfl (by have := cdV_le (w := w) (B := bB w) (N := nN w) (i := (cmV c L p).2.2.1) (x := (cmx (cmV c L p).2.2.2)); unfold cdW; omega) (fun c_25 => ?_) (fun c_25 => ?_)
      · skip
        refine r_aload_n (pc := 30) C 0 dX10_doesAll_30 rfl rfl ?_
        refine r_cVi (pc := 31) C hfl k_X10_279 (c_doesNow hm hG hS hi9 (by rw [psI_7, cdV_c hi9 hn3, ← ec]; exact c_25) (psI_16.trans hs2) (by omega)) hm.1 ca_X10 rfl rfl (Nat.le_of_ble_eq_true rfl) (by decide) (by decide) dX10_doesAll_31 ?_
        refine r_pop (pc := 34) C dX10_doesAll_34 rfl ?_
        refine r_I (I' := sr (psI (u2 I M 17 (nI n)) M (cmV c L p).2.1 s2 n2) (M + 1) (chW w (cmV c L p).2.2.1 (cmx (cmV c L p).2.2.2))) (congrArg (sr _ (M + 1)) (by rw [psI_7, chR_c hi9 hn3, chW, g1, g2, g3])) ?_
        refine r_aload_n (pc := 35) C 0 dX10_doesAll_35 rfl rfl ?_
        refine r_dup (pc := 36) C dX10_doesAll_36 rfl ?_
        refine r_getI (pc := 37) C f_X10_273 hm.1 rfl dX10_doesAll_37 ?_
        refine r_t (y := nI n) ((congrFun (sr_n (by omega)) _).trans ((psI_f (by decide) (by decide)).trans u2_g)) ?_
        refine r_iconst (pc := 40) (v := 1) C dX10_doesAll_40 rfl ?_
        refine r_iaddN (pc := 41) C dX10_doesAll_41 ?_
        refine r_putI (pc := 42) C f_X10_273 hm.1 rfl rfl rfl dX10_doesAll_42 ?_
        refine r_I (exI_d (w := w)) ?_
        obtain ⟨B2, N2, E2, hG2, hS2⟩ := hG.cw hS c_25 hi9 (by omega) (by omega)
        refine r_aload_n (pc := 45) C 0 dX10_doesAll_45 rfl rfl ?_
        refine r_bipush (pc := 46) (v := 59) C dX10_doesAll_46 rfl ?_
        refine r_cVi (pc := 48) C hfl k_X10_242 (c_reads hm (Inp.v hI ((congrFun (sr_n (by omega)) _).trans (u2_o (by decide))) ((sr_n (by omega)).trans (u2_r (by omega)))) (by omega) (by omega)) hm.1 ca_X10 rfl rfl (Nat.le_of_ble_eq_true rfl) (by decide) (by decide) dX10_doesAll_48 ?_
        refine r_istore_n (pc := 51) (lo' := [(1, _), (0, _)]) C dX10_doesAll_51 rfl (by decide) rfl ?_
        refine r_goto (pc := 52) (tgt := 12) C dX10_doesAll_52 rfl ?_
        refine r_iload_n (pc := 12) C 0 dX10_doesAll_12 rfl rfl ?_
        refine r_ifeqB (pc := 13) (tgt := 55) C dX10_doesAll_13 rfl (fun c_13 => ?_) (fun c_13 => ?_)
        · skip
          refine r_I (psI_neg c_13) ?_
          refine r_iconst (pc := 55) (v := 1) C dX10_doesAll_55 rfl ?_
          exact r_zret (pc := 56) C rfl dX10_doesAll_56 (DA_ok (by rw [← hinv, exV_end c_25 c_13])) (by decide)
        · skip
          refine r_I (psI_pos c_13) ?_
          refine r_ls [1] rfl ?_
          exact ih_16 f _ _ _ _ _ _ _ _ (by omega) (by have := And.left c_13; omega) (by have := q1.2 ok; omega) (by have := And.left c_13; have := q1.2 ok; omega) (by rw [← prV_go ok c_13]; exact hpr) (by rw [← exV_go c_25 c_13]; exact hinv) (by rw [show D + 60 * (n + 1) = D + 60 * n + 60 by omega]; exact hG2) hS2
      · skip
        refine r_iconst (pc := 28) (v := 0) C dX10_doesAll_28 rfl ?_
        exact r_zret (pc := 29) C rfl dX10_doesAll_29 (by rw [← exI_s]; exact DA_no (by rw [← hinv, exV_no c_25])) (by decide)
  refine r_ls [1] rfl ?_
  exact loop_16 62 61 0 0 _ _ _ _ _ _ (by omega) (by omega) (by omega) (by omega) hok rfl hG0 hS0
