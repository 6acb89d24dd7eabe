set_option maxHeartbeats 1000000 in
theorem c_readsAll {g : GG} {X : va_W} {T : TT} {I : II} {M : Nat} (hm : isMd T M) {c : Nat → Nat} {L : Nat} (hI : Inp I M L c)  : Mc g yX10_readsAll cX10_readsAll 2 (some .boolean) 7 0 0 [.ref M] X T I (RA I M X T (prV c L 61 0 0)) := by
  have hL := hI.2.1
  refine Mc.of (by decide) (Nat.le_of_ble_eq_true rfl) (fun k hfl C => ?_)
  refine r_lo (lo' := [(0, _)]) rfl ?_
  refine r_aload_n (pc := 0) C 0 dX10_readsAll_0 rfl rfl ?_
  refine r_iconst (pc := 1) (v := 0) C dX10_readsAll_1 rfl ?_
  refine r_putI (pc := 2) C f_X10_236 hm.1 rfl rfl rfl dX10_readsAll_2 ?_
  refine r_I psI_id.symm ?_
  refine r_iconst (pc := 5) (v := 1) C dX10_readsAll_5 rfl ?_
  refine r_istore_n (pc := 6) (lo' := [(1, _), (0, _)]) C dX10_readsAll_6 rfl (by decide) rfl ?_
  refine r_iload_n (pc := 7) C 0 dX10_readsAll_7 rfl rfl ?_
  refine r_ifeqN (pc := 8) (tgt := 30) C dX10_readsAll_8 rfl (by omega) (fun c_8 => False.elim (by omega)) (fun c_8 => ?_)
  have loop_11 : ∀ (n_11 : Nat) (f p n : Nat) (s : Int32) (nm : Nat → Int32), f < n_11 → (p ≤ L) → (L - p < f) → (prV c L f p n = prV c L 61 0 0) → Go g k 2 (Qm g k (RA I M X T (prV c L 61 0 0)) 0 0) 0 0 11 [(0, .ref M)] [] X T ((psI I M p s nm)) := by
    intro n_11
    induction n_11 with
    | zero => intro _ _ _ _ _ h_; exact absurd h_ (Nat.not_lt_zero _)
    | succ n_11 ih_11 =>
      intro f p n s nm hf hp hpf hinv
      obtain ⟨f, rfl⟩ : ∃ f2, f = f2 + 1 := ⟨f - 1, by omega⟩
      refine r_aload_n (pc := 11) C 0 dX10_readsAll_11 rfl rfl ?_
      refine r_callV (pc := 12) C hfl k_X10_270 (c_readsCommand hm hI (by omega)) hm.1 ca_X10 rfl rfl (Nat.le_of_ble_eq_true rfl) (by decide) (by decide) dX10_readsAll_12 (fun r2 X2 T2 I2 h2 => ?_)
      obtain ⟨rfl, rfl, rfl, s2, n2, rfl, h2⟩ := h2
      refine r_st (st' := [.int (bI ((cmV c L p).1 = true))]) rfl ?_
      refine r_ifneB (pc := 15) (tgt := 20) C dX10_readsAll_15 rfl (fun c_15 => ?_) (fun c_15 => ?_)
      · skip
        have q1 := cmV_le (c := c) hp
        have q2 := q1.2 c_15
        refine r_aload_n (pc := 20) C 0 dX10_readsAll_20 rfl rfl ?_
        refine r_bipush (pc := 21) (v := 59) C dX10_readsAll_21 rfl ?_
        refine r_cVi (pc := 23) C hfl k_X10_242 (c_reads hm hI (by omega) (by omega)) hm.1 ca_X10 rfl rfl (Nat.le_of_ble_eq_true rfl) (by decide) (by decide) dX10_readsAll_23 ?_
        refine r_istore_n (pc := 26) (lo' := [(1, _), (0, _)]) C dX10_readsAll_26 rfl (by decide) rfl ?_
        refine r_goto (pc := 27) (tgt := 7) C dX10_readsAll_27 rfl ?_
        refine r_iload_n (pc := 7) C 0 dX10_readsAll_7 rfl rfl ?_
        refine r_ifeqB (pc := 8) (tgt := 30) C dX10_readsAll_8 rfl (fun c_8 => ?_) (fun c_8 => ?_)
        · skip
          refine r_I (psI_neg c_8) ?_
          refine r_aload_n (pc := 30) C 1 dX10_readsAll_30 rfl rfl ?_
          refine r_getI (pc := 31) C f_X10_236 hm.1 rfl dX10_readsAll_31 ?_
          refine r_t (y := nI ((cmV c L p).2.1)) psI_12 ?_
          refine r_aload_n (pc := 34) C 1 dX10_readsAll_34 rfl rfl ?_
          refine r_getI (pc := 35) C f_X10_233 hm.1 rfl dX10_readsAll_35 ?_
          refine r_t (y := nI L) ((psI_f (by decide) (by decide)).trans hI.1) ?_
          refine r_cneN (pc := 38) (tgt := 45) C dX10_readsAll_38 rfl (by omega) (by omega) (fun c_38 => ?_) (fun c_38 => ?_)
          · skip
            refine r_iconst (pc := 45) (v := 0) C dX10_readsAll_45 rfl ?_
            exact r_zret (pc := 46) C rfl dX10_readsAll_46 (RA_f hinv c_15 c_8 c_38) (by decide)
          · skip
            refine r_iconst (pc := 41) (v := 1) C dX10_readsAll_41 rfl ?_
            refine r_goto (pc := 42) (tgt := 46) C dX10_readsAll_42 rfl ?_
            exact r_zret (pc := 46) C rfl dX10_readsAll_46 (RA_t hinv c_15 c_8 c_38) (by decide)
        · skip
          refine r_I (psI_pos c_8) ?_
          refine r_ls [1] rfl ?_
          exact ih_11 _ _ _ _ _ (by omega) (by have := And.left c_8; omega) (by have := And.left c_8; omega) ((prV_go c_15 c_8).symm.trans hinv)
      · skip
        refine r_iconst (pc := 18) (v := 0) C dX10_readsAll_18 rfl ?_
        exact r_zret (pc := 19) C rfl dX10_readsAll_19 (RA_no hinv c_15) (by decide)
  refine r_ls [1] rfl ?_
  exact loop_11 62 61 0 0 _ _ (by omega) (by omega) (by omega) rfl

theorem g_notPledge {g : GG} {X : va_W} {T : TT} {I : II} {M : Nat} {w : Nat → Int32} (hm : isMd T M) {B N E D U : Nat} (hG : Gd w B N E D U) {id k_ u : Int32} : Mc g yX10_notPledge cX10_notPledge 5 (some .int) 4 0 0 [.ref M, .int id, .int k_, .int u] X T (sr I (M + 1) w) (Ex (some (.int (nI (fPledge w (slV w N id) k_ u)))) X T (sr I (M + 1) w)) := by
  have hr := slV_at w N id
  rcases atS_or hr with ⟨s, hs, e, -⟩ | e
  · rw [e] at hr ⊢
    exact c_notPledge__s hm hG.N.1 hG.N.2 hs (by have := (hG.own hs).1; have := hG.B.2; omega) (hG.own hs).2 hr
  · rw [e] at hr ⊢
    exact c_notPledge__n hm hG.N.1 hG.N.2 hr
theorem g_notRelease {g : GG} {X : va_W} {T : TT} {I : II} {M : Nat} {w : Nat → Int32} (hm : isMd T M) {B N E D U : Nat} (hG : Gd w B N E D U) {id k_ u : Int32} : Mc g yX10_notRelease cX10_notRelease 6 (some .int) 4 0 0 [.ref M, .int id, .int k_, .int u] X T (sr I (M + 1) w) (Ex (some (.int (nI (fRelease w (slV w N id) k_ u)))) X T (sr I (M + 1) w)) := by
  have hr := slV_at w N id
  rcases atS_or hr with ⟨s, hs, e, -⟩ | e
  · rw [e] at hr ⊢
    exact c_notRelease__s hm hG.N.1 hG.N.2 hs hr
  · rw [e] at hr ⊢
    exact c_notRelease__n hm hG.N.1 hG.N.2 hr
theorem g_notRepay {g : GG} {X : va_W} {T : TT} {I : II} {M : Nat} {w : Nat → Int32} (hm : isMd T M) {B N E D U : Nat} (hG : Gd w B N E D U) {id c_ : Int32} : Mc g yX10_notRepay cX10_notRepay 4 (some .int) 4 0 0 [.ref M, .int id, .int c_] X T (sr I (M + 1) w) (Ex (some (.int (nI (fRepay w (slV w N id) c_)))) X T (sr I (M + 1) w)) := by
  have hr := slV_at w N id
  rcases atS_or hr with ⟨s, hs, e, -⟩ | e
  · rw [e] at hr ⊢
    exact c_notRepay__s hm hG.N.1 hG.N.2 hs (by have := (hG.own hs).1; have := hG.B.2; omega) (hG.own hs).2 hr
  · rw [e] at hr ⊢
    exact c_notRepay__n hm hG.N.1 hG.N.2 hr

set_option maxHeartbeats 1000000 in
theorem c_notNow__0 {g : GG} {X : va_W} {T : TT} {I : II} {M : Nat} {w : Nat → Int32} (hm : isMd T M) {B N E D U : Nat} (hG : Gd w B N E D U) (h16 : I M 16 = nI 111) : Mc g yX10_notNow cX10_notNow 4 (some .int) 5 0 0 [.ref M] X T (sr I (M + 1) w) (Ex (some (.int (nI (cdV w B N 0 (I (M + 7)))))) X T (sr I (M + 1) w)) := by
  refine Mc.of (by decide) (Nat.le_of_ble_eq_true rfl) (fun k hfl C => ?_)
  refine r_lo (lo' := [(0, _)]) rfl ?_
  refine r_aload_n (pc := 0) C 0 dX10_notNow_0 rfl rfl ?_
  refine r_getR (pc := 1) (x := M + 7) C f_X10_39 hm.1 rfl rfl dX10_notNow_1 ?_
  refine r_iconst (pc := 4) (v := 0) C dX10_notNow_4 rfl ?_
  refine r_wld2 (pc := 5) (x := 0) (by omega) C hm.2.2.2.2.2.2.2 rfl (by omega) (by decide) dX10_notNow_5 ?_
  refine r_istore_n (pc := 6) (lo' := [(1, _), (0, _)]) C dX10_notNow_6 rfl (by decide) rfl ?_
  refine r_aload_n (pc := 7) C 1 dX10_notNow_7 rfl rfl ?_
  refine r_getR (pc := 8) (x := M + 7) C f_X10_39 hm.1 rfl rfl dX10_notNow_8 ?_
  refine r_iconst (pc := 11) (v := 1) C dX10_notNow_11 rfl ?_
  refine r_wld2 (pc := 12) (x := 1) (by omega) C hm.2.2.2.2.2.2.2 rfl (by omega) (by decide) dX10_notNow_12 ?_
  refine r_istore_n (pc := 13) (lo' := [(2, _), (1, _), (0, _)]) C dX10_notNow_13 rfl (by decide) rfl ?_
  refine r_aload_n (pc := 14) C 2 dX10_notNow_14 rfl rfl ?_
  refine r_getR (pc := 15) (x := M + 7) C f_X10_39 hm.1 rfl rfl dX10_notNow_15 ?_
  refine r_iconst (pc := 18) (v := 2) C dX10_notNow_18 rfl ?_
  refine r_wld2 (pc := 19) (x := 2) (by omega) C hm.2.2.2.2.2.2.2 rfl (by omega) (by decide) dX10_notNow_19 ?_
  refine r_istore_n (pc := 20) (lo' := [(3, _), (2, _), (1, _), (0, _)]) C dX10_notNow_20 rfl (by decide) rfl ?_
  refine r_aload_n (pc := 21) C 3 dX10_notNow_21 rfl rfl ?_
  refine r_wget (pc := 22) (by omega) C f_X10_252 hm.1 rfl dX10_notNow_22 ?_
  refine r_t (y := nI 111) h16 ?_
  refine r_tblI (pc := 25) (tgt := 140) C dX10_notNow_25 (by decide) (by decide) (by rfl) rfl ?_
  refine r_aload_n (pc := 140) C 3 dX10_notNow_140 rfl rfl ?_
  refine r_iload_n (pc := 141) C 2 dX10_notNow_141 rfl rfl ?_
  refine r_cVi (pc := 142) C hfl k_X10_76 (c_notBorrower hm hG.B.1 hG.B.2) hm.1 ca_X10 rfl rfl (Nat.le_of_ble_eq_true rfl) (by decide) (by decide) dX10_notNow_142 ?_
  exact r_iret (pc := 145) C dX10_notNow_145 ⟨rfl, rfl, rfl, rfl⟩ (by decide)

set_option maxHeartbeats 1000000 in
theorem c_notNow__1 {g : GG} {X : va_W} {T : TT} {I : II} {M : Nat} {w : Nat → Int32} (hm : isMd T M) {B N E D U : Nat} (hG : Gd w B N E D U) (h16 : I M 16 = nI 103) : Mc g yX10_notNow cX10_notNow 4 (some .int) 5 0 0 [.ref M] X T (sr I (M + 1) w) (Ex (some (.int (nI (cdV w B N 1 (I (M + 7)))))) X T (sr I (M + 1) w)) := by
  refine Mc.of (by decide) (Nat.le_of_ble_eq_true rfl) (fun k hfl C => ?_)
  refine r_lo (lo' := [(0, _)]) rfl ?_
  refine r_aload_n (pc := 0) C 0 dX10_notNow_0 rfl rfl ?_
  refine r_getR (pc := 1) (x := M + 7) C f_X10_39 hm.1 rfl rfl dX10_notNow_1 ?_
  refine r_iconst (pc := 4) (v := 0) C dX10_notNow_4 rfl ?_
  refine r_wld2 (pc := 5) (x := 0) (by omega) C hm.2.2.2.2.2.2.2 rfl (by omega) (by decide) dX10_notNow_5 ?_
  refine r_istore_n (pc := 6) (lo' := [(1, _), (0, _)]) C dX10_notNow_6 rfl (by decide) rfl ?_
  refine r_aload_n (pc := 7) C 1 dX10_notNow_7 rfl rfl ?_
  refine r_getR (pc := 8) (x := M + 7) C f_X10_39 hm.1 rfl rfl dX10_notNow_8 ?_
  refine r_iconst (pc := 11) (v := 1) C dX10_notNow_11 rfl ?_
  refine r_wld2 (pc := 12) (x := 1) (by omega) C hm.2.2.2.2.2.2.2 rfl (by omega) (by decide) dX10_notNow_12 ?_
  refine r_istore_n (pc := 13) (lo' := [(2, _), (1, _), (0, _)]) C dX10_notNow_13 rfl (by decide) rfl ?_
  refine r_aload_n (pc := 14) C 2 dX10_notNow_14 rfl rfl ?_
  refine r_getR (pc := 15) (x := M + 7) C f_X10_39 hm.1 rfl rfl dX10_notNow_15 ?_
  refine r_iconst (pc := 18) (v := 2) C dX10_notNow_18 rfl ?_
  refine r_wld2 (pc := 19) (x := 2) (by omega) C hm.2.2.2.2.2.2.2 rfl (by omega) (by decide) dX10_notNow_19 ?_
  refine r_istore_n (pc := 20) (lo' := [(3, _), (2, _), (1, _), (0, _)]) C dX10_notNow_20 rfl (by decide) rfl ?_
  refine r_aload_n (pc := 21) C 3 dX10_notNow_21 rfl rfl ?_
  refine r_wget (pc := 22) (by omega) C f_X10_252 hm.1 rfl dX10_notNow_22 ?_
  refine r_t (y := nI 103) h16 ?_
  refine r_tblI (pc := 25) (tgt := 146) C dX10_notNow_25 (by decide) (by decide) (by rfl) rfl ?_
  refine r_aload_n (pc := 146) C 3 dX10_notNow_146 rfl rfl ?_
  refine r_iload_n (pc := 147) C 2 dX10_notNow_147 rfl rfl ?_
  refine r_iload_n (pc := 148) C 1 dX10_notNow_148 rfl rfl ?_
  refine r_iload_n (pc := 149) C 0 dX10_notNow_149 rfl rfl ?_
  refine r_cVi (pc := 150) C hfl k_X10_98 (c_notBring hm hG.B.1 hG.B.2) hm.1 ca_X10 rfl rfl (Nat.le_of_ble_eq_true rfl) (by decide) (by decide) dX10_notNow_150 ?_
  exact r_iret (pc := 153) C dX10_notNow_153 ⟨rfl, rfl, rfl, rfl⟩ (by decide)

set_option maxHeartbeats 1000000 in
theorem c_notNow__2 {g : GG} {X : va_W} {T : TT} {I : II} {M : Nat} {w : Nat → Int32} (hm : isMd T M) {B N E D U : Nat} (hG : Gd w B N E D U) (h16 : I M 16 = nI 112) : Mc g yX10_notNow cX10_notNow 4 (some .int) 5 0 0 [.ref M] X T (sr I (M + 1) w) (Ex (some (.int (nI (cdV w B N 2 (I (M + 7)))))) X T (sr I (M + 1) w)) := by
  refine Mc.of (by decide) (Nat.le_of_ble_eq_true rfl) (fun k hfl C => ?_)
  refine r_lo (lo' := [(0, _)]) rfl ?_
  refine r_aload_n (pc := 0) C 0 dX10_notNow_0 rfl rfl ?_
  refine r_getR (pc := 1) (x := M + 7) C f_X10_39 hm.1 rfl rfl dX10_notNow_1 ?_
  refine r_iconst (pc := 4) (v := 0) C dX10_notNow_4 rfl ?_
  refine r_wld2 (pc := 5) (x := 0) (by omega) C hm.2.2.2.2.2.2.2 rfl (by omega) (by decide) dX10_notNow_5 ?_
  refine r_istore_n (pc := 6) (lo' := [(1, _), (0, _)]) C dX10_notNow_6 rfl (by decide) rfl ?_
  refine r_aload_n (pc := 7) C 1 dX10_notNow_7 rfl rfl ?_
  refine r_getR (pc := 8) (x := M + 7) C f_X10_39 hm.1 rfl rfl dX10_notNow_8 ?_
  refine r_iconst (pc := 11) (v := 1) C dX10_notNow_11 rfl ?_
  refine r_wld2 (pc := 12) (x := 1) (by omega) C hm.2.2.2.2.2.2.2 rfl (by omega) (by decide) dX10_notNow_12 ?_
  refine r_istore_n (pc := 13) (lo' := [(2, _), (1, _), (0, _)]) C dX10_notNow_13 rfl (by decide) rfl ?_
  refine r_aload_n (pc := 14) C 2 dX10_notNow_14 rfl rfl ?_
  refine r_getR (pc := 15) (x := M + 7) C f_X10_39 hm.1 rfl rfl dX10_notNow_15 ?_
  refine r_iconst (pc := 18) (v := 2) C dX10_notNow_18 rfl ?_
  refine r_wld2 (pc := 19) (x := 2) (by omega) C hm.2.2.2.2.2.2.2 rfl (by omega) (by decide) dX10_notNow_19 ?_
  refine r_istore_n (pc := 20) (lo' := [(3, _), (2, _), (1, _), (0, _)]) C dX10_notNow_20 rfl (by decide) rfl ?_
  refine r_aload_n (pc := 21) C 3 dX10_notNow_21 rfl rfl ?_
  refine r_wget (pc := 22) (by omega) C f_X10_252 hm.1 rfl dX10_notNow_22 ?_
  refine r_t (y := nI 112) h16 ?_
  refine r_tblI (pc := 25) (tgt := 154) C dX10_notNow_25 (by decide) (by decide) (by rfl) rfl ?_
  refine r_iload_n (pc := 154) C 2 dX10_notNow_154 rfl rfl ?_
  refine r_iload_n (pc := 155) C 1 dX10_notNow_155 rfl rfl ?_
  refine r_cSi (pc := 156) C hfl k_X10_105 (c_notPrice _ _) rfl rfl (Nat.le_of_ble_eq_true rfl) (by decide) (by decide) dX10_notNow_156 ?_
  exact r_iret (pc := 159) C dX10_notNow_159 ⟨rfl, rfl, rfl, rfl⟩ (by decide)

set_option maxHeartbeats 1000000 in
theorem c_notNow__3 {g : GG} {X : va_W} {T : TT} {I : II} {M : Nat} {w : Nat → Int32} (hm : isMd T M) {B N E D U : Nat} (hG : Gd w B N E D U) (h16 : I M 16 = nI 108) : Mc g yX10_notNow cX10_notNow 4 (some .int) 5 0 0 [.ref M] X T (sr I (M + 1) w) (Ex (some (.int (nI (cdV w B N 3 (I (M + 7)))))) X T (sr I (M + 1) w)) := by
  refine Mc.of (by decide) (Nat.le_of_ble_eq_true rfl) (fun k hfl C => ?_)
  refine r_lo (lo' := [(0, _)]) rfl ?_
  refine r_aload_n (pc := 0) C 0 dX10_notNow_0 rfl rfl ?_
  refine r_getR (pc := 1) (x := M + 7) C f_X10_39 hm.1 rfl rfl dX10_notNow_1 ?_
  refine r_iconst (pc := 4) (v := 0) C dX10_notNow_4 rfl ?_
  refine r_wld2 (pc := 5) (x := 0) (by omega) C hm.2.2.2.2.2.2.2 rfl (by omega) (by decide) dX10_notNow_5 ?_
  refine r_istore_n (pc := 6) (lo' := [(1, _), (0, _)]) C dX10_notNow_6 rfl (by decide) rfl ?_
  refine r_aload_n (pc := 7) C 1 dX10_notNow_7 rfl rfl ?_
  refine r_getR (pc := 8) (x := M + 7) C f_X10_39 hm.1 rfl rfl dX10_notNow_8 ?_
  refine r_iconst (pc := 11) (v := 1) C dX10_notNow_11 rfl ?_
  refine r_wld2 (pc := 12) (x := 1) (by omega) C hm.2.2.2.2.2.2.2 rfl (by omega) (by decide) dX10_notNow_12 ?_
  refine r_istore_n (pc := 13) (lo' := [(2, _), (1, _), (0, _)]) C dX10_notNow_13 rfl (by decide) rfl ?_
  refine r_aload_n (pc := 14) C 2 dX10_notNow_14 rfl rfl ?_
  refine r_getR (pc := 15) (x := M + 7) C f_X10_39 hm.1 rfl rfl dX10_notNow_15 ?_
  refine r_iconst (pc := 18) (v := 2) C dX10_notNow_18 rfl ?_
  refine r_wld2 (pc := 19) (x := 2) (by omega) C hm.2.2.2.2.2.2.2 rfl (by omega) (by decide) dX10_notNow_19 ?_
  refine r_istore_n (pc := 20) (lo' := [(3, _), (2, _), (1, _), (0, _)]) C dX10_notNow_20 rfl (by decide) rfl ?_
  refine r_aload_n (pc := 21) C 3 dX10_notNow_21 rfl rfl ?_
  refine r_wget (pc := 22) (by omega) C f_X10_252 hm.1 rfl dX10_notNow_22 ?_
  refine r_t (y := nI 108) h16 ?_
  refine r_tblI (pc := 25) (tgt := 160) C dX10_notNow_25 (by decide) (by decide) (by rfl) rfl ?_
  refine r_aload_n (pc := 160) C 3 dX10_notNow_160 rfl rfl ?_
  refine r_iload_n (pc := 161) C 2 dX10_notNow_161 rfl rfl ?_
  refine r_iload_n (pc := 162) C 1 dX10_notNow_162 rfl rfl ?_
  refine r_iload_n (pc := 163) C 0 dX10_notNow_163 rfl rfl ?_
  refine r_aload_n (pc := 164) C 3 dX10_notNow_164 rfl rfl ?_
  refine r_getR (pc := 165) (x := M + 7) C f_X10_39 hm.1 rfl rfl dX10_notNow_165 ?_
  refine r_iconst (pc := 168) (v := 3) C dX10_notNow_168 rfl ?_
  refine r_wld2 (pc := 169) (x := 3) (by omega) C hm.2.2.2.2.2.2.2 rfl (by omega) (by decide) dX10_notNow_169 ?_
  refine r_aload_n (pc := 170) C 3 dX10_notNow_170 rfl rfl ?_
  refine r_getR (pc := 171) (x := M + 7) C f_X10_39 hm.1 rfl rfl dX10_notNow_171 ?_
  refine r_iconst (pc := 174) (v := 4) C dX10_notNow_174 rfl ?_
  refine r_wld2 (pc := 175) (x := 4) (by omega) C hm.2.2.2.2.2.2.2 rfl (by omega) (by decide) dX10_notNow_175 ?_
  refine r_cVi (pc := 176) C hfl k_X10_114 (c_notLend hm hG.B.1 hG.B.2 hG.N.1 hG.N.2) hm.1 ca_X10 rfl rfl (Nat.le_of_ble_eq_true rfl) (by decide) (by decide) dX10_notNow_176 ?_
  exact r_iret (pc := 179) C dX10_notNow_179 ⟨rfl, rfl, rfl, rfl⟩ (by decide)

set_option maxHeartbeats 1000000 in
theorem c_notNow__4 {g : GG} {X : va_W} {T : TT} {I : II} {M : Nat} {w : Nat → Int32} (hm : isMd T M) {B N E D U : Nat} (hG : Gd w B N E D U) (h16 : I M 16 = nI 101) : Mc g yX10_notNow cX10_notNow 4 (some .int) 5 0 0 [.ref M] X T (sr I (M + 1) w) (Ex (some (.int (nI (cdV w B N 4 (I (M + 7)))))) X T (sr I (M + 1) w)) := by
  refine Mc.of (by decide) (Nat.le_of_ble_eq_true rfl) (fun k hfl C => ?_)
  refine r_lo (lo' := [(0, _)]) rfl ?_
  refine r_aload_n (pc := 0) C 0 dX10_notNow_0 rfl rfl ?_
  refine r_getR (pc := 1) (x := M + 7) C f_X10_39 hm.1 rfl rfl dX10_notNow_1 ?_
  refine r_iconst (pc := 4) (v := 0) C dX10_notNow_4 rfl ?_
  refine r_wld2 (pc := 5) (x := 0) (by omega) C hm.2.2.2.2.2.2.2 rfl (by omega) (by decide) dX10_notNow_5 ?_
  refine r_istore_n (pc := 6) (lo' := [(1, _), (0, _)]) C dX10_notNow_6 rfl (by decide) rfl ?_
  refine r_aload_n (pc := 7) C 1 dX10_notNow_7 rfl rfl ?_
  refine r_getR (pc := 8) (x := M + 7) C f_X10_39 hm.1 rfl rfl dX10_notNow_8 ?_
  refine r_iconst (pc := 11) (v := 1) C dX10_notNow_11 rfl ?_
  refine r_wld2 (pc := 12) (x := 1) (by omega) C hm.2.2.2.2.2.2.2 rfl (by omega) (by decide) dX10_notNow_12 ?_
  refine r_istore_n (pc := 13) (lo' := [(2, _), (1, _), (0, _)]) C dX10_notNow_13 rfl (by decide) rfl ?_
  refine r_aload_n (pc := 14) C 2 dX10_notNow_14 rfl rfl ?_
  refine r_getR (pc := 15) (x := M + 7) C f_X10_39 hm.1 rfl rfl dX10_notNow_15 ?_
  refine r_iconst (pc := 18) (v := 2) C dX10_notNow_18 rfl ?_
  refine r_wld2 (pc := 19) (x := 2) (by omega) C hm.2.2.2.2.2.2.2 rfl (by omega) (by decide) dX10_notNow_19 ?_
  refine r_istore_n (pc := 20) (lo' := [(3, _), (2, _), (1, _), (0, _)]) C dX10_notNow_20 rfl (by decide) rfl ?_
  refine r_aload_n (pc := 21) C 3 dX10_notNow_21 rfl rfl ?_
  refine r_wget (pc := 22) (by omega) C f_X10_252 hm.1 rfl dX10_notNow_22 ?_
  refine r_t (y := nI 101) h16 ?_
  refine r_tblI (pc := 25) (tgt := 180) C dX10_notNow_25 (by decide) (by decide) (by rfl) rfl ?_
  refine r_aload_n (pc := 180) C 3 dX10_notNow_180 rfl rfl ?_
  refine r_iload_n (pc := 181) C 2 dX10_notNow_181 rfl rfl ?_
  refine r_iload_n (pc := 182) C 1 dX10_notNow_182 rfl rfl ?_
  refine r_iload_n (pc := 183) C 0 dX10_notNow_183 rfl rfl ?_
  refine r_cVi (pc := 184) C hfl k_X10_124 (g_notPledge hm hG) hm.1 ca_X10 rfl rfl (Nat.le_of_ble_eq_true rfl) (by decide) (by decide) dX10_notNow_184 ?_
  exact r_iret (pc := 187) C dX10_notNow_187 ⟨rfl, rfl, rfl, rfl⟩ (by decide)

set_option maxHeartbeats 1000000 in
theorem c_notNow__5 {g : GG} {X : va_W} {T : TT} {I : II} {M : Nat} {w : Nat → Int32} (hm : isMd T M) {B N E D U : Nat} (hG : Gd w B N E D U) (h16 : I M 16 = nI 97) : Mc g yX10_notNow cX10_notNow 4 (some .int) 5 0 0 [.ref M] X T (sr I (M + 1) w) (Ex (some (.int (nI (cdV w B N 5 (I (M + 7)))))) X T (sr I (M + 1) w)) := by
  refine Mc.of (by decide) (Nat.le_of_ble_eq_true rfl) (fun k hfl C => ?_)
  refine r_lo (lo' := [(0, _)]) rfl ?_
  refine r_aload_n (pc := 0) C 0 dX10_notNow_0 rfl rfl ?_
  refine r_getR (pc := 1) (x := M + 7) C f_X10_39 hm.1 rfl rfl dX10_notNow_1 ?_
  refine r_iconst (pc := 4) (v := 0) C dX10_notNow_4 rfl ?_
  refine r_wld2 (pc := 5) (x := 0) (by omega) C hm.2.2.2.2.2.2.2 rfl (by omega) (by decide) dX10_notNow_5 ?_
  refine r_istore_n (pc := 6) (lo' := [(1, _), (0, _)]) C dX10_notNow_6 rfl (by decide) rfl ?_
  refine r_aload_n (pc := 7) C 1 dX10_notNow_7 rfl rfl ?_
  refine r_getR (pc := 8) (x := M + 7) C f_X10_39 hm.1 rfl rfl dX10_notNow_8 ?_
  refine r_iconst (pc := 11) (v := 1) C dX10_notNow_11 rfl ?_
  refine r_wld2 (pc := 12) (x := 1) (by omega) C hm.2.2.2.2.2.2.2 rfl (by omega) (by decide) dX10_notNow_12 ?_
  refine r_istore_n (pc := 13) (lo' := [(2, _), (1, _), (0, _)]) C dX10_notNow_13 rfl (by decide) rfl ?_
  refine r_aload_n (pc := 14) C 2 dX10_notNow_14 rfl rfl ?_
  refine r_getR (pc := 15) (x := M + 7) C f_X10_39 hm.1 rfl rfl dX10_notNow_15 ?_
  refine r_iconst (pc := 18) (v := 2) C dX10_notNow_18 rfl ?_
  refine r_wld2 (pc := 19) (x := 2) (by omega) C hm.2.2.2.2.2.2.2 rfl (by omega) (by decide) dX10_notNow_19 ?_
  refine r_istore_n (pc := 20) (lo' := [(3, _), (2, _), (1, _), (0, _)]) C dX10_notNow_20 rfl (by decide) rfl ?_
  refine r_aload_n (pc := 21) C 3 dX10_notNow_21 rfl rfl ?_
  refine r_wget (pc := 22) (by omega) C f_X10_252 hm.1 rfl dX10_notNow_22 ?_
  refine r_t (y := nI 97) h16 ?_
  refine r_tblI (pc := 25) (tgt := 188) C dX10_notNow_25 (by decide) (by decide) (by rfl) rfl ?_
  refine r_aload_n (pc := 188) C 3 dX10_notNow_188 rfl rfl ?_
  refine r_iload_n (pc := 189) C 2 dX10_notNow_189 rfl rfl ?_
  refine r_iload_n (pc := 190) C 1 dX10_notNow_190 rfl rfl ?_
  refine r_iload_n (pc := 191) C 0 dX10_notNow_191 rfl rfl ?_
  refine r_cVi (pc := 192) C hfl k_X10_130 (g_notRelease hm hG) hm.1 ca_X10 rfl rfl (Nat.le_of_ble_eq_true rfl) (by decide) (by decide) dX10_notNow_192 ?_
  exact r_iret (pc := 195) C dX10_notNow_195 ⟨rfl, rfl, rfl, rfl⟩ (by decide)

set_option maxHeartbeats 1000000 in
theorem c_notNow__6 {g : GG} {X : va_W} {T : TT} {I : II} {M : Nat} {w : Nat → Int32} (hm : isMd T M) {B N E D U : Nat} (hG : Gd w B N E D U) (h16 : I M 16 = nI 121) : Mc g yX10_notNow cX10_notNow 4 (some .int) 5 0 0 [.ref M] X T (sr I (M + 1) w) (Ex (some (.int (nI (cdV w B N 6 (I (M + 7)))))) X T (sr I (M + 1) w)) := by
  refine Mc.of (by decide) (Nat.le_of_ble_eq_true rfl) (fun k hfl C => ?_)
  refine r_lo (lo' := [(0, _)]) rfl ?_
  refine r_aload_n (pc := 0) C 0 dX10_notNow_0 rfl rfl ?_
  refine r_getR (pc := 1) (x := M + 7) C f_X10_39 hm.1 rfl rfl dX10_notNow_1 ?_
  refine r_iconst (pc := 4) (v := 0) C dX10_notNow_4 rfl ?_
  refine r_wld2 (pc := 5) (x := 0) (by omega) C hm.2.2.2.2.2.2.2 rfl (by omega) (by decide) dX10_notNow_5 ?_
  refine r_istore_n (pc := 6) (lo' := [(1, _), (0, _)]) C dX10_notNow_6 rfl (by decide) rfl ?_
  refine r_aload_n (pc := 7) C 1 dX10_notNow_7 rfl rfl ?_
  refine r_getR (pc := 8) (x := M + 7) C f_X10_39 hm.1 rfl rfl dX10_notNow_8 ?_
  refine r_iconst (pc := 11) (v := 1) C dX10_notNow_11 rfl ?_
  refine r_wld2 (pc := 12) (x := 1) (by omega) C hm.2.2.2.2.2.2.2 rfl (by omega) (by decide) dX10_notNow_12 ?_
  refine r_istore_n (pc := 13) (lo' := [(2, _), (1, _), (0, _)]) C dX10_notNow_13 rfl (by decide) rfl ?_
  refine r_aload_n (pc := 14) C 2 dX10_notNow_14 rfl rfl ?_
  refine r_getR (pc := 15) (x := M + 7) C f_X10_39 hm.1 rfl rfl dX10_notNow_15 ?_
  refine r_iconst (pc := 18) (v := 2) C dX10_notNow_18 rfl ?_
  refine r_wld2 (pc := 19) (x := 2) (by omega) C hm.2.2.2.2.2.2.2 rfl (by omega) (by decide) dX10_notNow_19 ?_
  refine r_istore_n (pc := 20) (lo' := [(3, _), (2, _), (1, _), (0, _)]) C dX10_notNow_20 rfl (by decide) rfl ?_
  refine r_aload_n (pc := 21) C 3 dX10_notNow_21 rfl rfl ?_
  refine r_wget (pc := 22) (by omega) C f_X10_252 hm.1 rfl dX10_notNow_22 ?_
  refine r_t (y := nI 121) h16 ?_
  refine r_tblI (pc := 25) (tgt := 196) C dX10_notNow_25 (by decide) (by decide) (by rfl) rfl ?_
  refine r_aload_n (pc := 196) C 3 dX10_notNow_196 rfl rfl ?_
  refine r_iload_n (pc := 197) C 2 dX10_notNow_197 rfl rfl ?_
  refine r_iload_n (pc := 198) C 1 dX10_notNow_198 rfl rfl ?_
  refine r_cVi (pc := 199) C hfl k_X10_150 (g_notRepay hm hG) hm.1 ca_X10 rfl rfl (Nat.le_of_ble_eq_true rfl) (by decide) (by decide) dX10_notNow_199 ?_
  exact r_iret (pc := 202) C dX10_notNow_202 ⟨rfl, rfl, rfl, rfl⟩ (by decide)

set_option maxHeartbeats 1000000 in
theorem c_notNow__7 {g : GG} {X : va_W} {T : TT} {I : II} {M : Nat} {w : Nat → Int32} (hm : isMd T M) {B N E D U : Nat} (hG : Gd w B N E D U) (h16 : I M 16 = nI 117) : Mc g yX10_notNow cX10_notNow 4 (some .int) 5 0 0 [.ref M] X T (sr I (M + 1) w) (Ex (some (.int (nI (cdV w B N 7 (I (M + 7)))))) X T (sr I (M + 1) w)) := by
  refine Mc.of (by decide) (Nat.le_of_ble_eq_true rfl) (fun k hfl C => ?_)
  refine r_lo (lo' := [(0, _)]) rfl ?_
  refine r_aload_n (pc := 0) C 0 dX10_notNow_0 rfl rfl ?_
  refine r_getR (pc := 1) (x := M + 7) C f_X10_39 hm.1 rfl rfl dX10_notNow_1 ?_
  refine r_iconst (pc := 4) (v := 0) C dX10_notNow_4 rfl ?_
  refine r_wld2 (pc := 5) (x := 0) (by omega) C hm.2.2.2.2.2.2.2 rfl (by omega) (by decide) dX10_notNow_5 ?_
  refine r_istore_n (pc := 6) (lo' := [(1, _), (0, _)]) C dX10_notNow_6 rfl (by decide) rfl ?_
  refine r_aload_n (pc := 7) C 1 dX10_notNow_7 rfl rfl ?_
  refine r_getR (pc := 8) (x := M + 7) C f_X10_39 hm.1 rfl rfl dX10_notNow_8 ?_
  refine r_iconst (pc := 11) (v := 1) C dX10_notNow_11 rfl ?_
  refine r_wld2 (pc := 12) (x := 1) (by omega) C hm.2.2.2.2.2.2.2 rfl (by omega) (by decide) dX10_notNow_12 ?_
  refine r_istore_n (pc := 13) (lo' := [(2, _), (1, _), (0, _)]) C dX10_notNow_13 rfl (by decide) rfl ?_
  refine r_aload_n (pc := 14) C 2 dX10_notNow_14 rfl rfl ?_
  refine r_getR (pc := 15) (x := M + 7) C f_X10_39 hm.1 rfl rfl dX10_notNow_15 ?_
  refine r_iconst (pc := 18) (v := 2) C dX10_notNow_18 rfl ?_
  refine r_wld2 (pc := 19) (x := 2) (by omega) C hm.2.2.2.2.2.2.2 rfl (by omega) (by decide) dX10_notNow_19 ?_
  refine r_istore_n (pc := 20) (lo' := [(3, _), (2, _), (1, _), (0, _)]) C dX10_notNow_20 rfl (by decide) rfl ?_
  refine r_aload_n (pc := 21) C 3 dX10_notNow_21 rfl rfl ?_
  refine r_wget (pc := 22) (by omega) C f_X10_252 hm.1 rfl dX10_notNow_22 ?_
  refine r_t (y := nI 117) h16 ?_
  refine r_tblI (pc := 25) (tgt := 203) C dX10_notNow_25 (by decide) (by decide) (by rfl) rfl ?_
  refine r_aload_n (pc := 203) C 3 dX10_notNow_203 rfl rfl ?_
  refine r_iload_n (pc := 204) C 2 dX10_notNow_204 rfl rfl ?_
  refine r_iload_n (pc := 205) C 1 dX10_notNow_205 rfl rfl ?_
  refine r_iload_n (pc := 206) C 0 dX10_notNow_206 rfl rfl ?_
  refine r_cVi (pc := 207) C hfl k_X10_156 (c_notBuy hm hG.B.1 hG.B.2) hm.1 ca_X10 rfl rfl (Nat.le_of_ble_eq_true rfl) (by decide) (by decide) dX10_notNow_207 ?_
  exact r_iret (pc := 210) C dX10_notNow_210 ⟨rfl, rfl, rfl, rfl⟩ (by decide)

set_option maxHeartbeats 1000000 in
theorem c_notNow__8 {g : GG} {X : va_W} {T : TT} {I : II} {M : Nat} {w : Nat → Int32} (hm : isMd T M) {B N E D U : Nat} (hG : Gd w B N E D U) (h16 : I M 16 = nI 100) : Mc g yX10_notNow cX10_notNow 4 (some .int) 5 0 0 [.ref M] X T (sr I (M + 1) w) (Ex (some (.int (nI (cdV w B N 8 (I (M + 7)))))) X T (sr I (M + 1) w)) := by
  refine Mc.of (by decide) (Nat.le_of_ble_eq_true rfl) (fun k hfl C => ?_)
  refine r_lo (lo' := [(0, _)]) rfl ?_
  refine r_aload_n (pc := 0) C 0 dX10_notNow_0 rfl rfl ?_
  refine r_getR (pc := 1) (x := M + 7) C f_X10_39 hm.1 rfl rfl dX10_notNow_1 ?_
  refine r_iconst (pc := 4) (v := 0) C dX10_notNow_4 rfl ?_
  refine r_wld2 (pc := 5) (x := 0) (by omega) C hm.2.2.2.2.2.2.2 rfl (by omega) (by decide) dX10_notNow_5 ?_
  refine r_istore_n (pc := 6) (lo' := [(1, _), (0, _)]) C dX10_notNow_6 rfl (by decide) rfl ?_
  refine r_aload_n (pc := 7) C 1 dX10_notNow_7 rfl rfl ?_
  refine r_getR (pc := 8) (x := M + 7) C f_X10_39 hm.1 rfl rfl dX10_notNow_8 ?_
  refine r_iconst (pc := 11) (v := 1) C dX10_notNow_11 rfl ?_
  refine r_wld2 (pc := 12) (x := 1) (by omega) C hm.2.2.2.2.2.2.2 rfl (by omega) (by decide) dX10_notNow_12 ?_
  refine r_istore_n (pc := 13) (lo' := [(2, _), (1, _), (0, _)]) C dX10_notNow_13 rfl (by decide) rfl ?_
  refine r_aload_n (pc := 14) C 2 dX10_notNow_14 rfl rfl ?_
  refine r_getR (pc := 15) (x := M + 7) C f_X10_39 hm.1 rfl rfl dX10_notNow_15 ?_
  refine r_iconst (pc := 18) (v := 2) C dX10_notNow_18 rfl ?_
  refine r_wld2 (pc := 19) (x := 2) (by omega) C hm.2.2.2.2.2.2.2 rfl (by omega) (by decide) dX10_notNow_19 ?_
  refine r_istore_n (pc := 20) (lo' := [(3, _), (2, _), (1, _), (0, _)]) C dX10_notNow_20 rfl (by decide) rfl ?_
  refine r_aload_n (pc := 21) C 3 dX10_notNow_21 rfl rfl ?_
  refine r_wget (pc := 22) (by omega) C f_X10_252 hm.1 rfl dX10_notNow_22 ?_
  refine r_t (y := nI 100) h16 ?_
  refine r_tblI (pc := 25) (tgt := 211) C dX10_notNow_25 (by decide) (by decide) (by rfl) rfl ?_
  refine r_iload_n (pc := 211) C 2 dX10_notNow_211 rfl rfl ?_
  refine r_cSi (pc := 212) C hfl k_X10_175 (c_notPass _) rfl rfl (Nat.le_of_ble_eq_true rfl) (by decide) (by decide) dX10_notNow_212 ?_
  exact r_iret (pc := 215) C dX10_notNow_215 ⟨rfl, rfl, rfl, rfl⟩ (by decide)

set_option maxHeartbeats 1000000 in
theorem c_doesNow__0 {g : GG} {X : va_W} {T : TT} {I : II} {M : Nat} {w : Nat → Int32} (hm : isMd T M) {B N E D U : Nat} (hG : Gd w B N E D U) (hS : Sd w N) (hc : cdV w B N 0 (I (M + 7)) = 0) (h16 : I M 16 = nI 111) : Mc g yX10_doesNow cX10_doesNow 4 (some .int) 7 0 0 [.ref M] X T (sr I (M + 1) w) (Ex (some (.int (chA w B N E 0 (I (M + 7))))) X T (sr I (M + 1) (chR w B N E 0 (I (M + 7))))) := by
  have hB6 := hG.B.2
  have hN10 := hG.N.2
  have hE20 := hG.E.2
  have h6 := (fBorrower_ok hc).2
  refine Mc.of (by decide) (Nat.le_of_ble_eq_true rfl) (fun k hfl C => ?_)
  refine r_lo (lo' := [(0, _)]) rfl ?_
  refine r_aload_n (pc := 0) C 0 dX10_doesNow_0 rfl rfl ?_
  refine r_getR (pc := 1) (x := M + 7) C f_X10_39 hm.1 rfl rfl dX10_doesNow_1 ?_
  refine r_iconst (pc := 4) (v := 0) C dX10_doesNow_4 rfl ?_
  refine r_wld2 (pc := 5) (x := 0) (by omega) C hm.2.2.2.2.2.2.2 rfl (by omega) (by decide) dX10_doesNow_5 ?_
  refine r_istore_n (pc := 6) (lo' := [(1, _), (0, _)]) C dX10_doesNow_6 rfl (by decide) rfl ?_
  refine r_aload_n (pc := 7) C 1 dX10_doesNow_7 rfl rfl ?_
  refine r_getR (pc := 8) (x := M + 7) C f_X10_39 hm.1 rfl rfl dX10_doesNow_8 ?_
  refine r_iconst (pc := 11) (v := 1) C dX10_doesNow_11 rfl ?_
  refine r_wld2 (pc := 12) (x := 1) (by omega) C hm.2.2.2.2.2.2.2 rfl (by omega) (by decide) dX10_doesNow_12 ?_
  refine r_istore_n (pc := 13) (lo' := [(2, _), (1, _), (0, _)]) C dX10_doesNow_13 rfl (by decide) rfl ?_
  refine r_aload_n (pc := 14) C 2 dX10_doesNow_14 rfl rfl ?_
  refine r_getR (pc := 15) (x := M + 7) C f_X10_39 hm.1 rfl rfl dX10_doesNow_15 ?_
  refine r_iconst (pc := 18) (v := 2) C dX10_doesNow_18 rfl ?_
  refine r_wld2 (pc := 19) (x := 2) (by omega) C hm.2.2.2.2.2.2.2 rfl (by omega) (by decide) dX10_doesNow_19 ?_
  refine r_istore_n (pc := 20) (lo' := [(3, _), (2, _), (1, _), (0, _)]) C dX10_doesNow_20 rfl (by decide) rfl ?_
  refine r_aload_n (pc := 21) C 3 dX10_doesNow_21 rfl rfl ?_
  refine r_wget (pc := 22) (by omega) C f_X10_252 hm.1 rfl dX10_doesNow_22 ?_
  refine r_t (y := nI 111) h16 ?_
  refine r_tblI (pc := 25) (tgt := 140) C dX10_doesNow_25 (by decide) (by decide) (by rfl) rfl ?_
  refine r_aload_n (pc := 140) C 3 dX10_doesNow_140 rfl rfl ?_
  refine r_iload_n (pc := 141) C 2 dX10_doesNow_141 rfl rfl ?_
  refine r_cVi (pc := 142) C hfl k_X10_85 (c_addsBorrower hm hG.B.1 (by omega)) hm.1 ca_X10 rfl rfl (Nat.le_of_ble_eq_true rfl) (by decide) (by decide) dX10_doesNow_142 ?_
  exact r_iret (pc := 145) C dX10_doesNow_145 ⟨rfl, rfl, rfl, rfl⟩ (by decide)

set_option maxHeartbeats 1000000 in
theorem c_doesNow__1 {g : GG} {X : va_W} {T : TT} {I : II} {M : Nat} {w : Nat → Int32} (hm : isMd T M) {B N E D U : Nat} (hG : Gd w B N E D U) (hS : Sd w N) (hc : cdV w B N 1 (I (M + 7)) = 0) (h16 : I M 16 = nI 103) : Mc g yX10_doesNow cX10_doesNow 4 (some .int) 7 0 0 [.ref M] X T (sr I (M + 1) w) (Ex (some (.int (chA w B N E 1 (I (M + 7))))) X T (sr I (M + 1) (chR w B N E 1 (I (M + 7))))) := by
  have hB6 := hG.B.2
  have hN10 := hG.N.2
  have hE20 := hG.E.2
  have q := fBring_ok hc
  obtain ⟨n, n1, e0⟩ := okB_of hB6 q.1
  obtain ⟨m, m1, e1⟩ := okK_of q.2.1
  refine Mc.of (by decide) (Nat.le_of_ble_eq_true rfl) (fun k hfl C => ?_)
  refine r_lo (lo' := [(0, _)]) rfl ?_
  refine r_aload_n (pc := 0) C 0 dX10_doesNow_0 rfl rfl ?_
  refine r_getR (pc := 1) (x := M + 7) C f_X10_39 hm.1 rfl rfl dX10_doesNow_1 ?_
  refine r_iconst (pc := 4) (v := 0) C dX10_doesNow_4 rfl ?_
  refine r_wld2 (pc := 5) (x := 0) (by omega) C hm.2.2.2.2.2.2.2 rfl (by omega) (by decide) dX10_doesNow_5 ?_
  refine r_t (y := nI n) e0 ?_
  refine r_istore_n (pc := 6) (lo' := [(1, _), (0, _)]) C dX10_doesNow_6 rfl (by decide) rfl ?_
  refine r_aload_n (pc := 7) C 1 dX10_doesNow_7 rfl rfl ?_
  refine r_getR (pc := 8) (x := M + 7) C f_X10_39 hm.1 rfl rfl dX10_doesNow_8 ?_
  refine r_iconst (pc := 11) (v := 1) C dX10_doesNow_11 rfl ?_
  refine r_wld2 (pc := 12) (x := 1) (by omega) C hm.2.2.2.2.2.2.2 rfl (by omega) (by decide) dX10_doesNow_12 ?_
  refine r_t (y := nI m) e1 ?_
  refine r_istore_n (pc := 13) (lo' := [(2, _), (1, _), (0, _)]) C dX10_doesNow_13 rfl (by decide) rfl ?_
  refine r_aload_n (pc := 14) C 2 dX10_doesNow_14 rfl rfl ?_
  refine r_getR (pc := 15) (x := M + 7) C f_X10_39 hm.1 rfl rfl dX10_doesNow_15 ?_
  refine r_iconst (pc := 18) (v := 2) C dX10_doesNow_18 rfl ?_
  refine r_wld2 (pc := 19) (x := 2) (by omega) C hm.2.2.2.2.2.2.2 rfl (by omega) (by decide) dX10_doesNow_19 ?_
  refine r_istore_n (pc := 20) (lo' := [(3, _), (2, _), (1, _), (0, _)]) C dX10_doesNow_20 rfl (by decide) rfl ?_
  refine r_aload_n (pc := 21) C 3 dX10_doesNow_21 rfl rfl ?_
  refine r_wget (pc := 22) (by omega) C f_X10_252 hm.1 rfl dX10_doesNow_22 ?_
  refine r_t (y := nI 103) h16 ?_
  refine r_tblI (pc := 25) (tgt := 146) C dX10_doesNow_25 (by decide) (by decide) (by rfl) rfl ?_
  refine r_aload_n (pc := 146) C 3 dX10_doesNow_146 rfl rfl ?_
  refine r_iload_n (pc := 147) C 2 dX10_doesNow_147 rfl rfl ?_
  refine r_iload_n (pc := 148) C 1 dX10_doesNow_148 rfl rfl ?_
  refine r_iload_n (pc := 149) C 0 dX10_doesNow_149 rfl rfl ?_
  refine r_cVi (pc := 150) C hfl k_X10_102 (c_brings hm (by omega) m1) hm.1 ca_X10 rfl rfl (Nat.le_of_ble_eq_true rfl) (by decide) (by decide) dX10_doesNow_150 ?_
  exact r_iret (pc := 153) C dX10_doesNow_153 ⟨by simp only [chA]; rw [show cl (I (M + 7) 0) = n from by rw [e0, cl, nI_clamp (by omega)], show cl (I (M + 7) 1) = m from by rw [e1, cl, nI_clamp (by omega)]], rfl, rfl, by simp only [chR]; rw [show cl (I (M + 7) 0) = n from by rw [e0, cl, nI_clamp (by omega)], show cl (I (M + 7) 1) = m from by rw [e1, cl, nI_clamp (by omega)]]⟩ (by decide)

set_option maxHeartbeats 1000000 in
theorem c_doesNow__2 {g : GG} {X : va_W} {T : TT} {I : II} {M : Nat} {w : Nat → Int32} (hm : isMd T M) {B N E D U : Nat} (hG : Gd w B N E D U) (hS : Sd w N) (hc : cdV w B N 2 (I (M + 7)) = 0) (h16 : I M 16 = nI 112) : Mc g yX10_doesNow cX10_doesNow 4 (some .int) 7 0 0 [.ref M] X T (sr I (M + 1) w) (Ex (some (.int (chA w B N E 2 (I (M + 7))))) X T (sr I (M + 1) (chR w B N E 2 (I (M + 7))))) := by
  have hB6 := hG.B.2
  have hN10 := hG.N.2
  have hE20 := hG.E.2
  have q := fPrice_ok hc
  obtain ⟨m, m1, e0⟩ := okK_of q.1
  refine Mc.of (by decide) (Nat.le_of_ble_eq_true rfl) (fun k hfl C => ?_)
  refine r_lo (lo' := [(0, _)]) rfl ?_
  refine r_aload_n (pc := 0) C 0 dX10_doesNow_0 rfl rfl ?_
  refine r_getR (pc := 1) (x := M + 7) C f_X10_39 hm.1 rfl rfl dX10_doesNow_1 ?_
  refine r_iconst (pc := 4) (v := 0) C dX10_doesNow_4 rfl ?_
  refine r_wld2 (pc := 5) (x := 0) (by omega) C hm.2.2.2.2.2.2.2 rfl (by omega) (by decide) dX10_doesNow_5 ?_
  refine r_t (y := nI m) e0 ?_
  refine r_istore_n (pc := 6) (lo' := [(1, _), (0, _)]) C dX10_doesNow_6 rfl (by decide) rfl ?_
  refine r_aload_n (pc := 7) C 1 dX10_doesNow_7 rfl rfl ?_
  refine r_getR (pc := 8) (x := M + 7) C f_X10_39 hm.1 rfl rfl dX10_doesNow_8 ?_
  refine r_iconst (pc := 11) (v := 1) C dX10_doesNow_11 rfl ?_
  refine r_wld2 (pc := 12) (x := 1) (by omega) C hm.2.2.2.2.2.2.2 rfl (by omega) (by decide) dX10_doesNow_12 ?_
  refine r_istore_n (pc := 13) (lo' := [(2, _), (1, _), (0, _)]) C dX10_doesNow_13 rfl (by decide) rfl ?_
  refine r_aload_n (pc := 14) C 2 dX10_doesNow_14 rfl rfl ?_
  refine r_getR (pc := 15) (x := M + 7) C f_X10_39 hm.1 rfl rfl dX10_doesNow_15 ?_
  refine r_iconst (pc := 18) (v := 2) C dX10_doesNow_18 rfl ?_
  refine r_wld2 (pc := 19) (x := 2) (by omega) C hm.2.2.2.2.2.2.2 rfl (by omega) (by decide) dX10_doesNow_19 ?_
  refine r_istore_n (pc := 20) (lo' := [(3, _), (2, _), (1, _), (0, _)]) C dX10_doesNow_20 rfl (by decide) rfl ?_
  refine r_aload_n (pc := 21) C 3 dX10_doesNow_21 rfl rfl ?_
  refine r_wget (pc := 22) (by omega) C f_X10_252 hm.1 rfl dX10_doesNow_22 ?_
  refine r_t (y := nI 112) h16 ?_
  refine r_tblI (pc := 25) (tgt := 154) C dX10_doesNow_25 (by decide) (by decide) (by rfl) rfl ?_
  refine r_aload_n (pc := 154) C 3 dX10_doesNow_154 rfl rfl ?_
  refine r_iload_n (pc := 155) C 2 dX10_doesNow_155 rfl rfl ?_
  refine r_iload_n (pc := 156) C 1 dX10_doesNow_156 rfl rfl ?_
  refine r_cVi (pc := 157) C hfl k_X10_108 (c_setsPrice hm m1) hm.1 ca_X10 rfl rfl (Nat.le_of_ble_eq_true rfl) (by decide) (by decide) dX10_doesNow_157 ?_
  exact r_iret (pc := 160) C dX10_doesNow_160 ⟨by simp only [chA]; rw [show cl (I (M + 7) 0) = m from by rw [e0, cl, nI_clamp (by omega)]], rfl, rfl, by simp only [chR]; rw [show cl (I (M + 7) 0) = m from by rw [e0, cl, nI_clamp (by omega)]]⟩ (by decide)

set_option maxHeartbeats 1000000 in
theorem c_doesNow__3 {g : GG} {X : va_W} {T : TT} {I : II} {M : Nat} {w : Nat → Int32} (hm : isMd T M) {B N E D U : Nat} (hG : Gd w B N E D U) (hS : Sd w N) (hc : cdV w B N 3 (I (M + 7)) = 0) (h16 : I M 16 = nI 108) : Mc g yX10_doesNow cX10_doesNow 4 (some .int) 7 0 0 [.ref M] X T (sr I (M + 1) w) (Ex (some (.int (chA w B N E 3 (I (M + 7))))) X T (sr I (M + 1) (chR w B N E 3 (I (M + 7))))) := by
  have hB6 := hG.B.2
  have hN10 := hG.N.2
  have hE20 := hG.E.2
  have q := fLend_ok hc
  have q6 := q.2.2.2.2.2.1
  obtain ⟨n, n1, e0⟩ := okB_of hB6 q.1
  obtain ⟨m, m1, e1⟩ := okK_of q.2.1
  refine Mc.of (by decide) (Nat.le_of_ble_eq_true rfl) (fun k hfl C => ?_)
  refine r_lo (lo' := [(0, _)]) rfl ?_
  refine r_aload_n (pc := 0) C 0 dX10_doesNow_0 rfl rfl ?_
  refine r_getR (pc := 1) (x := M + 7) C f_X10_39 hm.1 rfl rfl dX10_doesNow_1 ?_
  refine r_iconst (pc := 4) (v := 0) C dX10_doesNow_4 rfl ?_
  refine r_wld2 (pc := 5) (x := 0) (by omega) C hm.2.2.2.2.2.2.2 rfl (by omega) (by decide) dX10_doesNow_5 ?_
  refine r_t (y := nI n) e0 ?_
  refine r_istore_n (pc := 6) (lo' := [(1, _), (0, _)]) C dX10_doesNow_6 rfl (by decide) rfl ?_
  refine r_aload_n (pc := 7) C 1 dX10_doesNow_7 rfl rfl ?_
  refine r_getR (pc := 8) (x := M + 7) C f_X10_39 hm.1 rfl rfl dX10_doesNow_8 ?_
  refine r_iconst (pc := 11) (v := 1) C dX10_doesNow_11 rfl ?_
  refine r_wld2 (pc := 12) (x := 1) (by omega) C hm.2.2.2.2.2.2.2 rfl (by omega) (by decide) dX10_doesNow_12 ?_
  refine r_t (y := nI m) e1 ?_
  refine r_istore_n (pc := 13) (lo' := [(2, _), (1, _), (0, _)]) C dX10_doesNow_13 rfl (by decide) rfl ?_
  refine r_aload_n (pc := 14) C 2 dX10_doesNow_14 rfl rfl ?_
  refine r_getR (pc := 15) (x := M + 7) C f_X10_39 hm.1 rfl rfl dX10_doesNow_15 ?_
  refine r_iconst (pc := 18) (v := 2) C dX10_doesNow_18 rfl ?_
  refine r_wld2 (pc := 19) (x := 2) (by omega) C hm.2.2.2.2.2.2.2 rfl (by omega) (by decide) dX10_doesNow_19 ?_
  refine r_istore_n (pc := 20) (lo' := [(3, _), (2, _), (1, _), (0, _)]) C dX10_doesNow_20 rfl (by decide) rfl ?_
  refine r_aload_n (pc := 21) C 3 dX10_doesNow_21 rfl rfl ?_
  refine r_wget (pc := 22) (by omega) C f_X10_252 hm.1 rfl dX10_doesNow_22 ?_
  refine r_t (y := nI 108) h16 ?_
  refine r_tblI (pc := 25) (tgt := 161) C dX10_doesNow_25 (by decide) (by decide) (by rfl) rfl ?_
  refine r_aload_n (pc := 161) C 3 dX10_doesNow_161 rfl rfl ?_
  refine r_iload_n (pc := 162) C 2 dX10_doesNow_162 rfl rfl ?_
  refine r_iload_n (pc := 163) C 1 dX10_doesNow_163 rfl rfl ?_
  refine r_iload_n (pc := 164) C 0 dX10_doesNow_164 rfl rfl ?_
  refine r_aload_n (pc := 165) C 3 dX10_doesNow_165 rfl rfl ?_
  refine r_getR (pc := 166) (x := M + 7) C f_X10_39 hm.1 rfl rfl dX10_doesNow_166 ?_
  refine r_iconst (pc := 169) (v := 3) C dX10_doesNow_169 rfl ?_
  refine r_wld2 (pc := 170) (x := 3) (by omega) C hm.2.2.2.2.2.2.2 rfl (by omega) (by decide) dX10_doesNow_170 ?_
  refine r_aload_n (pc := 171) C 3 dX10_doesNow_171 rfl rfl ?_
  refine r_getR (pc := 172) (x := M + 7) C f_X10_39 hm.1 rfl rfl dX10_doesNow_172 ?_
  refine r_iconst (pc := 175) (v := 4) C dX10_doesNow_175 rfl ?_
  refine r_wld2 (pc := 176) (x := 4) (by omega) C hm.2.2.2.2.2.2.2 rfl (by omega) (by decide) dX10_doesNow_176 ?_
  refine r_cVi (pc := 177) C hfl k_X10_118 (c_lends hm hG.N.1 (by omega) (by omega) m1) hm.1 ca_X10 rfl rfl (Nat.le_of_ble_eq_true rfl) (by decide) (by decide) dX10_doesNow_177 ?_
  exact r_iret (pc := 180) C dX10_doesNow_180 ⟨rfl, rfl, rfl, by simp only [chR]; rw [show cl (I (M + 7) 0) = n from by rw [e0, cl, nI_clamp (by omega)], show cl (I (M + 7) 1) = m from by rw [e1, cl, nI_clamp (by omega)]]⟩ (by decide)

set_option maxHeartbeats 1000000 in
theorem c_doesNow__4 {g : GG} {X : va_W} {T : TT} {I : II} {M : Nat} {w : Nat → Int32} (hm : isMd T M) {B N E D U : Nat} (hG : Gd w B N E D U) (hS : Sd w N) (hc : cdV w B N 4 (I (M + 7)) = 0) (h16 : I M 16 = nI 101) : Mc g yX10_doesNow cX10_doesNow 4 (some .int) 7 0 0 [.ref M] X T (sr I (M + 1) w) (Ex (some (.int (chA w B N E 4 (I (M + 7))))) X T (sr I (M + 1) (chR w B N E 4 (I (M + 7))))) := by
  have hB6 := hG.B.2
  have hN10 := hG.N.2
  have hE20 := hG.E.2
  have q := fPledge_ok hc
  obtain ⟨s, hs, es, -⟩ := (atS_or (slV_at w N (I (M + 7) 0))).resolve_right (fun z => q.1 (by rw [z]; decide))
  have hr := slV_at w N (I (M + 7) 0)
  rw [es] at hr
  have e2 : slN w N (I (M + 7) 0) = s := by rw [slN, es, cl, nI_clamp (by omega)]
  obtain ⟨m, m1, e1⟩ := okK_of q.2.1
  refine Mc.of (by decide) (Nat.le_of_ble_eq_true rfl) (fun k hfl C => ?_)
  refine r_lo (lo' := [(0, _)]) rfl ?_
  refine r_aload_n (pc := 0) C 0 dX10_doesNow_0 rfl rfl ?_
  refine r_getR (pc := 1) (x := M + 7) C f_X10_39 hm.1 rfl rfl dX10_doesNow_1 ?_
  refine r_iconst (pc := 4) (v := 0) C dX10_doesNow_4 rfl ?_
  refine r_wld2 (pc := 5) (x := 0) (by omega) C hm.2.2.2.2.2.2.2 rfl (by omega) (by decide) dX10_doesNow_5 ?_
  refine r_istore_n (pc := 6) (lo' := [(1, _), (0, _)]) C dX10_doesNow_6 rfl (by decide) rfl ?_
  refine r_aload_n (pc := 7) C 1 dX10_doesNow_7 rfl rfl ?_
  refine r_getR (pc := 8) (x := M + 7) C f_X10_39 hm.1 rfl rfl dX10_doesNow_8 ?_
  refine r_iconst (pc := 11) (v := 1) C dX10_doesNow_11 rfl ?_
  refine r_wld2 (pc := 12) (x := 1) (by omega) C hm.2.2.2.2.2.2.2 rfl (by omega) (by decide) dX10_doesNow_12 ?_
  refine r_t (y := nI m) e1 ?_
  refine r_istore_n (pc := 13) (lo' := [(2, _), (1, _), (0, _)]) C dX10_doesNow_13 rfl (by decide) rfl ?_
  refine r_aload_n (pc := 14) C 2 dX10_doesNow_14 rfl rfl ?_
  refine r_getR (pc := 15) (x := M + 7) C f_X10_39 hm.1 rfl rfl dX10_doesNow_15 ?_
  refine r_iconst (pc := 18) (v := 2) C dX10_doesNow_18 rfl ?_
  refine r_wld2 (pc := 19) (x := 2) (by omega) C hm.2.2.2.2.2.2.2 rfl (by omega) (by decide) dX10_doesNow_19 ?_
  refine r_istore_n (pc := 20) (lo' := [(3, _), (2, _), (1, _), (0, _)]) C dX10_doesNow_20 rfl (by decide) rfl ?_
  refine r_aload_n (pc := 21) C 3 dX10_doesNow_21 rfl rfl ?_
  refine r_wget (pc := 22) (by omega) C f_X10_252 hm.1 rfl dX10_doesNow_22 ?_
  refine r_t (y := nI 101) h16 ?_
  refine r_tblI (pc := 25) (tgt := 181) C dX10_doesNow_25 (by decide) (by decide) (by rfl) rfl ?_
  refine r_aload_n (pc := 181) C 3 dX10_doesNow_181 rfl rfl ?_
  refine r_iload_n (pc := 182) C 2 dX10_doesNow_182 rfl rfl ?_
  refine r_iload_n (pc := 183) C 1 dX10_doesNow_183 rfl rfl ?_
  refine r_iload_n (pc := 184) C 0 dX10_doesNow_184 rfl rfl ?_
  refine r_cVi (pc := 185) C hfl k_X10_127 (c_pledges hm hG.N.1 hG.N.2 hs hr (by have := (hG.own hs).1; omega) (hG.own hs).2 m1) hm.1 ca_X10 rfl rfl (Nat.le_of_ble_eq_true rfl) (by decide) (by decide) dX10_doesNow_185 ?_
  exact r_iret (pc := 188) C dX10_doesNow_188 ⟨by simp only [chA]; rw [e2, show cl (I (M + 7) 1) = m from by rw [e1, cl, nI_clamp (by omega)]], rfl, rfl, by simp only [chR]; rw [e2, show cl (I (M + 7) 1) = m from by rw [e1, cl, nI_clamp (by omega)]]⟩ (by decide)

set_option maxHeartbeats 1000000 in
theorem c_doesNow__5 {g : GG} {X : va_W} {T : TT} {I : II} {M : Nat} {w : Nat → Int32} (hm : isMd T M) {B N E D U : Nat} (hG : Gd w B N E D U) (hS : Sd w N) (hc : cdV w B N 5 (I (M + 7)) = 0) (h16 : I M 16 = nI 97) : Mc g yX10_doesNow cX10_doesNow 4 (some .int) 7 0 0 [.ref M] X T (sr I (M + 1) w) (Ex (some (.int (chA w B N E 5 (I (M + 7))))) X T (sr I (M + 1) (chR w B N E 5 (I (M + 7))))) := by
  have hB6 := hG.B.2
  have hN10 := hG.N.2
  have hE20 := hG.E.2
  have q := fRelease_ok hc
  obtain ⟨s, hs, es, -⟩ := (atS_or (slV_at w N (I (M + 7) 0))).resolve_right (fun z => q.1 (by rw [z]; decide))
  have hr := slV_at w N (I (M + 7) 0)
  rw [es] at hr
  have e2 : slN w N (I (M + 7) 0) = s := by rw [slN, es, cl, nI_clamp (by omega)]
  obtain ⟨m, m1, e1⟩ := okK_of q.2.1
  refine Mc.of (by decide) (Nat.le_of_ble_eq_true rfl) (fun k hfl C => ?_)
  refine r_lo (lo' := [(0, _)]) rfl ?_
  refine r_aload_n (pc := 0) C 0 dX10_doesNow_0 rfl rfl ?_
  refine r_getR (pc := 1) (x := M + 7) C f_X10_39 hm.1 rfl rfl dX10_doesNow_1 ?_
  refine r_iconst (pc := 4) (v := 0) C dX10_doesNow_4 rfl ?_
  refine r_wld2 (pc := 5) (x := 0) (by omega) C hm.2.2.2.2.2.2.2 rfl (by omega) (by decide) dX10_doesNow_5 ?_
  refine r_istore_n (pc := 6) (lo' := [(1, _), (0, _)]) C dX10_doesNow_6 rfl (by decide) rfl ?_
  refine r_aload_n (pc := 7) C 1 dX10_doesNow_7 rfl rfl ?_
  refine r_getR (pc := 8) (x := M + 7) C f_X10_39 hm.1 rfl rfl dX10_doesNow_8 ?_
  refine r_iconst (pc := 11) (v := 1) C dX10_doesNow_11 rfl ?_
  refine r_wld2 (pc := 12) (x := 1) (by omega) C hm.2.2.2.2.2.2.2 rfl (by omega) (by decide) dX10_doesNow_12 ?_
  refine r_t (y := nI m) e1 ?_
  refine r_istore_n (pc := 13) (lo' := [(2, _), (1, _), (0, _)]) C dX10_doesNow_13 rfl (by decide) rfl ?_
  refine r_aload_n (pc := 14) C 2 dX10_doesNow_14 rfl rfl ?_
  refine r_getR (pc := 15) (x := M + 7) C f_X10_39 hm.1 rfl rfl dX10_doesNow_15 ?_
  refine r_iconst (pc := 18) (v := 2) C dX10_doesNow_18 rfl ?_
  refine r_wld2 (pc := 19) (x := 2) (by omega) C hm.2.2.2.2.2.2.2 rfl (by omega) (by decide) dX10_doesNow_19 ?_
  refine r_istore_n (pc := 20) (lo' := [(3, _), (2, _), (1, _), (0, _)]) C dX10_doesNow_20 rfl (by decide) rfl ?_
  refine r_aload_n (pc := 21) C 3 dX10_doesNow_21 rfl rfl ?_
  refine r_wget (pc := 22) (by omega) C f_X10_252 hm.1 rfl dX10_doesNow_22 ?_
  refine r_t (y := nI 97) h16 ?_
  refine r_tblI (pc := 25) (tgt := 189) C dX10_doesNow_25 (by decide) (by decide) (by rfl) rfl ?_
  refine r_aload_n (pc := 189) C 3 dX10_doesNow_189 rfl rfl ?_
  refine r_iload_n (pc := 190) C 2 dX10_doesNow_190 rfl rfl ?_
  refine r_iload_n (pc := 191) C 1 dX10_doesNow_191 rfl rfl ?_
  refine r_iload_n (pc := 192) C 0 dX10_doesNow_192 rfl rfl ?_
  refine r_ineg (pc := 193) C dX10_doesNow_193 ?_
  refine r_cVi (pc := 194) C hfl k_X10_127 (c_pledges hm hG.N.1 hG.N.2 hs hr (by have := (hG.own hs).1; omega) (hG.own hs).2 m1) hm.1 ca_X10 rfl rfl (Nat.le_of_ble_eq_true rfl) (by decide) (by decide) dX10_doesNow_194 ?_
  exact r_iret (pc := 197) C dX10_doesNow_197 ⟨by simp only [chA]; rw [e2, show cl (I (M + 7) 1) = m from by rw [e1, cl, nI_clamp (by omega)]], rfl, rfl, by simp only [chR]; rw [e2, show cl (I (M + 7) 1) = m from by rw [e1, cl, nI_clamp (by omega)]]⟩ (by decide)

set_option maxHeartbeats 1000000 in
theorem c_doesNow__6 {g : GG} {X : va_W} {T : TT} {I : II} {M : Nat} {w : Nat → Int32} (hm : isMd T M) {B N E D U : Nat} (hG : Gd w B N E D U) (hS : Sd w N) (hc : cdV w B N 6 (I (M + 7)) = 0) (h16 : I M 16 = nI 121) : Mc g yX10_doesNow cX10_doesNow 4 (some .int) 7 0 0 [.ref M] X T (sr I (M + 1) w) (Ex (some (.int (chA w B N E 6 (I (M + 7))))) X T (sr I (M + 1) (chR w B N E 6 (I (M + 7))))) := by
  have hB6 := hG.B.2
  have hN10 := hG.N.2
  have hE20 := hG.E.2
  have q := fRepay_ok hc
  obtain ⟨s, hs, es, -⟩ := (atS_or (slV_at w N (I (M + 7) 0))).resolve_right (fun z => q.1 (by rw [z]; decide))
  have hr := slV_at w N (I (M + 7) 0)
  rw [es] at hr
  have e2 : slN w N (I (M + 7) 0) = s := by rw [slN, es, cl, nI_clamp (by omega)]
  have hre : atE (rpB w s (bN w s) (I (M + 7) 1)) E (w 0) (I (M + 7) 0) (reV w N E (I (M + 7) 0) (I (M + 7) 1)) := by
    unfold reV
    rw [e2]
    exact etV_at _ _ _ _
  refine Mc.of (by decide) (Nat.le_of_ble_eq_true rfl) (fun k hfl C => ?_)
  refine r_lo (lo' := [(0, _)]) rfl ?_
  refine r_aload_n (pc := 0) C 0 dX10_doesNow_0 rfl rfl ?_
  refine r_getR (pc := 1) (x := M + 7) C f_X10_39 hm.1 rfl rfl dX10_doesNow_1 ?_
  refine r_iconst (pc := 4) (v := 0) C dX10_doesNow_4 rfl ?_
  refine r_wld2 (pc := 5) (x := 0) (by omega) C hm.2.2.2.2.2.2.2 rfl (by omega) (by decide) dX10_doesNow_5 ?_
  refine r_istore_n (pc := 6) (lo' := [(1, _), (0, _)]) C dX10_doesNow_6 rfl (by decide) rfl ?_
  refine r_aload_n (pc := 7) C 1 dX10_doesNow_7 rfl rfl ?_
  refine r_getR (pc := 8) (x := M + 7) C f_X10_39 hm.1 rfl rfl dX10_doesNow_8 ?_
  refine r_iconst (pc := 11) (v := 1) C dX10_doesNow_11 rfl ?_
  refine r_wld2 (pc := 12) (x := 1) (by omega) C hm.2.2.2.2.2.2.2 rfl (by omega) (by decide) dX10_doesNow_12 ?_
  refine r_istore_n (pc := 13) (lo' := [(2, _), (1, _), (0, _)]) C dX10_doesNow_13 rfl (by decide) rfl ?_
  refine r_aload_n (pc := 14) C 2 dX10_doesNow_14 rfl rfl ?_
  refine r_getR (pc := 15) (x := M + 7) C f_X10_39 hm.1 rfl rfl dX10_doesNow_15 ?_
  refine r_iconst (pc := 18) (v := 2) C dX10_doesNow_18 rfl ?_
  refine r_wld2 (pc := 19) (x := 2) (by omega) C hm.2.2.2.2.2.2.2 rfl (by omega) (by decide) dX10_doesNow_19 ?_
  refine r_istore_n (pc := 20) (lo' := [(3, _), (2, _), (1, _), (0, _)]) C dX10_doesNow_20 rfl (by decide) rfl ?_
  refine r_aload_n (pc := 21) C 3 dX10_doesNow_21 rfl rfl ?_
  refine r_wget (pc := 22) (by omega) C f_X10_252 hm.1 rfl dX10_doesNow_22 ?_
  refine r_t (y := nI 121) h16 ?_
  refine r_tblI (pc := 25) (tgt := 198) C dX10_doesNow_25 (by decide) (by decide) (by rfl) rfl ?_
  refine r_aload_n (pc := 198) C 3 dX10_doesNow_198 rfl rfl ?_
  refine r_iload_n (pc := 199) C 2 dX10_doesNow_199 rfl rfl ?_
  refine r_iload_n (pc := 200) C 1 dX10_doesNow_200 rfl rfl ?_
  refine r_cVi (pc := 201) C hfl k_X10_153 (c_repays2 hm hG.N.1 hG.N.2 hs hr hG.E.1 hG.E.2 (by have := (hG.own hs).1; omega) (hG.own hs).2 hre) hm.1 ca_X10 rfl rfl (Nat.le_of_ble_eq_true rfl) (by decide) (by decide) dX10_doesNow_201 ?_
  exact r_iret (pc := 204) C dX10_doesNow_204 ⟨by simp only [chA]; rw [e2], rfl, rfl, by simp only [chR]; rw [e2]⟩ (by decide)

set_option maxHeartbeats 1000000 in
theorem c_doesNow__7 {g : GG} {X : va_W} {T : TT} {I : II} {M : Nat} {w : Nat → Int32} (hm : isMd T M) {B N E D U : Nat} (hG : Gd w B N E D U) (hS : Sd w N) (hc : cdV w B N 7 (I (M + 7)) = 0) (h16 : I M 16 = nI 117) : Mc g yX10_doesNow cX10_doesNow 4 (some .int) 7 0 0 [.ref M] X T (sr I (M + 1) w) (Ex (some (.int (chA w B N E 7 (I (M + 7))))) X T (sr I (M + 1) (chR w B N E 7 (I (M + 7))))) := by
  have hB6 := hG.B.2
  have hN10 := hG.N.2
  have hE20 := hG.E.2
  have q := fBuy_ok hc
  obtain ⟨n, n1, e0⟩ := okB_of hB6 q.1
  obtain ⟨m, m1, e1⟩ := okK_of q.2.1
  refine Mc.of (by decide) (Nat.le_of_ble_eq_true rfl) (fun k hfl C => ?_)
  refine r_lo (lo' := [(0, _)]) rfl ?_
  refine r_aload_n (pc := 0) C 0 dX10_doesNow_0 rfl rfl ?_
  refine r_getR (pc := 1) (x := M + 7) C f_X10_39 hm.1 rfl rfl dX10_doesNow_1 ?_
  refine r_iconst (pc := 4) (v := 0) C dX10_doesNow_4 rfl ?_
  refine r_wld2 (pc := 5) (x := 0) (by omega) C hm.2.2.2.2.2.2.2 rfl (by omega) (by decide) dX10_doesNow_5 ?_
  refine r_t (y := nI n) e0 ?_
  refine r_istore_n (pc := 6) (lo' := [(1, _), (0, _)]) C dX10_doesNow_6 rfl (by decide) rfl ?_
  refine r_aload_n (pc := 7) C 1 dX10_doesNow_7 rfl rfl ?_
  refine r_getR (pc := 8) (x := M + 7) C f_X10_39 hm.1 rfl rfl dX10_doesNow_8 ?_
  refine r_iconst (pc := 11) (v := 1) C dX10_doesNow_11 rfl ?_
  refine r_wld2 (pc := 12) (x := 1) (by omega) C hm.2.2.2.2.2.2.2 rfl (by omega) (by decide) dX10_doesNow_12 ?_
  refine r_t (y := nI m) e1 ?_
  refine r_istore_n (pc := 13) (lo' := [(2, _), (1, _), (0, _)]) C dX10_doesNow_13 rfl (by decide) rfl ?_
  refine r_aload_n (pc := 14) C 2 dX10_doesNow_14 rfl rfl ?_
  refine r_getR (pc := 15) (x := M + 7) C f_X10_39 hm.1 rfl rfl dX10_doesNow_15 ?_
  refine r_iconst (pc := 18) (v := 2) C dX10_doesNow_18 rfl ?_
  refine r_wld2 (pc := 19) (x := 2) (by omega) C hm.2.2.2.2.2.2.2 rfl (by omega) (by decide) dX10_doesNow_19 ?_
  refine r_istore_n (pc := 20) (lo' := [(3, _), (2, _), (1, _), (0, _)]) C dX10_doesNow_20 rfl (by decide) rfl ?_
  refine r_aload_n (pc := 21) C 3 dX10_doesNow_21 rfl rfl ?_
  refine r_wget (pc := 22) (by omega) C f_X10_252 hm.1 rfl dX10_doesNow_22 ?_
  refine r_t (y := nI 117) h16 ?_
  refine r_tblI (pc := 25) (tgt := 205) C dX10_doesNow_25 (by decide) (by decide) (by rfl) rfl ?_
  refine r_aload_n (pc := 205) C 3 dX10_doesNow_205 rfl rfl ?_
  refine r_iload_n (pc := 206) C 2 dX10_doesNow_206 rfl rfl ?_
  refine r_iload_n (pc := 207) C 1 dX10_doesNow_207 rfl rfl ?_
  refine r_iload_n (pc := 208) C 0 dX10_doesNow_208 rfl rfl ?_
  refine r_cVi (pc := 209) C hfl k_X10_159 (c_buys hm (by omega) m1) hm.1 ca_X10 rfl rfl (Nat.le_of_ble_eq_true rfl) (by decide) (by decide) dX10_doesNow_209 ?_
  exact r_iret (pc := 212) C dX10_doesNow_212 ⟨by simp only [chA]; rw [show cl (I (M + 7) 1) = m from by rw [e1, cl, nI_clamp (by omega)]], rfl, rfl, by simp only [chR]; rw [show cl (I (M + 7) 0) = n from by rw [e0, cl, nI_clamp (by omega)], show cl (I (M + 7) 1) = m from by rw [e1, cl, nI_clamp (by omega)]]⟩ (by decide)

set_option maxHeartbeats 1000000 in
theorem c_doesNow__8 {g : GG} {X : va_W} {T : TT} {I : II} {M : Nat} {w : Nat → Int32} (hm : isMd T M) {B N E D U : Nat} (hG : Gd w B N E D U) (hS : Sd w N) (hc : cdV w B N 8 (I (M + 7)) = 0) (h16 : I M 16 = nI 100) (hD1 : D + 60 ≤ 100000) : Mc g yX10_doesNow cX10_doesNow 4 (some .int) 7 0 0 [.ref M] X T (sr I (M + 1) w) (Ex (some (.int (chA w B N E 8 (I (M + 7))))) X T (sr I (M + 1) (chR w B N E 8 (I (M + 7))))) := by
  have hB6 := hG.B.2
  have hN10 := hG.N.2
  have hE20 := hG.E.2
  obtain ⟨t, t1, t2, e0⟩ := okR_of (by decide) (by decide) (fPass_ok hc)
  refine Mc.of (by decide) (Nat.le_of_ble_eq_true rfl) (fun k hfl C => ?_)
  refine r_lo (lo' := [(0, _)]) rfl ?_
  refine r_aload_n (pc := 0) C 0 dX10_doesNow_0 rfl rfl ?_
  refine r_getR (pc := 1) (x := M + 7) C f_X10_39 hm.1 rfl rfl dX10_doesNow_1 ?_
  refine r_iconst (pc := 4) (v := 0) C dX10_doesNow_4 rfl ?_
  refine r_wld2 (pc := 5) (x := 0) (by omega) C hm.2.2.2.2.2.2.2 rfl (by omega) (by decide) dX10_doesNow_5 ?_
  refine r_t (y := nI t) e0 ?_
  refine r_istore_n (pc := 6) (lo' := [(1, _), (0, _)]) C dX10_doesNow_6 rfl (by decide) rfl ?_
  refine r_aload_n (pc := 7) C 1 dX10_doesNow_7 rfl rfl ?_
  refine r_getR (pc := 8) (x := M + 7) C f_X10_39 hm.1 rfl rfl dX10_doesNow_8 ?_
  refine r_iconst (pc := 11) (v := 1) C dX10_doesNow_11 rfl ?_
  refine r_wld2 (pc := 12) (x := 1) (by omega) C hm.2.2.2.2.2.2.2 rfl (by omega) (by decide) dX10_doesNow_12 ?_
  refine r_istore_n (pc := 13) (lo' := [(2, _), (1, _), (0, _)]) C dX10_doesNow_13 rfl (by decide) rfl ?_
  refine r_aload_n (pc := 14) C 2 dX10_doesNow_14 rfl rfl ?_
  refine r_getR (pc := 15) (x := M + 7) C f_X10_39 hm.1 rfl rfl dX10_doesNow_15 ?_
  refine r_iconst (pc := 18) (v := 2) C dX10_doesNow_18 rfl ?_
  refine r_wld2 (pc := 19) (x := 2) (by omega) C hm.2.2.2.2.2.2.2 rfl (by omega) (by decide) dX10_doesNow_19 ?_
  refine r_istore_n (pc := 20) (lo' := [(3, _), (2, _), (1, _), (0, _)]) C dX10_doesNow_20 rfl (by decide) rfl ?_
  refine r_aload_n (pc := 21) C 3 dX10_doesNow_21 rfl rfl ?_
  refine r_wget (pc := 22) (by omega) C f_X10_252 hm.1 rfl dX10_doesNow_22 ?_
  refine r_t (y := nI 100) h16 ?_
  refine r_tblI (pc := 25) (tgt := 213) C dX10_doesNow_25 (by decide) (by decide) (by rfl) rfl ?_
  refine r_aload_n (pc := 213) C 3 dX10_doesNow_213 rfl rfl ?_
  refine r_iload_n (pc := 214) C 2 dX10_doesNow_214 rfl rfl ?_
  refine r_cVi (pc := 215) C hfl k_X10_178 (c_passes hm hG hS t2 (by omega)) hm.1 ca_X10 rfl rfl (Nat.le_of_ble_eq_true rfl) (by decide) (by decide) dX10_doesNow_215 ?_
  exact r_iret (pc := 218) C dX10_doesNow_218 ⟨by simp only [chA]; rw [show cl (I (M + 7) 0) = t from by rw [e0, cl, nI_clamp (by omega)]], rfl, rfl, by simp only [chR]; rw [show cl (I (M + 7) 0) = t from by rw [e0, cl, nI_clamp (by omega)]]⟩ (by decide)

theorem c_notNow {g : GG} {X : va_W} {T : TT} {I : II} {M : Nat} {w : Nat → Int32} (hm : isMd T M) {B N E D U i : Nat} (hG : Gd w B N E D U) (hi : i < 9) (h16 : I M 16 = nI (srt i)) : Mc g yX10_notNow cX10_notNow 4 (some .int) 5 0 0 [.ref M] X T (sr I (M + 1) w) (Ex (some (.int (nI (cdV w B N i (I (M + 7)))))) X T (sr I (M + 1) w)) := by
  match i, hi, h16 with
  | 0, _, h => exact c_notNow__0 hm hG h
  | 1, _, h => exact c_notNow__1 hm hG h
  | 2, _, h => exact c_notNow__2 hm hG h
  | 3, _, h => exact c_notNow__3 hm hG h
  | 4, _, h => exact c_notNow__4 hm hG h
  | 5, _, h => exact c_notNow__5 hm hG h
  | 6, _, h => exact c_notNow__6 hm hG h
  | 7, _, h => exact c_notNow__7 hm hG h
  | 8, _, h => exact c_notNow__8 hm hG h
  | i + 9, hi, _ => omega
theorem c_doesNow {g : GG} {X : va_W} {T : TT} {I : II} {M : Nat} {w : Nat → Int32} (hm : isMd T M) {B N E D U i : Nat} (hG : Gd w B N E D U) (hS : Sd w N) (hi : i < 9) (hc : cdV w B N i (I (M + 7)) = 0) (h16 : I M 16 = nI (srt i)) (hD1 : D + 60 ≤ 100000) : Mc g yX10_doesNow cX10_doesNow 4 (some .int) 7 0 0 [.ref M] X T (sr I (M + 1) w) (Ex (some (.int (chA w B N E i (I (M + 7))))) X T (sr I (M + 1) (chR w B N E i (I (M + 7))))) := by
  match i, hi, hc, h16 with
  | 0, _, hc, h => exact c_doesNow__0 hm hG hS hc h
  | 1, _, hc, h => exact c_doesNow__1 hm hG hS hc h
  | 2, _, hc, h => exact c_doesNow__2 hm hG hS hc h
  | 3, _, hc, h => exact c_doesNow__3 hm hG hS hc h
  | 4, _, hc, h => exact c_doesNow__4 hm hG hS hc h
  | 5, _, hc, h => exact c_doesNow__5 hm hG hS hc h
  | 6, _, hc, h => exact c_doesNow__6 hm hG hS hc h
  | 7, _, hc, h => exact c_doesNow__7 hm hG hS hc h
  | 8, _, hc, h => exact c_doesNow__8 hm hG hS hc h hD1
  | i + 9, hi, _, _ => omega