set_option maxHeartbeats 1000000 in
theorem c_isAtEnd {g : GG} {X : va_W} {T : TT} {I : II} {r L : Nat} {c : Nat → Nat} (hr : isRd T r) (hR : Rdr I r L c) {p v : Nat} {nm : Nat → Int32} (hp : p ≤ L)  : Mc g yX2_isAtEnd cX2_isAtEnd 1 (some .boolean) 1 0 0 [.ref r] X T (rI I r p v nm) (Ex (some (.int (bI (L ≤ p)))) X T (rI I r p v nm)) := by
  have hL := hR.2.1
  refine Mc.of (by decide) (Nat.le_of_ble_eq_true rfl) (fun k hfl C => ?_)
  refine r_lo (lo' := [(0, _)]) rfl ?_
  refine r_aload_n (pc := 0) C 0 dX2_isAtEnd_0 rfl rfl ?_
  refine r_get9I (pc := 1) C f_X2_9 hr.1 (Or.inl rfl) dX2_isAtEnd_1 ?_
  refine r_t (y := nI p) rI_0 ?_
  refine r_aload_n (pc := 4) C 0 dX2_isAtEnd_4 rfl rfl ?_
  refine r_get9I (pc := 5) C f_X2_32 hr.1 (Or.inr rfl) dX2_isAtEnd_5 ?_
  refine r_t (y := nI L) ((rI_f (by decide) (by decide)).trans hR.1) ?_
  refine r_cltN (pc := 8) (tgt := 15) C dX2_isAtEnd_8 rfl (by omega) (by omega) (fun c_8 => ?_) (fun c_8 => ?_)
  · skip
    refine r_iconst (pc := 15) (v := 0) C dX2_isAtEnd_15 rfl ?_
    exact r_zret (pc := 16) C rfl dX2_isAtEnd_16 ⟨congrArg (fun z => some (Value.int z)) (bI_f (Nat.not_le.mpr c_8)).symm, rfl, rfl, rfl⟩ (by decide)
  · skip
    refine r_iconst (pc := 11) (v := 1) C dX2_isAtEnd_11 rfl ?_
    refine r_goto (pc := 12) (tgt := 16) C dX2_isAtEnd_12 rfl ?_
    exact r_zret (pc := 16) C rfl dX2_isAtEnd_16 ⟨congrArg (fun z => some (Value.int z)) (bI_t c_8).symm, rfl, rfl, rfl⟩ (by decide)

set_option maxHeartbeats 1000000 in
theorem c_readSign__t {g : GG} {X : va_W} {T : TT} {I : II} {r L : Nat} {c : Nat → Nat} (hr : isRd T r) (hR : Rdr I r L c) {p v : Nat} {nm : Nat → Int32} (hp : p ≤ L) {x : Nat} (h : has c L p x) : Mc g yX2_readSign cX2_readSign 2 (some .boolean) 2 0 0 [.ref r, .int (nI x)] X T (rI I r p v nm) (Ex (some (.int (nI 1))) X T (rI I r (p + 1) v nm)) := by
  have hL := hR.2.1
  have h1 := h.1
  have h2 := h.2
  refine Mc.of (by decide) (Nat.le_of_ble_eq_true rfl) (fun k hfl C => ?_)
  refine r_lo (lo' := [(0, _), (1, _)]) rfl ?_
  refine r_aload_n (pc := 0) C 0 dX2_readSign_0 rfl rfl ?_
  refine r_c9i (pc := 1) C hfl k_X2_61 (c_isAtEnd hr hR (by omega)) hr.1 ca_X2 rfl rfl (Nat.le_of_ble_eq_true rfl) (by decide) (by decide) dX2_readSign_1 ?_
  refine r_ifneB (pc := 4) (tgt := 20) C dX2_readSign_4 rfl (fun c_4 => False.elim (by omega)) (fun c_4 => ?_)
  refine r_aload_n (pc := 7) C 0 dX2_readSign_7 rfl rfl ?_
  refine r_get9R (pc := 8) (x := r + 2) C f_X2_28 hr.1 (Or.inr rfl) rfl dX2_readSign_8 ?_
  refine r_aload_n (pc := 11) C 0 dX2_readSign_11 rfl rfl ?_
  refine r_get9I (pc := 12) C f_X2_9 hr.1 (Or.inl rfl) dX2_readSign_12 ?_
  refine r_t (y := nI p) rI_0 ?_
  refine r_cald (pc := 15) (x := p) C hr.2.2 rfl (by omega) (by decide) dX2_readSign_15 ?_
  refine r_t (y := nI (c p)) ((congrFun (rI_o (by omega) (by omega)) _).trans (hR.2.2.1 p (by omega))) ?_
  have q_15 := hR.2.2.2 p (by omega)
  refine r_iload_n (pc := 16) C 1 dX2_readSign_16 rfl rfl ?_
  refine r_ceqN (pc := 17) (tgt := 22) C dX2_readSign_17 rfl (by omega) (by omega) (fun c_17 => ?_) (fun c_17 => False.elim (by exact c_17 h2))
  refine r_aload_n (pc := 22) C 0 dX2_readSign_22 rfl rfl ?_
  refine r_dup (pc := 23) C dX2_readSign_23 rfl ?_
  refine r_get9I (pc := 24) C f_X2_9 hr.1 (Or.inl rfl) dX2_readSign_24 ?_
  refine r_t (y := nI p) rI_0 ?_
  refine r_iconst (pc := 27) (v := 1) C dX2_readSign_27 rfl ?_
  refine r_iaddN (pc := 28) C dX2_readSign_28 ?_
  refine r_put9I (pc := 29) C f_X2_9 hr.1 (Or.inl rfl) dX2_readSign_29 ?_
  refine r_I rI_p ?_
  refine r_iconst (pc := 32) (v := 1) C dX2_readSign_32 rfl ?_
  exact r_zret (pc := 33) C rfl dX2_readSign_33 ⟨rfl, rfl, rfl, rfl⟩ (by decide)

set_option maxHeartbeats 1000000 in
theorem c_readSign__f {g : GG} {X : va_W} {T : TT} {I : II} {r L : Nat} {c : Nat → Nat} (hr : isRd T r) (hR : Rdr I r L c) {p v : Nat} {nm : Nat → Int32} (hp : p ≤ L) {x : Nat} (hx : x < 128) (h : ¬ has c L p x) : Mc g yX2_readSign cX2_readSign 2 (some .boolean) 2 0 0 [.ref r, .int (nI x)] X T (rI I r p v nm) (Ex (some (.int (nI 0))) X T (rI I r p v nm)) := by
  have hL := hR.2.1
  refine Mc.of (by decide) (Nat.le_of_ble_eq_true rfl) (fun k hfl C => ?_)
  refine r_lo (lo' := [(0, _), (1, _)]) rfl ?_
  refine r_aload_n (pc := 0) C 0 dX2_readSign_0 rfl rfl ?_
  refine r_c9i (pc := 1) C hfl k_X2_61 (c_isAtEnd hr hR (by omega)) hr.1 ca_X2 rfl rfl (Nat.le_of_ble_eq_true rfl) (by decide) (by decide) dX2_readSign_1 ?_
  refine r_ifneB (pc := 4) (tgt := 20) C dX2_readSign_4 rfl (fun c_4 => ?_) (fun c_4 => ?_)
  · skip
    refine r_iconst (pc := 20) (v := 0) C dX2_readSign_20 rfl ?_
    exact r_zret (pc := 21) C rfl dX2_readSign_21 ⟨rfl, rfl, rfl, rfl⟩ (by decide)
  · skip
    refine r_aload_n (pc := 7) C 0 dX2_readSign_7 rfl rfl ?_
    refine r_get9R (pc := 8) (x := r + 2) C f_X2_28 hr.1 (Or.inr rfl) rfl dX2_readSign_8 ?_
    refine r_aload_n (pc := 11) C 0 dX2_readSign_11 rfl rfl ?_
    refine r_get9I (pc := 12) C f_X2_9 hr.1 (Or.inl rfl) dX2_readSign_12 ?_
    refine r_t (y := nI p) rI_0 ?_
    refine r_cald (pc := 15) (x := p) C hr.2.2 rfl (by omega) (by decide) dX2_readSign_15 ?_
    refine r_t (y := nI (c p)) ((congrFun (rI_o (by omega) (by omega)) _).trans (hR.2.2.1 p (by omega))) ?_
    have q_15 := hR.2.2.2 p (by omega)
    refine r_iload_n (pc := 16) C 1 dX2_readSign_16 rfl rfl ?_
    refine r_ceqN (pc := 17) (tgt := 22) C dX2_readSign_17 rfl (by omega) (by omega) (fun c_17 => False.elim (by exact h ⟨by omega, c_17⟩)) (fun c_17 => ?_)
    refine r_iconst (pc := 20) (v := 0) C dX2_readSign_20 rfl ?_
    exact r_zret (pc := 21) C rfl dX2_readSign_21 ⟨rfl, rfl, rfl, rfl⟩ (by decide)

set_option maxHeartbeats 1000000 in
theorem c_isDigit {g : GG} {X : va_W} {T : TT} {I : II} {x : Nat} (hx : x < 128) : Mc g yX2_isDigit cX2_isDigit 1 (some .boolean) 1 0 0 [.int (nI x)] X T I (Ex (some (.int (bI (48 ≤ x ∧ x ≤ 57)))) X T I) := by
  refine Mc.of (by decide) (Nat.le_of_ble_eq_true rfl) (fun k hfl C => ?_)
  refine r_lo (lo' := [(0, _)]) rfl ?_
  refine r_iload_n (pc := 0) C 0 dX2_isDigit_0 rfl rfl ?_
  refine r_bipush (pc := 1) (v := 48) C dX2_isDigit_1 rfl ?_
  refine r_cltN (pc := 3) (tgt := 16) C dX2_isDigit_3 rfl (by omega) (by omega) (fun c_3 => ?_) (fun c_3 => ?_)
  · skip
    refine r_iconst (pc := 16) (v := 0) C dX2_isDigit_16 rfl ?_
    exact r_zret (pc := 17) C rfl dX2_isDigit_17 ⟨congrArg (fun z => some (Value.int z)) (bI_f (fun z => absurd z.1 (Nat.not_le.mpr c_3))).symm, rfl, rfl, rfl⟩ (by decide)
  · skip
    refine r_iload_n (pc := 6) C 0 dX2_isDigit_6 rfl rfl ?_
    refine r_bipush (pc := 7) (v := 57) C dX2_isDigit_7 rfl ?_
    refine r_cgtN (pc := 9) (tgt := 16) C dX2_isDigit_9 rfl (by omega) (by omega) (fun c_9 => ?_) (fun c_9 => ?_)
    · skip
      refine r_iconst (pc := 16) (v := 0) C dX2_isDigit_16 rfl ?_
      exact r_zret (pc := 17) C rfl dX2_isDigit_17 ⟨congrArg (fun z => some (Value.int z)) (bI_f (fun z => absurd z.2 (Nat.not_le.mpr c_9))).symm, rfl, rfl, rfl⟩ (by decide)
    · skip
      refine r_iconst (pc := 12) (v := 1) C dX2_isDigit_12 rfl ?_
      refine r_goto (pc := 13) (tgt := 17) C dX2_isDigit_13 rfl ?_
      exact r_zret (pc := 17) C rfl dX2_isDigit_17 ⟨congrArg (fun z => some (Value.int z)) (bI_t ⟨by omega, by omega⟩).symm, rfl, rfl, rfl⟩ (by decide)

set_option maxHeartbeats 1000000 in
theorem c_matched {g : GG} {X : va_W} {T : TT} {I : II} {r L : Nat} {c : Nat → Nat} (hr : isRd T r) (hR : Rdr I r L c) {p v : Nat} {nm : Nat → Int32} (hp : p ≤ L) {i : Nat} (hi : i < 9) : Mc g yX2_matchedLength cX2_matchedLength 3 (some .int) 4 0 0 [.ref r, .ref (ga g (100 + i))] X T (rI I r p v nm) (Ex (some (.int (nI (mtc c L (kwL i) p)))) X T (rI I r p v nm)) := by
  have hL := hR.2.1
  obtain ⟨k1, k2⟩ := kw_len i hi
  have k3 := sln_lt i (by omega)
  refine Mc.of (by decide) (Nat.le_of_ble_eq_true rfl) (fun k hfl C => ?_)
  refine r_lo (lo' := [(0, _), (1, _)]) rfl ?_
  refine r_iconst (pc := 0) (v := 0) C dX2_matchedLength_0 rfl ?_
  refine r_istore_n (pc := 1) (lo' := [(2, _), (0, _), (1, _)]) C dX2_matchedLength_1 rfl (by decide) rfl ?_
  have loop_2 : ∀ (n_2 : Nat) (q : Nat), sln i - q < n_2 → (q ≤ sln i) → (mtc c L (kwL i) p = q + mtc c L ((kwL i).drop q) (p + q)) → Go g k 3 (Qm g k (Ex (some (.int (nI (mtc c L (kwL i) p)))) X T (rI I r p v nm)) 0 0) 0 0 2 [(0, .ref r), (1, .ref (ga g (100 + i))), (2, .int (nI q))] [] X T ((rI I r p v nm)) := by
    intro n_2
    induction n_2 with
    | zero => intro _ h_; exact absurd h_ (Nat.not_lt_zero _)
    | succ n_2 ih_2 =>
      intro q hq hq1 hinv
      refine r_iload_n (pc := 2) C 2 dX2_matchedLength_2 rfl rfl ?_
      refine r_aload_n (pc := 3) C 1 dX2_matchedLength_3 rfl rfl ?_
      refine r_cKi (pc := 4) C hfl k_X2_76 (c_slen (i := i) (by omega)) (C.Z.2.2.2.2.1 i (by omega)).1 (As := []) rfl rfl (Nat.le_of_ble_eq_true rfl) (by decide) (by decide) dX2_matchedLength_4 ?_
      refine r_cgeN (pc := 7) (tgt := 48) C dX2_matchedLength_7 rfl (by omega) (by omega) (fun c_7 => ?_) (fun c_7 => ?_)
      · skip
        refine r_iload_n (pc := 48) C 2 dX2_matchedLength_48 rfl rfl ?_
        exact r_iret (pc := 49) C dX2_matchedLength_49 ⟨by rw [hinv, mtc_end (by omega), Nat.add_zero], rfl, rfl, rfl⟩ (by decide)
      · skip
        refine r_aload_n (pc := 10) C 0 dX2_matchedLength_10 rfl rfl ?_
        refine r_get9I (pc := 11) C f_X2_9 hr.1 (Or.inl rfl) dX2_matchedLength_11 ?_
        refine r_t (y := nI p) rI_0 ?_
        refine r_iload_n (pc := 14) C 2 dX2_matchedLength_14 rfl rfl ?_
        refine r_iaddN (pc := 15) C dX2_matchedLength_15 ?_
        refine r_aload_n (pc := 16) C 0 dX2_matchedLength_16 rfl rfl ?_
        refine r_get9I (pc := 17) C f_X2_32 hr.1 (Or.inr rfl) dX2_matchedLength_17 ?_
        refine r_t (y := nI L) ((rI_f (by decide) (by decide)).trans hR.1) ?_
        refine r_cgeN (pc := 20) (tgt := 48) C dX2_matchedLength_20 rfl (by omega) (by omega) (fun c_20 => ?_) (fun c_20 => ?_)
        · skip
          refine r_iload_n (pc := 48) C 2 dX2_matchedLength_48 rfl rfl ?_
          exact r_iret (pc := 49) C dX2_matchedLength_49 ⟨by rw [hinv, mtc_no (by omega) (by rw [k2 q (by omega)]; exact (fun z => absurd z.1 (by omega))), Nat.add_zero], rfl, rfl, rfl⟩ (by decide)
        · skip
          refine r_aload_n (pc := 23) C 0 dX2_matchedLength_23 rfl rfl ?_
          refine r_get9R (pc := 24) (x := r + 2) C f_X2_28 hr.1 (Or.inr rfl) rfl dX2_matchedLength_24 ?_
          refine r_aload_n (pc := 27) C 0 dX2_matchedLength_27 rfl rfl ?_
          refine r_get9I (pc := 28) C f_X2_9 hr.1 (Or.inl rfl) dX2_matchedLength_28 ?_
          refine r_t (y := nI p) rI_0 ?_
          refine r_iload_n (pc := 31) C 2 dX2_matchedLength_31 rfl rfl ?_
          refine r_iaddN (pc := 32) C dX2_matchedLength_32 ?_
          refine r_cald (pc := 33) (x := p + q) C hr.2.2 rfl (by omega) (by decide) dX2_matchedLength_33 ?_
          refine r_t (y := nI (c (p + q))) ((congrFun (rI_o (by omega) (by omega)) _).trans (hR.2.2.1 (p + q) (by omega))) ?_
          have q_33 := hR.2.2.2 (p + q) (by omega)
          refine r_aload_n (pc := 34) C 1 dX2_matchedLength_34 rfl rfl ?_
          refine r_iload_n (pc := 35) C 2 dX2_matchedLength_35 rfl rfl ?_
          refine r_cKi (pc := 36) C hfl k_X2_81 (c_schar (i := i) (q := q) (by omega) (by omega)) (C.Z.2.2.2.2.1 i (by omega)).1 (As := [_]) rfl rfl (Nat.le_of_ble_eq_true rfl) (by decide) (by decide) dX2_matchedLength_36 ?_
          refine r_cneN (pc := 39) (tgt := 48) C dX2_matchedLength_39 rfl (by omega) (by have := (sch_ok i (by omega) q (by omega)).2; omega) (fun c_39 => ?_) (fun c_39 => ?_)
          · skip
            refine r_iload_n (pc := 48) C 2 dX2_matchedLength_48 rfl rfl ?_
            exact r_iret (pc := 49) C dX2_matchedLength_49 ⟨by rw [hinv, mtc_no (by omega) (by rw [k2 q (by omega)]; exact (fun z => c_39 z.2)), Nat.add_zero], rfl, rfl, rfl⟩ (by decide)
          · skip
            refine r_iincN (pc := 42) (m := 1) (lo' := [(2, _), (0, _), (1, _)]) C 2 dX2_matchedLength_42 rfl rfl (by decide) rfl ?_
            refine r_goto (pc := 45) (tgt := 2) C dX2_matchedLength_45 rfl ?_
            refine r_ls [1, 2, 0] rfl ?_
            exact ih_2 (q + 1) (by omega) (by omega) (by rw [hinv, mtc_go (by omega) ⟨by omega, by rw [k2 q (by omega)]; exact c_39⟩]; omega)
  refine r_ls [1, 2, 0] rfl ?_
  exact loop_2 (sln i + 1) 0 (by omega) (by omega) (by rw [List.drop_zero, Nat.add_zero, Nat.zero_add])

set_option maxHeartbeats 1000000 in
theorem c_readVerb {g : GG} {X : va_W} {T : TT} {I : II} {r L : Nat} {c : Nat → Nat} (hr : isRd T r) (hR : Rdr I r L c) {p v : Nat} {nm : Nat → Int32} (hp : p ≤ L)  : Mc g yX2_readVerb cX2_readVerb 4 (some .boolean) 5 0 0 [.ref r] X T (rI I r p v nm) (RV I r L p v c nm X T) := by
  have hL := hR.2.1
  refine Mc.of (by decide) (Nat.le_of_ble_eq_true rfl) (fun k hfl C => ?_)
  refine r_lo (lo' := [(0, _)]) rfl ?_
  refine r_iconst (pc := 0) (v := 0) C dX2_readVerb_0 rfl ?_
  refine r_istore_n (pc := 1) (lo' := [(1, _), (0, _)]) C dX2_readVerb_1 rfl (by decide) rfl ?_
  refine r_iconst (pc := 2) (v := 0) C dX2_readVerb_2 rfl ?_
  refine r_istore_n (pc := 3) (lo' := [(2, _), (1, _), (0, _)]) C dX2_readVerb_3 rfl (by decide) rfl ?_
  have loop_4 : ∀ (n_4 : Nat) (i a : Nat), 9 - i < n_4 → (i ≤ 9) → (p + a ≤ L) → (vbv c L p 9 0 = vbv c L p (9 - i) i) → (fur c L p 9 0 0 = fur c L p (9 - i) i a) → Go g k 4 (Qm g k (RV I r L p v c nm X T) 0 0) 0 0 4 [(0, .ref r), (1, .int (nI a)), (2, .int (nI i))] [] X T ((rI I r p v nm)) := by
    intro n_4
    induction n_4 with
    | zero => intro _ _ h_; exact absurd h_ (Nat.not_lt_zero _)
    | succ n_4 ih_4 =>
      intro i a hq hi9 hla hv1 hv2
      refine r_iload_n (pc := 4) C 2 dX2_readVerb_4 rfl rfl ?_
      refine r_getsN (pc := 5) (host := "LendingDesk") C C.Z.1.2.2.1 (List.mem_of_getElem? (i := 1538) (by decide +kernel)) dX2_readVerb_5 ?_
      refine r_tlen (pc := 8) C C.Z.2.1.1 dX2_readVerb_8 ?_
      refine r_cgeN (pc := 9) (tgt := 73) C dX2_readVerb_9 rfl (by omega) (by omega) (fun c_9 => ?_) (fun c_9 => ?_)
      · skip
        refine r_aload_n (pc := 73) C 0 dX2_readVerb_73 rfl rfl ?_
        refine r_dup (pc := 74) C dX2_readVerb_74 rfl ?_
        refine r_get9I (pc := 75) C f_X2_9 hr.1 (Or.inl rfl) dX2_readVerb_75 ?_
        refine r_t (y := nI p) rI_0 ?_
        refine r_iload_n (pc := 78) C 1 dX2_readVerb_78 rfl rfl ?_
        refine r_iaddN (pc := 79) C dX2_readVerb_79 ?_
        refine r_put9I (pc := 80) C f_X2_9 hr.1 (Or.inl rfl) dX2_readVerb_80 ?_
        refine r_I rI_p ?_
        refine r_iconst (pc := 83) (v := 0) C dX2_readVerb_83 rfl ?_
        exact r_zret (pc := 84) C rfl dX2_readVerb_84 ⟨rfl, rfl, Or.inr ⟨by rw [hv1, show 9 - i = 0 by omega]; rfl, rfl, by rw [hv2, show 9 - i = 0 by omega]; rfl⟩⟩ (by decide)
      · skip
        refine r_aload_n (pc := 12) C 0 dX2_readVerb_12 rfl rfl ?_
        refine r_getsN (pc := 13) (host := "LendingDesk") C C.Z.1.2.2.1 (List.mem_of_getElem? (i := 1538) (by decide +kernel)) dX2_readVerb_13 ?_
        refine r_iload_n (pc := 16) C 2 dX2_readVerb_16 rfl rfl ?_
        refine r_tq (pc := 17) (q := i) C C.Z.2.1.1 (by omega) (by decide) dX2_readVerb_17 ?_
        refine r_getO (pc := 18) C (C.Z.2.2.1 i (by omega)).2.2.1 (gx 2279 (by decide +kernel) (by decide +kernel)) dX2_readVerb_18 ?_
        refine r_c9i (pc := 21) C hfl k_X2_72 (c_matched (i := i) hr hR (by omega) (by omega)) hr.1 ca_X2 rfl rfl (Nat.le_of_ble_eq_true rfl) (by decide) (by decide) dX2_readVerb_21 ?_
        have m1 := mtc_le (c := c) (kwL i) p hp
        have m2 := mtc_len (c := c) (L := L) (kwL i) p
        obtain ⟨k1, -⟩ := kw_len i (by omega)
        have k3 := sln_lt i (by omega)
        refine r_istore_n (pc := 24) (lo' := [(3, _), (0, _), (1, _), (2, _)]) C dX2_readVerb_24 rfl (by decide) rfl ?_
        refine r_iload_n (pc := 25) C 2 dX2_readVerb_25 rfl rfl ?_
        refine r_iload_n (pc := 26) C 0 dX2_readVerb_26 rfl rfl ?_
        refine r_max (pc := 27) C k_X2_41 (Nat.le_of_ble_eq_true rfl) (by decide) dX2_readVerb_27 ?_
        refine r_t (y := nI ((if a < mtc c L (kwL i) p then mtc c L (kwL i) p else a))) (mxV_n (by omega) (by omega)) ?_
        refine r_istore_n (pc := 30) (lo' := [(1, _), (3, _), (0, _), (2, _)]) C dX2_readVerb_30 rfl (by decide) rfl ?_
        refine r_iload_n (pc := 31) C 1 dX2_readVerb_31 rfl rfl ?_
        refine r_getsN (pc := 32) (host := "LendingDesk") C C.Z.1.2.2.1 (List.mem_of_getElem? (i := 1538) (by decide +kernel)) dX2_readVerb_32 ?_
        refine r_iload_n (pc := 35) C 3 dX2_readVerb_35 rfl rfl ?_
        refine r_tq (pc := 36) (q := i) C C.Z.2.1.1 (by omega) (by decide) dX2_readVerb_36 ?_
        refine r_getO (pc := 37) C (C.Z.2.2.1 i (by omega)).2.2.1 (gx 2279 (by decide +kernel) (by decide +kernel)) dX2_readVerb_37 ?_
        refine r_cKi (pc := 40) C hfl k_X2_76 (c_slen (i := i) (by omega)) (C.Z.2.2.2.2.1 i (by omega)).1 (As := []) rfl rfl (Nat.le_of_ble_eq_true rfl) (by decide) (by decide) dX2_readVerb_40 ?_
        refine r_cneN (pc := 43) (tgt := 67) C dX2_readVerb_43 rfl (by omega) (by omega) (fun c_43 => ?_) (fun c_43 => ?_)
        · skip
          refine r_iincN (pc := 67) (m := 1) (lo' := [(2, _), (1, _), (3, _), (0, _)]) C 3 dX2_readVerb_67 rfl rfl (by decide) rfl ?_
          refine r_goto (pc := 70) (tgt := 4) C dX2_readVerb_70 rfl ?_
          refine r_ls [3, 1, 0] rfl ?_
          exact ih_4 (i + 1) _ (by omega) (by omega) (by split <;> omega) (by rw [hv1, vbv_go (by omega) (by omega)]) (by rw [hv2, fur_go (by omega)])
        · skip
          refine r_aload_n (pc := 46) C 2 dX2_readVerb_46 rfl rfl ?_
          refine r_getsN (pc := 47) (host := "LendingDesk") C C.Z.1.2.2.1 (List.mem_of_getElem? (i := 1538) (by decide +kernel)) dX2_readVerb_47 ?_
          refine r_iload_n (pc := 50) C 3 dX2_readVerb_50 rfl rfl ?_
          refine r_tq (pc := 51) (q := i) C C.Z.2.1.1 (by omega) (by decide) dX2_readVerb_51 ?_
          refine r_put9V (pc := 52) C f_X2_21 hr.1 (by omega) dX2_readVerb_52 ?_
          refine r_I rI_v ?_
          refine r_aload_n (pc := 55) C 2 dX2_readVerb_55 rfl rfl ?_
          refine r_dup (pc := 56) C dX2_readVerb_56 rfl ?_
          refine r_get9I (pc := 57) C f_X2_9 hr.1 (Or.inl rfl) dX2_readVerb_57 ?_
          refine r_t (y := nI p) rI_0 ?_
          refine r_iload_n (pc := 60) C 1 dX2_readVerb_60 rfl rfl ?_
          refine r_iaddN (pc := 61) C dX2_readVerb_61 ?_
          refine r_put9I (pc := 62) C f_X2_9 hr.1 (Or.inl rfl) dX2_readVerb_62 ?_
          refine r_I rI_p ?_
          refine r_iconst (pc := 65) (v := 1) C dX2_readVerb_65 rfl ?_
          exact r_zret (pc := 66) C rfl dX2_readVerb_66 ⟨rfl, rfl, Or.inl ⟨i, by rw [hv1, vbv_some (by omega) (by omega)], by omega, rfl, by omega, by rw [show (kwL i).length = mtc c L (kwL i) p by omega]⟩⟩ (by decide)
  refine r_ls [2, 1, 0] rfl ?_
  exact loop_4 10 0 0 (by omega) (by omega) (by omega) rfl rfl

set_option maxHeartbeats 1000000 in
theorem c_readNumber {g : GG} {X : va_W} {T : TT} {I : II} {r L : Nat} {c : Nat → Nat} (hr : isRd T r) (hR : Rdr I r L c) {p v : Nat} {nm : Nat → Int32} (hp : p ≤ L) {m e n : Nat} (hm : m ≤ 3) (hn : nmv c L m p 0 = (e, n)) : Mc g yX2_readNumber cX2_readNumber 4 (some .int) 2 0 0 [.ref r, .int (nI m)] X T (rI I r p v nm) (Ex (some (.int (nI n))) X T (rI I r e v nm)) := by
  have hL := hR.2.1
  refine Mc.of (by decide) (Nat.le_of_ble_eq_true rfl) (fun k hfl C => ?_)
  refine r_lo (lo' := [(0, _), (1, _)]) rfl ?_
  refine r_iconst (pc := 0) (v := 0) C dX2_readNumber_0 rfl ?_
  refine r_istore_n (pc := 1) (lo' := [(2, _), (0, _), (1, _)]) C dX2_readNumber_1 rfl (by decide) rfl ?_
  refine r_iconst (pc := 2) (v := 0) C dX2_readNumber_2 rfl ?_
  refine r_istore_n (pc := 3) (lo' := [(3, _), (2, _), (0, _), (1, _)]) C dX2_readNumber_3 rfl (by decide) rfl ?_
  have loop_4 : ∀ (n_4 : Nat) (k_ p1 a : Nat), m - k_ < n_4 → (k_ ≤ m) → (p1 ≤ L) → (p ≤ p1) → (((k_ = 0 ∧ a = 0) ∨ (k_ = 1 ∧ a ≤ 9) ∨ (k_ = 2 ∧ a ≤ 99) ∨ (k_ = 3 ∧ a ≤ 999))) → (nmv c L (m - k_) p1 a = (e, n)) → Go g k 4 (Qm g k (Ex (some (.int (nI n))) X T (rI I r e v nm)) 0 0) 0 0 4 [(0, .ref r), (1, .int (nI m)), (2, .int (nI a)), (3, .int (nI k_))] [] X T ((rI I r p1 v nm)) := by
    intro n_4
    induction n_4 with
    | zero => intro _ _ _ h_; exact absurd h_ (Nat.not_lt_zero _)
    | succ n_4 ih_4 =>
      intro k_ p1 a hq hk hp1 hpp hst hinv
      refine r_iload_n (pc := 4) C 3 dX2_readNumber_4 rfl rfl ?_
      refine r_iload_n (pc := 5) C 1 dX2_readNumber_5 rfl rfl ?_
      refine r_cgeN (pc := 6) (tgt := 65) C dX2_readNumber_6 rfl (by omega) (by omega) (fun c_6 => ?_) (fun c_6 => ?_)
      · skip
        refine r_iload_n (pc := 65) C 2 dX2_readNumber_65 rfl rfl ?_
        exact r_iret (pc := 66) C dX2_readNumber_66 (by have z : (p1, a) = (e, n) := (show nmv c L (m - k_) p1 a = (p1, a) from (by rw [show m - k_ = 0 by omega]; rfl)).symm.trans hinv; cases z; exact ⟨rfl, rfl, rfl, rfl⟩) (by decide)
      · skip
        refine r_aload_n (pc := 9) C 0 dX2_readNumber_9 rfl rfl ?_
        refine r_c9i (pc := 10) C hfl k_X2_61 (c_isAtEnd hr hR (by omega)) hr.1 ca_X2 rfl rfl (Nat.le_of_ble_eq_true rfl) (by decide) (by decide) dX2_readNumber_10 ?_
        refine r_ifneB (pc := 13) (tgt := 65) C dX2_readNumber_13 rfl (fun c_13 => ?_) (fun c_13 => ?_)
        · skip
          refine r_iload_n (pc := 65) C 2 dX2_readNumber_65 rfl rfl ?_
          exact r_iret (pc := 66) C dX2_readNumber_66 (by have z : (p1, a) = (e, n) := (show nmv c L (m - k_) p1 a = (p1, a) from (nmw_no (fun z => absurd z.1 (by omega)))).symm.trans hinv; cases z; exact ⟨rfl, rfl, rfl, rfl⟩) (by decide)
        · skip
          refine r_aload_n (pc := 16) C 0 dX2_readNumber_16 rfl rfl ?_
          refine r_get9R (pc := 17) (x := r + 2) C f_X2_28 hr.1 (Or.inr rfl) rfl dX2_readNumber_17 ?_
          refine r_aload_n (pc := 20) C 0 dX2_readNumber_20 rfl rfl ?_
          refine r_get9I (pc := 21) C f_X2_9 hr.1 (Or.inl rfl) dX2_readNumber_21 ?_
          refine r_t (y := nI p1) rI_0 ?_
          refine r_cald (pc := 24) (x := p1) C hr.2.2 rfl (by omega) (by decide) dX2_readNumber_24 ?_
          refine r_t (y := nI (c p1)) ((congrFun (rI_o (by omega) (by omega)) _).trans (hR.2.2.1 p1 (by omega))) ?_
          have q_24 := hR.2.2.2 p1 (by omega)
          refine r_cSi (pc := 25) C hfl k_X2_92 (c_isDigit (x := (c p1)) (by omega)) rfl rfl (Nat.le_of_ble_eq_true rfl) (by decide) (by decide) dX2_readNumber_25 ?_
          refine r_ifeqB (pc := 28) (tgt := 65) C dX2_readNumber_28 rfl (fun c_28 => ?_) (fun c_28 => ?_)
          · skip
            refine r_iload_n (pc := 65) C 2 dX2_readNumber_65 rfl rfl ?_
            exact r_iret (pc := 66) C dX2_readNumber_66 (by have z : (p1, a) = (e, n) := (show nmv c L (m - k_) p1 a = (p1, a) from (nmw_no (fun z => c_28 z.2))).symm.trans hinv; cases z; exact ⟨rfl, rfl, rfl, rfl⟩) (by decide)
          · skip
            refine r_bipush (pc := 31) (v := 10) C dX2_readNumber_31 rfl ?_
            refine r_iload_n (pc := 33) C 2 dX2_readNumber_33 rfl rfl ?_
            refine r_imulN (pc := 34) C dX2_readNumber_34 ?_
            refine r_aload_n (pc := 35) C 0 dX2_readNumber_35 rfl rfl ?_
            refine r_get9R (pc := 36) (x := r + 2) C f_X2_28 hr.1 (Or.inr rfl) rfl dX2_readNumber_36 ?_
            refine r_aload_n (pc := 39) C 0 dX2_readNumber_39 rfl rfl ?_
            refine r_get9I (pc := 40) C f_X2_9 hr.1 (Or.inl rfl) dX2_readNumber_40 ?_
            refine r_t (y := nI p1) rI_0 ?_
            refine r_cald (pc := 43) (x := p1) C hr.2.2 rfl (by omega) (by decide) dX2_readNumber_43 ?_
            refine r_t (y := nI (c p1)) ((congrFun (rI_o (by omega) (by omega)) _).trans (hR.2.2.1 p1 (by omega))) ?_
            have q_43 := hR.2.2.2 p1 (by omega)
            refine r_bipush (pc := 44) (v := 48) C dX2_readNumber_44 rfl ?_
            refine r_isub (pc := 46) C dX2_readNumber_46 ?_
            refine r_t (y := nI ((c p1 - 48))) (pk_sub (by omega)) ?_
            refine r_iaddN (pc := 47) C dX2_readNumber_47 ?_
            refine r_istore_n (pc := 48) (lo' := [(2, _), (0, _), (1, _), (3, _)]) C dX2_readNumber_48 rfl (by decide) rfl ?_
            refine r_aload_n (pc := 49) C 1 dX2_readNumber_49 rfl rfl ?_
            refine r_dup (pc := 50) C dX2_readNumber_50 rfl ?_
            refine r_get9I (pc := 51) C f_X2_9 hr.1 (Or.inl rfl) dX2_readNumber_51 ?_
            refine r_t (y := nI p1) rI_0 ?_
            refine r_iconst (pc := 54) (v := 1) C dX2_readNumber_54 rfl ?_
            refine r_iaddN (pc := 55) C dX2_readNumber_55 ?_
            refine r_put9I (pc := 56) C f_X2_9 hr.1 (Or.inl rfl) dX2_readNumber_56 ?_
            refine r_I rI_p ?_
            refine r_iincN (pc := 59) (m := 1) (lo' := [(3, _), (2, _), (0, _), (1, _)]) C 3 dX2_readNumber_59 rfl rfl (by decide) rfl ?_
            refine r_goto (pc := 62) (tgt := 4) C dX2_readNumber_62 rfl ?_
            refine r_ls [2, 3, 1, 0] rfl ?_
            exact ih_4 (k_ + 1) (p1 + 1) _ (by omega) (by omega) (by omega) (by omega) (by omega) (by rw [← hinv, nmw_go (by omega) ⟨by omega, c_28⟩])
  refine r_ls [2, 3, 1, 0] rfl ?_
  exact loop_4 (m + 1) 0 p 0 (by omega) (by omega) (by omega) (Nat.le_refl _) (by omega) hn
