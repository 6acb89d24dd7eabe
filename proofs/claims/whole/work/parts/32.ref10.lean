set_option maxHeartbeats 1000000 in
theorem c_nextChar {g : GG} {X : va_W} {T : TT} {I : II} {M : Nat} (hm : isMd T M) {c : Nat → Nat} {L : Nat} (hI : Inp I M L c) {p : Nat} {s : Int32} {nm : Nat → Int32} (hp : p ≤ L)  : Mc g yX10_nextChar cX10_nextChar 1 (some .int) 1 0 0 [.ref M] X T (psI I M p s nm) (Ex (some (.int (chV c L p))) X T (psI I M p s nm)) := by
  have hL := hI.2.1
  
  refine Mc.of (by decide) (Nat.le_of_ble_eq_true rfl) (fun k hfl C => ?_)
  refine r_lo (lo' := [(0, _)]) rfl ?_
  refine r_aload_n (pc := 0) C 0 dX10_nextChar_0 rfl rfl ?_
  refine r_getI (pc := 1) C f_X10_236 hm.1 rfl dX10_nextChar_1 ?_
  refine r_t (y := nI p) psI_12 ?_
  refine r_aload_n (pc := 4) C 0 dX10_nextChar_4 rfl rfl ?_
  refine r_getI (pc := 5) C f_X10_233 hm.1 rfl dX10_nextChar_5 ?_
  refine r_t (y := nI L) ((psI_f (by decide) (by decide)).trans hI.1) ?_
  refine r_cgeN (pc := 8) (tgt := 23) C dX10_nextChar_8 rfl (by omega) (by omega) (fun c_8 => ?_) (fun c_8 => ?_)
  · skip
    refine r_iconstm (pc := 23) C dX10_nextChar_23 rfl ?_
    exact r_iret (pc := 24) C dX10_nextChar_24 ⟨congrArg (fun z => some (Value.int z)) (by rw [chV, if_neg (by omega)]; decide), rfl, rfl, rfl⟩ (by decide)
  · skip
    refine r_aload_n (pc := 11) C 0 dX10_nextChar_11 rfl rfl ?_
    refine r_getR (pc := 12) (x := M + 6) C f_X10_30 hm.1 rfl rfl dX10_nextChar_12 ?_
    refine r_aload_n (pc := 15) C 0 dX10_nextChar_15 rfl rfl ?_
    refine r_getI (pc := 16) C f_X10_236 hm.1 rfl dX10_nextChar_16 ?_
    refine r_t (y := nI p) psI_12 ?_
    refine r_cald (pc := 19) (x := p) C hm.2.2.2.2.2.2.1 rfl (by omega) (by decide) dX10_nextChar_19 ?_
    refine r_t (y := nI ((c p))) ((congrFun (psI_o (by omega) (by omega)) _).trans (hI.2.2.1 p c_8)) ?_
    refine r_goto (pc := 20) (tgt := 24) C dX10_nextChar_20 rfl ?_
    exact r_iret (pc := 24) C dX10_nextChar_24 ⟨congrArg (fun z => some (Value.int z)) (by rw [chV, if_pos c_8]), rfl, rfl, rfl⟩ (by decide)

set_option maxHeartbeats 1000000 in
theorem c_reads {g : GG} {X : va_W} {T : TT} {I : II} {M : Nat} (hm : isMd T M) {c : Nat → Nat} {L : Nat} (hI : Inp I M L c) {p : Nat} {s : Int32} {nm : Nat → Int32} (hp : p ≤ L) {x : Nat} (hx : x < 128) : Mc g yX10_reads cX10_reads 2 (some .boolean) 2 0 0 [.ref M, .int (nI x)] X T (psI I M p s nm) (Ex (some (.int (bI (has c L p x)))) X T (psI I M ((if has c L p x then p + 1 else p)) s nm)) := by
  have hL := hI.2.1
  
  refine Mc.of (by decide) (Nat.le_of_ble_eq_true rfl) (fun k hfl C => ?_)
  refine r_lo (lo' := [(0, _), (1, _)]) rfl ?_
  refine r_aload_n (pc := 0) C 0 dX10_reads_0 rfl rfl ?_
  refine r_cVi (pc := 1) C hfl k_X10_239 (c_nextChar hm hI (by omega)) hm.1 ca_X10 rfl rfl (Nat.le_of_ble_eq_true rfl) (by decide) (by decide) dX10_reads_1 ?_
  refine r_iload_n (pc := 4) C 1 dX10_reads_4 rfl rfl ?_
  refine r_ceq (pc := 5) (tgt := 10) C dX10_reads_5 rfl (fun c_5 => ?_) (fun c_5 => ?_)
  · skip
    refine r_aload_n (pc := 10) C 0 dX10_reads_10 rfl rfl ?_
    refine r_dup (pc := 11) C dX10_reads_11 rfl ?_
    refine r_getI (pc := 12) C f_X10_236 hm.1 rfl dX10_reads_12 ?_
    refine r_t (y := nI p) psI_12 ?_
    refine r_iconst (pc := 15) (v := 1) C dX10_reads_15 rfl ?_
    refine r_iaddN (pc := 16) C dX10_reads_16 ?_
    refine r_putI (pc := 17) C f_X10_236 hm.1 rfl rfl rfl dX10_reads_17 ?_
    refine r_I (I' := (psI I M (p + 1) s nm)) psI_go ?_
    refine r_iconst (pc := 20) (v := 1) C dX10_reads_20 rfl ?_
    exact r_zret (pc := 21) C rfl dX10_reads_21 ⟨congrArg (fun z => some (Value.int z)) (bI_t ((chV_has hI.2.2.2 hx).mp c_5)).symm, rfl, rfl, by rw [if_pos ((chV_has hI.2.2.2 hx).mp c_5)]⟩ (by decide)
  · skip
    refine r_iconst (pc := 8) (v := 0) C dX10_reads_8 rfl ?_
    exact r_zret (pc := 9) C rfl dX10_reads_9 ⟨congrArg (fun z => some (Value.int z)) (bI_f (fun z => c_5 ((chV_has hI.2.2.2 hx).mpr z))).symm, rfl, rfl, by rw [if_neg (fun z => c_5 ((chV_has hI.2.2.2 hx).mpr z))]⟩ (by decide)

set_option maxHeartbeats 1000000 in
theorem c_isDigitNext {g : GG} {X : va_W} {T : TT} {I : II} {M : Nat} (hm : isMd T M) {c : Nat → Nat} {L : Nat} (hI : Inp I M L c) {p : Nat} {s : Int32} {nm : Nat → Int32} (hp : p ≤ L)  : Mc g yX10_isDigitNext cX10_isDigitNext 1 (some .boolean) 2 0 0 [.ref M] X T (psI I M p s nm) (Ex (some (.int (bI (isd c L p)))) X T (psI I M p s nm)) := by
  have hL := hI.2.1
  
  refine Mc.of (by decide) (Nat.le_of_ble_eq_true rfl) (fun k hfl C => ?_)
  refine r_lo (lo' := [(0, _)]) rfl ?_
  refine r_aload_n (pc := 0) C 0 dX10_isDigitNext_0 rfl rfl ?_
  refine r_cVi (pc := 1) C hfl k_X10_239 (c_nextChar hm hI (by omega)) hm.1 ca_X10 rfl rfl (Nat.le_of_ble_eq_true rfl) (by decide) (by decide) dX10_isDigitNext_1 ?_
  refine r_bipush (pc := 4) (v := 48) C dX10_isDigitNext_4 rfl ?_
  refine r_bipush (pc := 6) (v := 57) C dX10_isDigitNext_6 rfl ?_
  refine r_cSi (pc := 8) C hfl k_X10_54 (c_isBetween _ _ _) rfl rfl (Nat.le_of_ble_eq_true rfl) (by decide) (by decide) dX10_isDigitNext_8 ?_
  exact r_zret (pc := 11) C bI_n dX10_isDigitNext_11 ⟨congrArg (fun z => some (Value.int z)) (bI_c (chV_isd hI.2.2.2)), rfl, rfl, rfl⟩ (by decide)

set_option maxHeartbeats 1000000 in
theorem c_readsDigit {g : GG} {X : va_W} {T : TT} {I : II} {M : Nat} (hm : isMd T M) {c : Nat → Nat} {L : Nat} (hI : Inp I M L c) {p : Nat} {s : Int32} {nm : Nat → Int32} (hp : p ≤ L) {k_ : Nat} (hk : k_ < 5) : Mc g yX10_readsDigit cX10_readsDigit 2 (some .boolean) 3 0 0 [.ref M, .int (nI k_)] X T (psI I M p s nm) (Ex (some (.int (bI ((rdD c L p).1 = true)))) X T (psI I M ((rdD c L p).2.1) s (updB nm k_ (rdD c L p)))) := by
  have hL := hI.2.1
  
  refine Mc.of (by decide) (Nat.le_of_ble_eq_true rfl) (fun k hfl C => ?_)
  refine r_lo (lo' := [(0, _), (1, _)]) rfl ?_
  refine r_aload_n (pc := 0) C 0 dX10_readsDigit_0 rfl rfl ?_
  refine r_bipush (pc := 1) (v := 32) C dX10_readsDigit_1 rfl ?_
  refine r_cVi (pc := 3) C hfl k_X10_242 (c_reads hm hI (by omega) (by omega)) hm.1 ca_X10 rfl rfl (Nat.le_of_ble_eq_true rfl) (by decide) (by decide) dX10_readsDigit_3 ?_
  refine r_ifeqB (pc := 6) (tgt := 16) C dX10_readsDigit_6 rfl (fun c_6 => ?_) (fun c_6 => ?_)
  · skip
    refine r_I (psI_neg c_6) ?_
    refine r_iconst (pc := 16) (v := 0) C dX10_readsDigit_16 rfl ?_
    exact r_zret (pc := 17) C rfl dX10_readsDigit_17 ⟨by rw [rdD, if_neg c_6]; rfl, rfl, rfl, by rw [rdD, if_neg c_6]; rfl⟩ (by decide)
  · skip
    have l_6 : _ ≤ L := Nat.succ_le_of_lt (And.left c_6)
    refine r_I (psI_pos c_6) ?_
    refine r_aload_n (pc := 9) C 0 dX10_readsDigit_9 rfl rfl ?_
    refine r_cVi (pc := 10) C hfl k_X10_245 (c_isDigitNext hm hI (by omega)) hm.1 ca_X10 rfl rfl (Nat.le_of_ble_eq_true rfl) (by decide) (by decide) dX10_readsDigit_10 ?_
    refine r_ifneB (pc := 13) (tgt := 18) C dX10_readsDigit_13 rfl (fun c_13 => ?_) (fun c_13 => ?_)
    · skip
      have l_13 : p + 1 + 1 ≤ L := Nat.succ_le_of_lt (And.left c_13)
      refine r_aload_n (pc := 18) C 0 dX10_readsDigit_18 rfl rfl ?_
      refine r_getR (pc := 19) (x := M + 7) C f_X10_39 hm.1 rfl rfl dX10_readsDigit_19 ?_
      refine r_iload_n (pc := 22) C 1 dX10_readsDigit_22 rfl rfl ?_
      refine r_aload_n (pc := 23) C 0 dX10_readsDigit_23 rfl rfl ?_
      refine r_cVi (pc := 24) C hfl k_X10_239 (c_nextChar hm hI (by omega)) hm.1 ca_X10 rfl rfl (Nat.le_of_ble_eq_true rfl) (by decide) (by decide) dX10_readsDigit_24 ?_
      refine r_t (y := nI ((c (p + 1)))) (by rw [chV, if_pos (And.left c_13)]) ?_
      refine r_bipush (pc := 27) (v := 48) C dX10_readsDigit_27 rfl ?_
      refine r_isub (pc := 29) C dX10_readsDigit_29 ?_
      refine r_t (y := nI ((c (p + 1) - 48))) (pk_sub (And.left (And.right c_13))) ?_
      refine r_iast (pc := 30) (x := k_) C hm.2.2.2.2.2.2.2 rfl (by omega) (by decide) dX10_readsDigit_30 ?_
      refine r_I (I' := (psI I M (p + 1) s (upd nm k_ (nI (c (p + 1) - 48))))) psI_nm ?_
      refine r_aload_n (pc := 31) C 0 dX10_readsDigit_31 rfl rfl ?_
      refine r_dup (pc := 32) C dX10_readsDigit_32 rfl ?_
      refine r_getI (pc := 33) C f_X10_236 hm.1 rfl dX10_readsDigit_33 ?_
      refine r_t (y := nI ((p + 1))) psI_12 ?_
      refine r_iconst (pc := 36) (v := 1) C dX10_readsDigit_36 rfl ?_
      refine r_iaddN (pc := 37) C dX10_readsDigit_37 ?_
      refine r_putI (pc := 38) C f_X10_236 hm.1 rfl rfl rfl dX10_readsDigit_38 ?_
      refine r_I (I' := (psI I M (p + 1 + 1) s (upd nm k_ (nI (c (p + 1) - 48))))) psI_go ?_
      refine r_iconst (pc := 41) (v := 1) C dX10_readsDigit_41 rfl ?_
      exact r_zret (pc := 42) C rfl dX10_readsDigit_42 ⟨by rw [rdD, if_pos c_6, if_pos c_13]; rfl, rfl, rfl, by rw [rdD, if_pos c_6, if_pos c_13]; rfl⟩ (by decide)
    · skip
      refine r_iconst (pc := 16) (v := 0) C dX10_readsDigit_16 rfl ?_
      exact r_zret (pc := 17) C rfl dX10_readsDigit_17 ⟨by rw [rdD, if_pos c_6, if_neg c_13]; rfl, rfl, rfl, by rw [rdD, if_pos c_6, if_neg c_13]; rfl⟩ (by decide)

set_option maxHeartbeats 1000000 in
theorem c_readsNumber {g : GG} {X : va_W} {T : TT} {I : II} {M : Nat} (hm : isMd T M) {c : Nat → Nat} {L : Nat} (hI : Inp I M L c) {p : Nat} {s : Int32} {nm : Nat → Int32} (hp : p ≤ L) {k_ : Nat} (hk : k_ < 5) : Mc g yX10_readsNumber cX10_readsNumber 3 (some .boolean) 4 0 0 [.ref M, .int (nI k_)] X T (psI I M p s nm) (Ex (some (.int (bI ((rdN c L p).1 = true)))) X T (psI I M ((rdN c L p).2.1) s (updB nm k_ (rdN c L p)))) := by
  have hL := hI.2.1
  
  refine Mc.of (by decide) (Nat.le_of_ble_eq_true rfl) (fun k hfl C => ?_)
  refine r_lo (lo' := [(0, _), (1, _)]) rfl ?_
  refine r_aload_n (pc := 0) C 0 dX10_readsNumber_0 rfl rfl ?_
  refine r_iload_n (pc := 1) C 1 dX10_readsNumber_1 rfl rfl ?_
  refine r_cVi (pc := 2) C hfl k_X10_249 (c_readsDigit hm hI (by omega) (by omega)) hm.1 ca_X10 rfl rfl (Nat.le_of_ble_eq_true rfl) (by decide) (by decide) dX10_readsNumber_2 ?_
  refine r_ifneB (pc := 5) (tgt := 10) C dX10_readsNumber_5 rfl (fun c_5 => ?_) (fun c_5 => ?_)
  · skip
    have l_5 : _ ≤ L := rdD_le c_5
    refine r_I (psI_ok c_5) ?_
    refine r_iconst (pc := 10) (v := 0) C dX10_readsNumber_10 rfl ?_
    refine r_istore_n (pc := 11) (lo' := [(2, _), (0, _), (1, _)]) C dX10_readsNumber_11 rfl (by decide) rfl ?_
    have loop_12 : ∀ (n_12 : Nat) (q P A : Nat), 2 - q < n_12 → (q ≤ 2) → (P ≤ L) → (nmv c L (2 - q) P A = nmv c L 2 (rdD c L p).2.1 (rdD c L p).2.2) → Go g k 3 (Qm g k (Ex (some (.int (bI ((rdN c L p).1 = true)))) X T (psI I M ((rdN c L p).2.1) s (updB nm k_ (rdN c L p)))) 0 0) 0 0 12 [(0, .ref M), (1, .int (nI k_)), (2, .int (nI q))] [] X T ((psI I M P s (upd nm k_ (nI A)))) := by
      intro n_12
      induction n_12 with
      | zero => intro _ _ _ h_; exact absurd h_ (Nat.not_lt_zero _)
      | succ n_12 ih_12 =>
        intro q P A hq hq1 hP hinv
        refine r_iload_n (pc := 12) C 2 dX10_readsNumber_12 rfl rfl ?_
        refine r_iconst (pc := 13) (v := 2) C dX10_readsNumber_13 rfl ?_
        refine r_cgeN (pc := 14) (tgt := 63) C dX10_readsNumber_14 rfl (by omega) (by omega) (fun c_14 => ?_) (fun c_14 => ?_)
        · skip
          refine r_iconst (pc := 63) (v := 1) C dX10_readsNumber_63 rfl ?_
          exact r_zret (pc := 64) C rfl dX10_readsNumber_64 ⟨by rw [rdN, if_pos c_5]; rfl, rfl, rfl, by rw [rdN, if_pos c_5, updB, if_pos rfl, ← hinv, show 2 - q = 0 by omega, nmv]⟩ (by decide)
        · skip
          refine r_aload_n (pc := 17) C 0 dX10_readsNumber_17 rfl rfl ?_
          refine r_cVi (pc := 18) C hfl k_X10_245 (c_isDigitNext hm hI (by omega)) hm.1 ca_X10 rfl rfl (Nat.le_of_ble_eq_true rfl) (by decide) (by decide) dX10_readsNumber_18 ?_
          refine r_ifeqB (pc := 21) (tgt := 63) C dX10_readsNumber_21 rfl (fun c_21 => ?_) (fun c_21 => ?_)
          · skip
            refine r_iconst (pc := 63) (v := 1) C dX10_readsNumber_63 rfl ?_
            exact r_zret (pc := 64) C rfl dX10_readsNumber_64 ⟨by rw [rdN, if_pos c_5]; rfl, rfl, rfl, by rw [rdN, if_pos c_5, updB, if_pos rfl, ← hinv, show 2 - q = (1 - q) + 1 by omega, nmv_st c_21]⟩ (by decide)
          · skip
            refine r_aload_n (pc := 24) C 0 dX10_readsNumber_24 rfl rfl ?_
            refine r_getR (pc := 25) (x := M + 7) C f_X10_39 hm.1 rfl rfl dX10_readsNumber_25 ?_
            refine r_iload_n (pc := 28) C 1 dX10_readsNumber_28 rfl rfl ?_
            refine r_bipush (pc := 29) (v := 10) C dX10_readsNumber_29 rfl ?_
            refine r_aload_n (pc := 31) C 0 dX10_readsNumber_31 rfl rfl ?_
            refine r_getR (pc := 32) (x := M + 7) C f_X10_39 hm.1 rfl rfl dX10_readsNumber_32 ?_
            refine r_iload_n (pc := 35) C 1 dX10_readsNumber_35 rfl rfl ?_
            refine r_iald (pc := 36) (x := k_) C hm.2.2.2.2.2.2.2 rfl (by omega) (by decide) dX10_readsNumber_36 ?_
            refine r_t (y := nI A) ((congrFun psI_7 _).trans upd_e) ?_
            refine r_imulN (pc := 37) C dX10_readsNumber_37 ?_
            refine r_aload_n (pc := 38) C 0 dX10_readsNumber_38 rfl rfl ?_
            refine r_cVi (pc := 39) C hfl k_X10_239 (c_nextChar hm hI (by omega)) hm.1 ca_X10 rfl rfl (Nat.le_of_ble_eq_true rfl) (by decide) (by decide) dX10_readsNumber_39 ?_
            refine r_t (y := nI ((c P))) (by rw [chV, if_pos (And.left c_21)]) ?_
            refine r_iaddN (pc := 42) C dX10_readsNumber_42 ?_
            refine r_bipush (pc := 43) (v := 48) C dX10_readsNumber_43 rfl ?_
            refine r_isub (pc := 45) C dX10_readsNumber_45 ?_
            refine r_t (y := nI ((10 * A + (c P - 48)))) ((pk_sub (by have := And.left (And.right c_21); omega)).trans (congrArg nI (by have := And.left (And.right c_21); omega))) ?_
            refine r_iast (pc := 46) (x := k_) C hm.2.2.2.2.2.2.2 rfl (by omega) (by decide) dX10_readsNumber_46 ?_
            refine r_I (I' := (psI I M P s (upd nm k_ (nI (10 * A + (c P - 48)))))) (psI_nm.trans (by rw [upd_upd])) ?_
            refine r_aload_n (pc := 47) C 0 dX10_readsNumber_47 rfl rfl ?_
            refine r_dup (pc := 48) C dX10_readsNumber_48 rfl ?_
            refine r_getI (pc := 49) C f_X10_236 hm.1 rfl dX10_readsNumber_49 ?_
            refine r_t (y := nI P) psI_12 ?_
            refine r_iconst (pc := 52) (v := 1) C dX10_readsNumber_52 rfl ?_
            refine r_iaddN (pc := 53) C dX10_readsNumber_53 ?_
            refine r_putI (pc := 54) C f_X10_236 hm.1 rfl rfl rfl dX10_readsNumber_54 ?_
            refine r_I (I' := (psI I M (P + 1) s (upd nm k_ (nI (10 * A + (c P - 48)))))) psI_go ?_
            refine r_iincN (pc := 57) (m := 1) (lo' := [(2, _), (0, _), (1, _)]) C 2 dX10_readsNumber_57 rfl rfl (by decide) rfl ?_
            refine r_goto (pc := 60) (tgt := 12) C dX10_readsNumber_60 rfl ?_
            refine r_ls [1, 2, 0] rfl ?_
            exact ih_12 (q + 1) _ _ (by omega) (by omega) (Nat.succ_le_of_lt (And.left c_21)) (by rw [← hinv, show 2 - q = (2 - (q + 1)) + 1 by omega, nmv_go c_21])
    refine r_ls [1, 2, 0] rfl ?_
    exact loop_12 3 0 _ _ (by omega) (by omega) l_5 rfl
  · skip
    refine r_iconst (pc := 8) (v := 0) C dX10_readsNumber_8 rfl ?_
    exact r_zret (pc := 9) C rfl dX10_readsNumber_9 ⟨by rw [rdN, if_neg c_5]; rfl, rfl, rfl, by rw [rdN, if_neg c_5, updB, updB, if_neg c_5]; rfl⟩ (by decide)

set_option maxHeartbeats 1000000 in
theorem c_readsB {g : GG} {X : va_W} {T : TT} {I : II} {M : Nat} (hm : isMd T M) {c : Nat → Nat} {L : Nat} (hI : Inp I M L c) {p : Nat} {s : Int32} {nm : Nat → Int32} (hp : p ≤ L) (h0 : has c L p 98) : Mc g yX10_readsB cX10_readsB 1 (some .boolean) 5 0 0 [.ref M] X T (psI I M (p + 1) s nm) (PC I M X T c L p) := by
  have hL := hI.2.1
  have hp1 := And.left h0
  
  refine Mc.of (by decide) (Nat.le_of_ble_eq_true rfl) (fun k hfl C => ?_)
  refine r_lo (lo' := [(0, _)]) rfl ?_
  refine r_aload_n (pc := 0) C 0 dX10_readsB_0 rfl rfl ?_
  refine r_bipush (pc := 1) (v := 111) C dX10_readsB_1 rfl ?_
  refine r_putI (pc := 3) C f_X10_252 hm.1 rfl rfl rfl dX10_readsB_3 ?_
  refine r_I psI_st ?_
  refine r_aload_n (pc := 6) C 0 dX10_readsB_6 rfl rfl ?_
  refine r_bipush (pc := 7) (v := 111) C dX10_readsB_7 rfl ?_
  refine r_cVi (pc := 9) C hfl k_X10_242 (c_reads hm hI (by omega) (by omega)) hm.1 ca_X10 rfl rfl (Nat.le_of_ble_eq_true rfl) (by decide) (by decide) dX10_readsB_9 ?_
  refine r_ifeqB (pc := 12) (tgt := 83) C dX10_readsB_12 rfl (fun c_12 => ?_) (fun c_12 => ?_)
  · skip
    refine r_I (psI_neg c_12) ?_
    refine r_aload_n (pc := 83) C 0 dX10_readsB_83 rfl rfl ?_
    refine r_bipush (pc := 84) (v := 103) C dX10_readsB_84 rfl ?_
    refine r_putI (pc := 86) C f_X10_252 hm.1 rfl rfl rfl dX10_readsB_86 ?_
    refine r_I psI_st ?_
    refine r_aload_n (pc := 89) C 0 dX10_readsB_89 rfl rfl ?_
    refine r_bipush (pc := 90) (v := 114) C dX10_readsB_90 rfl ?_
    refine r_cVi (pc := 92) C hfl k_X10_242 (c_reads hm hI (by omega) (by omega)) hm.1 ca_X10 rfl rfl (Nat.le_of_ble_eq_true rfl) (by decide) (by decide) dX10_readsB_92 ?_
    refine r_ifeqB (pc := 95) (tgt := 155) C dX10_readsB_95 rfl (fun c_95 => ?_) (fun c_95 => ?_)
    · skip
      refine r_I (psI_neg c_95) ?_
      refine r_aload_n (pc := 155) C 0 dX10_readsB_155 rfl rfl ?_
      refine r_bipush (pc := 156) (v := 117) C dX10_readsB_156 rfl ?_
      refine r_putI (pc := 158) C f_X10_252 hm.1 rfl rfl rfl dX10_readsB_158 ?_
      refine r_I psI_st ?_
      refine r_aload_n (pc := 161) C 0 dX10_readsB_161 rfl rfl ?_
      refine r_bipush (pc := 162) (v := 117) C dX10_readsB_162 rfl ?_
      refine r_cVi (pc := 164) C hfl k_X10_242 (c_reads hm hI (by omega) (by omega)) hm.1 ca_X10 rfl rfl (Nat.le_of_ble_eq_true rfl) (by decide) (by decide) dX10_readsB_164 ?_
      refine r_ifeqB (pc := 167) (tgt := 207) C dX10_readsB_167 rfl (fun c_167 => ?_) (fun c_167 => ?_)
      · skip
        refine r_I (psI_neg c_167) ?_
        refine r_iconst (pc := 207) (v := 0) C dX10_readsB_207 rfl ?_
        exact r_zret (pc := 208) C rfl dX10_readsB_208 (PC_no (by simp only [vbv, kwL, mtc, List.length_cons, List.length_nil, has, And.left h0, And.right h0, c_12, c_95, c_167]; simp) (by rw [show fur c L p 9 0 0 = 1 from by simp only [fur, vbv, kwL, mtc, List.length_cons, List.length_nil, has, And.left h0, And.right h0, c_12, c_95, c_167]; simp])) (by decide)
      · skip
        have l_167 : _ ≤ L := Nat.succ_le_of_lt (And.left c_167)
        refine r_I (psI_pos c_167) ?_
        refine r_aload_n (pc := 170) C 0 dX10_readsB_170 rfl rfl ?_
        refine r_bipush (pc := 171) (v := 121) C dX10_readsB_171 rfl ?_
        refine r_cVi (pc := 173) C hfl k_X10_242 (c_reads hm hI (by omega) (by omega)) hm.1 ca_X10 rfl rfl (Nat.le_of_ble_eq_true rfl) (by decide) (by decide) dX10_readsB_173 ?_
        refine r_ifeqB (pc := 176) (tgt := 207) C dX10_readsB_176 rfl (fun c_176 => ?_) (fun c_176 => ?_)
        · skip
          refine r_I (psI_neg c_176) ?_
          refine r_iconst (pc := 207) (v := 0) C dX10_readsB_207 rfl ?_
          exact r_zret (pc := 208) C rfl dX10_readsB_208 (PC_no (by simp only [vbv, kwL, mtc, List.length_cons, List.length_nil, has, And.left h0, And.left c_167, And.right h0, And.right c_167, c_12, c_95, c_176]; simp) (by rw [show fur c L p 9 0 0 = 2 from by simp only [fur, vbv, kwL, mtc, List.length_cons, List.length_nil, has, And.left h0, And.left c_167, And.right h0, And.right c_167, c_12, c_95, c_176]; simp])) (by decide)
        · skip
          have l_176 : _ ≤ L := Nat.succ_le_of_lt (And.left c_176)
          refine r_I (psI_pos c_176) ?_
          refine r_aload_n (pc := 179) C 0 dX10_readsB_179 rfl rfl ?_
          refine r_iconst (pc := 180) (v := 0) C dX10_readsB_180 rfl ?_
          refine r_cVi (pc := 181) C hfl k_X10_249 (c_readsDigit hm hI (by omega) (by omega)) hm.1 ca_X10 rfl rfl (Nat.le_of_ble_eq_true rfl) (by decide) (by decide) dX10_readsB_181 ?_
          refine r_ifeqB (pc := 184) (tgt := 207) C dX10_readsB_184 rfl (fun c_184 => ?_) (fun c_184 => ?_)
          · skip
            refine r_iconst (pc := 207) (v := 0) C dX10_readsB_207 rfl ?_
            exact r_zret (pc := 208) C rfl dX10_readsB_208 (PA_PC (nm := nm) (cm_7 h0 c_167 c_176) rfl (PA_no c_184)) (by decide)
          · skip
            have l_184 : _ ≤ L := rdD_le c_184
            refine r_I (psI_ok c_184) ?_
            refine r_aload_n (pc := 187) C 0 dX10_readsB_187 rfl rfl ?_
            refine r_iconst (pc := 188) (v := 1) C dX10_readsB_188 rfl ?_
            refine r_cVi (pc := 189) C hfl k_X10_249 (c_readsDigit hm hI (by omega) (by omega)) hm.1 ca_X10 rfl rfl (Nat.le_of_ble_eq_true rfl) (by decide) (by decide) dX10_readsB_189 ?_
            refine r_ifeqB (pc := 192) (tgt := 207) C dX10_readsB_192 rfl (fun c_192 => ?_) (fun c_192 => ?_)
            · skip
              refine r_iconst (pc := 207) (v := 0) C dX10_readsB_207 rfl ?_
              exact r_zret (pc := 208) C rfl dX10_readsB_208 (PA_PC (nm := nm) (cm_7 h0 c_167 c_176) rfl (PA_go c_184 (PA_no c_192))) (by decide)
            · skip
              have l_192 : _ ≤ L := rdD_le c_192
              refine r_I (psI_ok c_192) ?_
              refine r_aload_n (pc := 195) C 0 dX10_readsB_195 rfl rfl ?_
              refine r_iconst (pc := 196) (v := 2) C dX10_readsB_196 rfl ?_
              refine r_cVi (pc := 197) C hfl k_X10_255 (c_readsNumber hm hI (by omega) (by omega)) hm.1 ca_X10 rfl rfl (Nat.le_of_ble_eq_true rfl) (by decide) (by decide) dX10_readsB_197 ?_
              refine r_ifeqB (pc := 200) (tgt := 207) C dX10_readsB_200 rfl (fun c_200 => ?_) (fun c_200 => ?_)
              · skip
                refine r_iconst (pc := 207) (v := 0) C dX10_readsB_207 rfl ?_
                exact r_zret (pc := 208) C rfl dX10_readsB_208 (PA_PC (nm := nm) (cm_7 h0 c_167 c_176) rfl (PA_go c_184 (PA_go c_192 (PA_no c_200)))) (by decide)
              · skip
                have l_200 : _ ≤ L := rdN_le c_200
                refine r_I (psI_ok c_200) ?_
                refine r_iconst (pc := 203) (v := 1) C dX10_readsB_203 rfl ?_
                refine r_goto (pc := 204) (tgt := 208) C dX10_readsB_204 rfl ?_
                exact r_zret (pc := 208) C rfl dX10_readsB_208 (PA_PC (nm := nm) (cm_7 h0 c_167 c_176) rfl (PA_go c_184 (PA_go c_192 (PA_go c_200 PA_nil)))) (by decide)
    · skip
      have l_95 : _ ≤ L := Nat.succ_le_of_lt (And.left c_95)
      refine r_I (psI_pos c_95) ?_
      refine r_aload_n (pc := 98) C 0 dX10_readsB_98 rfl rfl ?_
      refine r_bipush (pc := 99) (v := 105) C dX10_readsB_99 rfl ?_
      refine r_cVi (pc := 101) C hfl k_X10_242 (c_reads hm hI (by omega) (by omega)) hm.1 ca_X10 rfl rfl (Nat.le_of_ble_eq_true rfl) (by decide) (by decide) dX10_readsB_101 ?_
      refine r_ifeqB (pc := 104) (tgt := 153) C dX10_readsB_104 rfl (fun c_104 => ?_) (fun c_104 => ?_)
      · skip
        refine r_I (psI_neg c_104) ?_
        refine r_iconst (pc := 153) (v := 0) C dX10_readsB_153 rfl ?_
        exact r_zret (pc := 154) C rfl dX10_readsB_154 (PC_no (by simp only [vbv, kwL, mtc, List.length_cons, List.length_nil, has, And.left h0, And.left c_95, And.right h0, And.right c_95, c_12, c_104]; simp) (by rw [show fur c L p 9 0 0 = 2 from by simp only [fur, vbv, kwL, mtc, List.length_cons, List.length_nil, has, And.left h0, And.left c_95, And.right h0, And.right c_95, c_12, c_104]; simp])) (by decide)
      · skip
        have l_104 : _ ≤ L := Nat.succ_le_of_lt (And.left c_104)
        refine r_I (psI_pos c_104) ?_
        refine r_aload_n (pc := 107) C 0 dX10_readsB_107 rfl rfl ?_
        refine r_bipush (pc := 108) (v := 110) C dX10_readsB_108 rfl ?_
        refine r_cVi (pc := 110) C hfl k_X10_242 (c_reads hm hI (by omega) (by omega)) hm.1 ca_X10 rfl rfl (Nat.le_of_ble_eq_true rfl) (by decide) (by decide) dX10_readsB_110 ?_
        refine r_ifeqB (pc := 113) (tgt := 153) C dX10_readsB_113 rfl (fun c_113 => ?_) (fun c_113 => ?_)
        · skip
          refine r_I (psI_neg c_113) ?_
          refine r_iconst (pc := 153) (v := 0) C dX10_readsB_153 rfl ?_
          exact r_zret (pc := 154) C rfl dX10_readsB_154 (PC_no (by simp only [vbv, kwL, mtc, List.length_cons, List.length_nil, has, And.left h0, And.left c_95, And.left c_104, And.right h0, And.right c_95, And.right c_104, c_12, c_113]; simp) (by rw [show fur c L p 9 0 0 = 3 from by simp only [fur, vbv, kwL, mtc, List.length_cons, List.length_nil, has, And.left h0, And.left c_95, And.left c_104, And.right h0, And.right c_95, And.right c_104, c_12, c_113]; simp])) (by decide)
        · skip
          have l_113 : _ ≤ L := Nat.succ_le_of_lt (And.left c_113)
          refine r_I (psI_pos c_113) ?_
          refine r_aload_n (pc := 116) C 0 dX10_readsB_116 rfl rfl ?_
          refine r_bipush (pc := 117) (v := 103) C dX10_readsB_117 rfl ?_
          refine r_cVi (pc := 119) C hfl k_X10_242 (c_reads hm hI (by omega) (by omega)) hm.1 ca_X10 rfl rfl (Nat.le_of_ble_eq_true rfl) (by decide) (by decide) dX10_readsB_119 ?_
          refine r_ifeqB (pc := 122) (tgt := 153) C dX10_readsB_122 rfl (fun c_122 => ?_) (fun c_122 => ?_)
          · skip
            refine r_I (psI_neg c_122) ?_
            refine r_iconst (pc := 153) (v := 0) C dX10_readsB_153 rfl ?_
            exact r_zret (pc := 154) C rfl dX10_readsB_154 (PC_no (by simp only [vbv, kwL, mtc, List.length_cons, List.length_nil, has, And.left h0, And.left c_95, And.left c_104, And.left c_113, And.right h0, And.right c_95, And.right c_104, And.right c_113, c_12, c_122]; simp) (by rw [show fur c L p 9 0 0 = 4 from by simp only [fur, vbv, kwL, mtc, List.length_cons, List.length_nil, has, And.left h0, And.left c_95, And.left c_104, And.left c_113, And.right h0, And.right c_95, And.right c_104, And.right c_113, c_12, c_122]; simp])) (by decide)
          · skip
            have l_122 : _ ≤ L := Nat.succ_le_of_lt (And.left c_122)
            refine r_I (psI_pos c_122) ?_
            refine r_aload_n (pc := 125) C 0 dX10_readsB_125 rfl rfl ?_
            refine r_iconst (pc := 126) (v := 0) C dX10_readsB_126 rfl ?_
            refine r_cVi (pc := 127) C hfl k_X10_249 (c_readsDigit hm hI (by omega) (by omega)) hm.1 ca_X10 rfl rfl (Nat.le_of_ble_eq_true rfl) (by decide) (by decide) dX10_readsB_127 ?_
            refine r_ifeqB (pc := 130) (tgt := 153) C dX10_readsB_130 rfl (fun c_130 => ?_) (fun c_130 => ?_)
            · skip
              refine r_iconst (pc := 153) (v := 0) C dX10_readsB_153 rfl ?_
              exact r_zret (pc := 154) C rfl dX10_readsB_154 (PA_PC (nm := nm) (cm_1 h0 c_95 c_104 c_113 c_122) rfl (PA_no c_130)) (by decide)
            · skip
              have l_130 : _ ≤ L := rdD_le c_130
              refine r_I (psI_ok c_130) ?_
              refine r_aload_n (pc := 133) C 0 dX10_readsB_133 rfl rfl ?_
              refine r_iconst (pc := 134) (v := 1) C dX10_readsB_134 rfl ?_
              refine r_cVi (pc := 135) C hfl k_X10_249 (c_readsDigit hm hI (by omega) (by omega)) hm.1 ca_X10 rfl rfl (Nat.le_of_ble_eq_true rfl) (by decide) (by decide) dX10_readsB_135 ?_
              refine r_ifeqB (pc := 138) (tgt := 153) C dX10_readsB_138 rfl (fun c_138 => ?_) (fun c_138 => ?_)
              · skip
                refine r_iconst (pc := 153) (v := 0) C dX10_readsB_153 rfl ?_
                exact r_zret (pc := 154) C rfl dX10_readsB_154 (PA_PC (nm := nm) (cm_1 h0 c_95 c_104 c_113 c_122) rfl (PA_go c_130 (PA_no c_138))) (by decide)
              · skip
                have l_138 : _ ≤ L := rdD_le c_138
                refine r_I (psI_ok c_138) ?_
                refine r_aload_n (pc := 141) C 0 dX10_readsB_141 rfl rfl ?_
                refine r_iconst (pc := 142) (v := 2) C dX10_readsB_142 rfl ?_
                refine r_cVi (pc := 143) C hfl k_X10_255 (c_readsNumber hm hI (by omega) (by omega)) hm.1 ca_X10 rfl rfl (Nat.le_of_ble_eq_true rfl) (by decide) (by decide) dX10_readsB_143 ?_
                refine r_ifeqB (pc := 146) (tgt := 153) C dX10_readsB_146 rfl (fun c_146 => ?_) (fun c_146 => ?_)
                · skip
                  refine r_iconst (pc := 153) (v := 0) C dX10_readsB_153 rfl ?_
                  exact r_zret (pc := 154) C rfl dX10_readsB_154 (PA_PC (nm := nm) (cm_1 h0 c_95 c_104 c_113 c_122) rfl (PA_go c_130 (PA_go c_138 (PA_no c_146)))) (by decide)
                · skip
                  have l_146 : _ ≤ L := rdN_le c_146
                  refine r_I (psI_ok c_146) ?_
                  refine r_iconst (pc := 149) (v := 1) C dX10_readsB_149 rfl ?_
                  refine r_goto (pc := 150) (tgt := 154) C dX10_readsB_150 rfl ?_
                  exact r_zret (pc := 154) C rfl dX10_readsB_154 (PA_PC (nm := nm) (cm_1 h0 c_95 c_104 c_113 c_122) rfl (PA_go c_130 (PA_go c_138 (PA_go c_146 PA_nil)))) (by decide)
  · skip
    have l_12 : _ ≤ L := Nat.succ_le_of_lt (And.left c_12)
    refine r_I (psI_pos c_12) ?_
    refine r_aload_n (pc := 15) C 0 dX10_readsB_15 rfl rfl ?_
    refine r_bipush (pc := 16) (v := 114) C dX10_readsB_16 rfl ?_
    refine r_cVi (pc := 18) C hfl k_X10_242 (c_reads hm hI (by omega) (by omega)) hm.1 ca_X10 rfl rfl (Nat.le_of_ble_eq_true rfl) (by decide) (by decide) dX10_readsB_18 ?_
    refine r_ifeqB (pc := 21) (tgt := 81) C dX10_readsB_21 rfl (fun c_21 => ?_) (fun c_21 => ?_)
    · skip
      refine r_I (psI_neg c_21) ?_
      refine r_iconst (pc := 81) (v := 0) C dX10_readsB_81 rfl ?_
      exact r_zret (pc := 82) C rfl dX10_readsB_82 (PC_no (by simp only [vbv, kwL, mtc, List.length_cons, List.length_nil, has, And.left h0, And.left c_12, And.right h0, And.right c_12, c_21]; simp) (by rw [show fur c L p 9 0 0 = 2 from by simp only [fur, vbv, kwL, mtc, List.length_cons, List.length_nil, has, And.left h0, And.left c_12, And.right h0, And.right c_12, c_21]; simp])) (by decide)
    · skip
      have l_21 : _ ≤ L := Nat.succ_le_of_lt (And.left c_21)
      refine r_I (psI_pos c_21) ?_
      refine r_aload_n (pc := 24) C 0 dX10_readsB_24 rfl rfl ?_
      refine r_bipush (pc := 25) (v := 114) C dX10_readsB_25 rfl ?_
      refine r_cVi (pc := 27) C hfl k_X10_242 (c_reads hm hI (by omega) (by omega)) hm.1 ca_X10 rfl rfl (Nat.le_of_ble_eq_true rfl) (by decide) (by decide) dX10_readsB_27 ?_
      refine r_ifeqB (pc := 30) (tgt := 81) C dX10_readsB_30 rfl (fun c_30 => ?_) (fun c_30 => ?_)
      · skip
        refine r_I (psI_neg c_30) ?_
        refine r_iconst (pc := 81) (v := 0) C dX10_readsB_81 rfl ?_
        exact r_zret (pc := 82) C rfl dX10_readsB_82 (PC_no (by simp only [vbv, kwL, mtc, List.length_cons, List.length_nil, has, And.left h0, And.left c_12, And.left c_21, And.right h0, And.right c_12, And.right c_21, c_30]; simp) (by rw [show fur c L p 9 0 0 = 3 from by simp only [fur, vbv, kwL, mtc, List.length_cons, List.length_nil, has, And.left h0, And.left c_12, And.left c_21, And.right h0, And.right c_12, And.right c_21, c_30]; simp])) (by decide)
      · skip
        have l_30 : _ ≤ L := Nat.succ_le_of_lt (And.left c_30)
        refine r_I (psI_pos c_30) ?_
        refine r_aload_n (pc := 33) C 0 dX10_readsB_33 rfl rfl ?_
        refine r_bipush (pc := 34) (v := 111) C dX10_readsB_34 rfl ?_
        refine r_cVi (pc := 36) C hfl k_X10_242 (c_reads hm hI (by omega) (by omega)) hm.1 ca_X10 rfl rfl (Nat.le_of_ble_eq_true rfl) (by decide) (by decide) dX10_readsB_36 ?_
        refine r_ifeqB (pc := 39) (tgt := 81) C dX10_readsB_39 rfl (fun c_39 => ?_) (fun c_39 => ?_)
        · skip
          refine r_I (psI_neg c_39) ?_
          refine r_iconst (pc := 81) (v := 0) C dX10_readsB_81 rfl ?_
          exact r_zret (pc := 82) C rfl dX10_readsB_82 (PC_no (by simp only [vbv, kwL, mtc, List.length_cons, List.length_nil, has, And.left h0, And.left c_12, And.left c_21, And.left c_30, And.right h0, And.right c_12, And.right c_21, And.right c_30, c_39]; simp) (by rw [show fur c L p 9 0 0 = 4 from by simp only [fur, vbv, kwL, mtc, List.length_cons, List.length_nil, has, And.left h0, And.left c_12, And.left c_21, And.left c_30, And.right h0, And.right c_12, And.right c_21, And.right c_30, c_39]; simp])) (by decide)
        · skip
          have l_39 : _ ≤ L := Nat.succ_le_of_lt (And.left c_39)
          refine r_I (psI_pos c_39) ?_
          refine r_aload_n (pc := 42) C 0 dX10_readsB_42 rfl rfl ?_
          refine r_bipush (pc := 43) (v := 119) C dX10_readsB_43 rfl ?_
          refine r_cVi (pc := 45) C hfl k_X10_242 (c_reads hm hI (by omega) (by omega)) hm.1 ca_X10 rfl rfl (Nat.le_of_ble_eq_true rfl) (by decide) (by decide) dX10_readsB_45 ?_
          refine r_ifeqB (pc := 48) (tgt := 81) C dX10_readsB_48 rfl (fun c_48 => ?_) (fun c_48 => ?_)
          · skip
            refine r_I (psI_neg c_48) ?_
            refine r_iconst (pc := 81) (v := 0) C dX10_readsB_81 rfl ?_
            exact r_zret (pc := 82) C rfl dX10_readsB_82 (PC_no (by simp only [vbv, kwL, mtc, List.length_cons, List.length_nil, has, And.left h0, And.left c_12, And.left c_21, And.left c_30, And.left c_39, And.right h0, And.right c_12, And.right c_21, And.right c_30, And.right c_39, c_48]; simp) (by rw [show fur c L p 9 0 0 = 5 from by simp only [fur, vbv, kwL, mtc, List.length_cons, List.length_nil, has, And.left h0, And.left c_12, And.left c_21, And.left c_30, And.left c_39, And.right h0, And.right c_12, And.right c_21, And.right c_30, And.right c_39, c_48]; simp])) (by decide)
          · skip
            have l_48 : _ ≤ L := Nat.succ_le_of_lt (And.left c_48)
            refine r_I (psI_pos c_48) ?_
            refine r_aload_n (pc := 51) C 0 dX10_readsB_51 rfl rfl ?_
            refine r_bipush (pc := 52) (v := 101) C dX10_readsB_52 rfl ?_
            refine r_cVi (pc := 54) C hfl k_X10_242 (c_reads hm hI (by omega) (by omega)) hm.1 ca_X10 rfl rfl (Nat.le_of_ble_eq_true rfl) (by decide) (by decide) dX10_readsB_54 ?_
            refine r_ifeqB (pc := 57) (tgt := 81) C dX10_readsB_57 rfl (fun c_57 => ?_) (fun c_57 => ?_)
            · skip
              refine r_I (psI_neg c_57) ?_
              refine r_iconst (pc := 81) (v := 0) C dX10_readsB_81 rfl ?_
              exact r_zret (pc := 82) C rfl dX10_readsB_82 (PC_no (by simp only [vbv, kwL, mtc, List.length_cons, List.length_nil, has, And.left h0, And.left c_12, And.left c_21, And.left c_30, And.left c_39, And.left c_48, And.right h0, And.right c_12, And.right c_21, And.right c_30, And.right c_39, And.right c_48, c_57]; simp) (by rw [show fur c L p 9 0 0 = 6 from by simp only [fur, vbv, kwL, mtc, List.length_cons, List.length_nil, has, And.left h0, And.left c_12, And.left c_21, And.left c_30, And.left c_39, And.left c_48, And.right h0, And.right c_12, And.right c_21, And.right c_30, And.right c_39, And.right c_48, c_57]; simp])) (by decide)
            · skip
              have l_57 : _ ≤ L := Nat.succ_le_of_lt (And.left c_57)
              refine r_I (psI_pos c_57) ?_
              refine r_aload_n (pc := 60) C 0 dX10_readsB_60 rfl rfl ?_
              refine r_bipush (pc := 61) (v := 114) C dX10_readsB_61 rfl ?_
              refine r_cVi (pc := 63) C hfl k_X10_242 (c_reads hm hI (by omega) (by omega)) hm.1 ca_X10 rfl rfl (Nat.le_of_ble_eq_true rfl) (by decide) (by decide) dX10_readsB_63 ?_
              refine r_ifeqB (pc := 66) (tgt := 81) C dX10_readsB_66 rfl (fun c_66 => ?_) (fun c_66 => ?_)
              · skip
                refine r_I (psI_neg c_66) ?_
                refine r_iconst (pc := 81) (v := 0) C dX10_readsB_81 rfl ?_
                exact r_zret (pc := 82) C rfl dX10_readsB_82 (PC_no (by simp only [vbv, kwL, mtc, List.length_cons, List.length_nil, has, And.left h0, And.left c_12, And.left c_21, And.left c_30, And.left c_39, And.left c_48, And.left c_57, And.right h0, And.right c_12, And.right c_21, And.right c_30, And.right c_39, And.right c_48, And.right c_57, c_66]; simp) (by rw [show fur c L p 9 0 0 = 7 from by simp only [fur, vbv, kwL, mtc, List.length_cons, List.length_nil, has, And.left h0, And.left c_12, And.left c_21, And.left c_30, And.left c_39, And.left c_48, And.left c_57, And.right h0, And.right c_12, And.right c_21, And.right c_30, And.right c_39, And.right c_48, And.right c_57, c_66]; simp])) (by decide)
              · skip
                have l_66 : _ ≤ L := Nat.succ_le_of_lt (And.left c_66)
                refine r_I (psI_pos c_66) ?_
                refine r_aload_n (pc := 69) C 0 dX10_readsB_69 rfl rfl ?_
                refine r_iconst (pc := 70) (v := 0) C dX10_readsB_70 rfl ?_
                refine r_cVi (pc := 71) C hfl k_X10_255 (c_readsNumber hm hI (by omega) (by omega)) hm.1 ca_X10 rfl rfl (Nat.le_of_ble_eq_true rfl) (by decide) (by decide) dX10_readsB_71 ?_
                refine r_ifeqB (pc := 74) (tgt := 81) C dX10_readsB_74 rfl (fun c_74 => ?_) (fun c_74 => ?_)
                · skip
                  refine r_iconst (pc := 81) (v := 0) C dX10_readsB_81 rfl ?_
                  exact r_zret (pc := 82) C rfl dX10_readsB_82 (PA_PC (nm := nm) (cm_0 h0 c_12 c_21 c_30 c_39 c_48 c_57 c_66) rfl (PA_no c_74)) (by decide)
                · skip
                  have l_74 : _ ≤ L := rdN_le c_74
                  refine r_I (psI_ok c_74) ?_
                  refine r_iconst (pc := 77) (v := 1) C dX10_readsB_77 rfl ?_
                  refine r_goto (pc := 78) (tgt := 82) C dX10_readsB_78 rfl ?_
                  exact r_zret (pc := 82) C rfl dX10_readsB_82 (PA_PC (nm := nm) (cm_0 h0 c_12 c_21 c_30 c_39 c_48 c_57 c_66) rfl (PA_go c_74 PA_nil)) (by decide)

set_option maxHeartbeats 1000000 in
theorem c_readsP {g : GG} {X : va_W} {T : TT} {I : II} {M : Nat} (hm : isMd T M) {c : Nat → Nat} {L : Nat} (hI : Inp I M L c) {p : Nat} {s : Int32} {nm : Nat → Int32} (hp : p ≤ L) (h0 : has c L p 112) : Mc g yX10_readsP cX10_readsP 1 (some .boolean) 5 0 0 [.ref M] X T (psI I M (p + 1) (nI 112) nm) (PC I M X T c L p) := by
  have hL := hI.2.1
  have hp1 := And.left h0
  
  refine Mc.of (by decide) (Nat.le_of_ble_eq_true rfl) (fun k hfl C => ?_)
  refine r_lo (lo' := [(0, _)]) rfl ?_
  refine r_aload_n (pc := 0) C 0 dX10_readsP_0 rfl rfl ?_
  refine r_bipush (pc := 1) (v := 114) C dX10_readsP_1 rfl ?_
  refine r_cVi (pc := 3) C hfl k_X10_242 (c_reads hm hI (by omega) (by omega)) hm.1 ca_X10 rfl rfl (Nat.le_of_ble_eq_true rfl) (by decide) (by decide) dX10_readsP_3 ?_
  refine r_ifeqB (pc := 6) (tgt := 58) C dX10_readsP_6 rfl (fun c_6 => ?_) (fun c_6 => ?_)
  · skip
    refine r_I (psI_neg c_6) ?_
    refine r_aload_n (pc := 58) C 0 dX10_readsP_58 rfl rfl ?_
    refine r_bipush (pc := 59) (v := 101) C dX10_readsP_59 rfl ?_
    refine r_putI (pc := 61) C f_X10_252 hm.1 rfl rfl rfl dX10_readsP_61 ?_
    refine r_I psI_st ?_
    refine r_aload_n (pc := 64) C 0 dX10_readsP_64 rfl rfl ?_
    refine r_bipush (pc := 65) (v := 108) C dX10_readsP_65 rfl ?_
    refine r_cVi (pc := 67) C hfl k_X10_242 (c_reads hm hI (by omega) (by omega)) hm.1 ca_X10 rfl rfl (Nat.le_of_ble_eq_true rfl) (by decide) (by decide) dX10_readsP_67 ?_
    refine r_ifeqB (pc := 70) (tgt := 137) C dX10_readsP_70 rfl (fun c_70 => ?_) (fun c_70 => ?_)
    · skip
      refine r_I (psI_neg c_70) ?_
      refine r_iconst (pc := 137) (v := 0) C dX10_readsP_137 rfl ?_
      exact r_zret (pc := 138) C rfl dX10_readsP_138 (PC_no (by simp only [vbv, kwL, mtc, List.length_cons, List.length_nil, has, And.left h0, And.right h0, c_6, c_70]; simp) (by rw [show fur c L p 9 0 0 = 1 from by simp only [fur, vbv, kwL, mtc, List.length_cons, List.length_nil, has, And.left h0, And.right h0, c_6, c_70]; simp])) (by decide)
    · skip
      have l_70 : _ ≤ L := Nat.succ_le_of_lt (And.left c_70)
      refine r_I (psI_pos c_70) ?_
      refine r_aload_n (pc := 73) C 0 dX10_readsP_73 rfl rfl ?_
      refine r_bipush (pc := 74) (v := 101) C dX10_readsP_74 rfl ?_
      refine r_cVi (pc := 76) C hfl k_X10_242 (c_reads hm hI (by omega) (by omega)) hm.1 ca_X10 rfl rfl (Nat.le_of_ble_eq_true rfl) (by decide) (by decide) dX10_readsP_76 ?_
      refine r_ifeqB (pc := 79) (tgt := 137) C dX10_readsP_79 rfl (fun c_79 => ?_) (fun c_79 => ?_)
      · skip
        refine r_I (psI_neg c_79) ?_
        refine r_iconst (pc := 137) (v := 0) C dX10_readsP_137 rfl ?_
        exact r_zret (pc := 138) C rfl dX10_readsP_138 (PC_no (by simp only [vbv, kwL, mtc, List.length_cons, List.length_nil, has, And.left h0, And.left c_70, And.right h0, And.right c_70, c_6, c_79]; simp) (by rw [show fur c L p 9 0 0 = 2 from by simp only [fur, vbv, kwL, mtc, List.length_cons, List.length_nil, has, And.left h0, And.left c_70, And.right h0, And.right c_70, c_6, c_79]; simp])) (by decide)
      · skip
        have l_79 : _ ≤ L := Nat.succ_le_of_lt (And.left c_79)
        refine r_I (psI_pos c_79) ?_
        refine r_aload_n (pc := 82) C 0 dX10_readsP_82 rfl rfl ?_
        refine r_bipush (pc := 83) (v := 100) C dX10_readsP_83 rfl ?_
        refine r_cVi (pc := 85) C hfl k_X10_242 (c_reads hm hI (by omega) (by omega)) hm.1 ca_X10 rfl rfl (Nat.le_of_ble_eq_true rfl) (by decide) (by decide) dX10_readsP_85 ?_
        refine r_ifeqB (pc := 88) (tgt := 137) C dX10_readsP_88 rfl (fun c_88 => ?_) (fun c_88 => ?_)
        · skip
          refine r_I (psI_neg c_88) ?_
          refine r_iconst (pc := 137) (v := 0) C dX10_readsP_137 rfl ?_
          exact r_zret (pc := 138) C rfl dX10_readsP_138 (PC_no (by simp only [vbv, kwL, mtc, List.length_cons, List.length_nil, has, And.left h0, And.left c_70, And.left c_79, And.right h0, And.right c_70, And.right c_79, c_6, c_88]; simp) (by rw [show fur c L p 9 0 0 = 3 from by simp only [fur, vbv, kwL, mtc, List.length_cons, List.length_nil, has, And.left h0, And.left c_70, And.left c_79, And.right h0, And.right c_70, And.right c_79, c_6, c_88]; simp])) (by decide)
        · skip
          have l_88 : _ ≤ L := Nat.succ_le_of_lt (And.left c_88)
          refine r_I (psI_pos c_88) ?_
          refine r_aload_n (pc := 91) C 0 dX10_readsP_91 rfl rfl ?_
          refine r_bipush (pc := 92) (v := 103) C dX10_readsP_92 rfl ?_
          refine r_cVi (pc := 94) C hfl k_X10_242 (c_reads hm hI (by omega) (by omega)) hm.1 ca_X10 rfl rfl (Nat.le_of_ble_eq_true rfl) (by decide) (by decide) dX10_readsP_94 ?_
          refine r_ifeqB (pc := 97) (tgt := 137) C dX10_readsP_97 rfl (fun c_97 => ?_) (fun c_97 => ?_)
          · skip
            refine r_I (psI_neg c_97) ?_
            refine r_iconst (pc := 137) (v := 0) C dX10_readsP_137 rfl ?_
            exact r_zret (pc := 138) C rfl dX10_readsP_138 (PC_no (by simp only [vbv, kwL, mtc, List.length_cons, List.length_nil, has, And.left h0, And.left c_70, And.left c_79, And.left c_88, And.right h0, And.right c_70, And.right c_79, And.right c_88, c_6, c_97]; simp) (by rw [show fur c L p 9 0 0 = 4 from by simp only [fur, vbv, kwL, mtc, List.length_cons, List.length_nil, has, And.left h0, And.left c_70, And.left c_79, And.left c_88, And.right h0, And.right c_70, And.right c_79, And.right c_88, c_6, c_97]; simp])) (by decide)
          · skip
            have l_97 : _ ≤ L := Nat.succ_le_of_lt (And.left c_97)
            refine r_I (psI_pos c_97) ?_
            refine r_aload_n (pc := 100) C 0 dX10_readsP_100 rfl rfl ?_
            refine r_bipush (pc := 101) (v := 101) C dX10_readsP_101 rfl ?_
            refine r_cVi (pc := 103) C hfl k_X10_242 (c_reads hm hI (by omega) (by omega)) hm.1 ca_X10 rfl rfl (Nat.le_of_ble_eq_true rfl) (by decide) (by decide) dX10_readsP_103 ?_
            refine r_ifeqB (pc := 106) (tgt := 137) C dX10_readsP_106 rfl (fun c_106 => ?_) (fun c_106 => ?_)
            · skip
              refine r_I (psI_neg c_106) ?_
              refine r_iconst (pc := 137) (v := 0) C dX10_readsP_137 rfl ?_
              exact r_zret (pc := 138) C rfl dX10_readsP_138 (PC_no (by simp only [vbv, kwL, mtc, List.length_cons, List.length_nil, has, And.left h0, And.left c_70, And.left c_79, And.left c_88, And.left c_97, And.right h0, And.right c_70, And.right c_79, And.right c_88, And.right c_97, c_6, c_106]; simp) (by rw [show fur c L p 9 0 0 = 5 from by simp only [fur, vbv, kwL, mtc, List.length_cons, List.length_nil, has, And.left h0, And.left c_70, And.left c_79, And.left c_88, And.left c_97, And.right h0, And.right c_70, And.right c_79, And.right c_88, And.right c_97, c_6, c_106]; simp])) (by decide)
            · skip
              have l_106 : _ ≤ L := Nat.succ_le_of_lt (And.left c_106)
              refine r_I (psI_pos c_106) ?_
              refine r_aload_n (pc := 109) C 0 dX10_readsP_109 rfl rfl ?_
              refine r_iconst (pc := 110) (v := 0) C dX10_readsP_110 rfl ?_
              refine r_cVi (pc := 111) C hfl k_X10_255 (c_readsNumber hm hI (by omega) (by omega)) hm.1 ca_X10 rfl rfl (Nat.le_of_ble_eq_true rfl) (by decide) (by decide) dX10_readsP_111 ?_
              refine r_ifeqB (pc := 114) (tgt := 137) C dX10_readsP_114 rfl (fun c_114 => ?_) (fun c_114 => ?_)
              · skip
                refine r_iconst (pc := 137) (v := 0) C dX10_readsP_137 rfl ?_
                exact r_zret (pc := 138) C rfl dX10_readsP_138 (PA_PC (nm := nm) (cm_4 h0 c_70 c_79 c_88 c_97 c_106) rfl (PA_no c_114)) (by decide)
              · skip
                have l_114 : _ ≤ L := rdN_le c_114
                refine r_I (psI_ok c_114) ?_
                refine r_aload_n (pc := 117) C 0 dX10_readsP_117 rfl rfl ?_
                refine r_iconst (pc := 118) (v := 1) C dX10_readsP_118 rfl ?_
                refine r_cVi (pc := 119) C hfl k_X10_249 (c_readsDigit hm hI (by omega) (by omega)) hm.1 ca_X10 rfl rfl (Nat.le_of_ble_eq_true rfl) (by decide) (by decide) dX10_readsP_119 ?_
                refine r_ifeqB (pc := 122) (tgt := 137) C dX10_readsP_122 rfl (fun c_122 => ?_) (fun c_122 => ?_)
                · skip
                  refine r_iconst (pc := 137) (v := 0) C dX10_readsP_137 rfl ?_
                  exact r_zret (pc := 138) C rfl dX10_readsP_138 (PA_PC (nm := nm) (cm_4 h0 c_70 c_79 c_88 c_97 c_106) rfl (PA_go c_114 (PA_no c_122))) (by decide)
                · skip
                  have l_122 : _ ≤ L := rdD_le c_122
                  refine r_I (psI_ok c_122) ?_
                  refine r_aload_n (pc := 125) C 0 dX10_readsP_125 rfl rfl ?_
                  refine r_iconst (pc := 126) (v := 2) C dX10_readsP_126 rfl ?_
                  refine r_cVi (pc := 127) C hfl k_X10_255 (c_readsNumber hm hI (by omega) (by omega)) hm.1 ca_X10 rfl rfl (Nat.le_of_ble_eq_true rfl) (by decide) (by decide) dX10_readsP_127 ?_
                  refine r_ifeqB (pc := 130) (tgt := 137) C dX10_readsP_130 rfl (fun c_130 => ?_) (fun c_130 => ?_)
                  · skip
                    refine r_iconst (pc := 137) (v := 0) C dX10_readsP_137 rfl ?_
                    exact r_zret (pc := 138) C rfl dX10_readsP_138 (PA_PC (nm := nm) (cm_4 h0 c_70 c_79 c_88 c_97 c_106) rfl (PA_go c_114 (PA_go c_122 (PA_no c_130)))) (by decide)
                  · skip
                    have l_130 : _ ≤ L := rdN_le c_130
                    refine r_I (psI_ok c_130) ?_
                    refine r_iconst (pc := 133) (v := 1) C dX10_readsP_133 rfl ?_
                    refine r_goto (pc := 134) (tgt := 138) C dX10_readsP_134 rfl ?_
                    exact r_zret (pc := 138) C rfl dX10_readsP_138 (PA_PC (nm := nm) (cm_4 h0 c_70 c_79 c_88 c_97 c_106) rfl (PA_go c_114 (PA_go c_122 (PA_go c_130 PA_nil)))) (by decide)
  · skip
    have l_6 : _ ≤ L := Nat.succ_le_of_lt (And.left c_6)
    refine r_I (psI_pos c_6) ?_
    refine r_aload_n (pc := 9) C 0 dX10_readsP_9 rfl rfl ?_
    refine r_bipush (pc := 10) (v := 105) C dX10_readsP_10 rfl ?_
    refine r_cVi (pc := 12) C hfl k_X10_242 (c_reads hm hI (by omega) (by omega)) hm.1 ca_X10 rfl rfl (Nat.le_of_ble_eq_true rfl) (by decide) (by decide) dX10_readsP_12 ?_
    refine r_ifeqB (pc := 15) (tgt := 56) C dX10_readsP_15 rfl (fun c_15 => ?_) (fun c_15 => ?_)
    · skip
      refine r_I (psI_neg c_15) ?_
      refine r_iconst (pc := 56) (v := 0) C dX10_readsP_56 rfl ?_
      exact r_zret (pc := 57) C rfl dX10_readsP_57 (PC_no (by simp only [vbv, kwL, mtc, List.length_cons, List.length_nil, has, And.left h0, And.left c_6, And.right h0, And.right c_6, c_15]; simp) (by rw [show fur c L p 9 0 0 = 2 from by simp only [fur, vbv, kwL, mtc, List.length_cons, List.length_nil, has, And.left h0, And.left c_6, And.right h0, And.right c_6, c_15]; simp])) (by decide)
    · skip
      have l_15 : _ ≤ L := Nat.succ_le_of_lt (And.left c_15)
      refine r_I (psI_pos c_15) ?_
      refine r_aload_n (pc := 18) C 0 dX10_readsP_18 rfl rfl ?_
      refine r_bipush (pc := 19) (v := 99) C dX10_readsP_19 rfl ?_
      refine r_cVi (pc := 21) C hfl k_X10_242 (c_reads hm hI (by omega) (by omega)) hm.1 ca_X10 rfl rfl (Nat.le_of_ble_eq_true rfl) (by decide) (by decide) dX10_readsP_21 ?_
      refine r_ifeqB (pc := 24) (tgt := 56) C dX10_readsP_24 rfl (fun c_24 => ?_) (fun c_24 => ?_)
      · skip
        refine r_I (psI_neg c_24) ?_
        refine r_iconst (pc := 56) (v := 0) C dX10_readsP_56 rfl ?_
        exact r_zret (pc := 57) C rfl dX10_readsP_57 (PC_no (by simp only [vbv, kwL, mtc, List.length_cons, List.length_nil, has, And.left h0, And.left c_6, And.left c_15, And.right h0, And.right c_6, And.right c_15, c_24]; simp) (by rw [show fur c L p 9 0 0 = 3 from by simp only [fur, vbv, kwL, mtc, List.length_cons, List.length_nil, has, And.left h0, And.left c_6, And.left c_15, And.right h0, And.right c_6, And.right c_15, c_24]; simp])) (by decide)
      · skip
        have l_24 : _ ≤ L := Nat.succ_le_of_lt (And.left c_24)
        refine r_I (psI_pos c_24) ?_
        refine r_aload_n (pc := 27) C 0 dX10_readsP_27 rfl rfl ?_
        refine r_bipush (pc := 28) (v := 101) C dX10_readsP_28 rfl ?_
        refine r_cVi (pc := 30) C hfl k_X10_242 (c_reads hm hI (by omega) (by omega)) hm.1 ca_X10 rfl rfl (Nat.le_of_ble_eq_true rfl) (by decide) (by decide) dX10_readsP_30 ?_
        refine r_ifeqB (pc := 33) (tgt := 56) C dX10_readsP_33 rfl (fun c_33 => ?_) (fun c_33 => ?_)
        · skip
          refine r_I (psI_neg c_33) ?_
          refine r_iconst (pc := 56) (v := 0) C dX10_readsP_56 rfl ?_
          exact r_zret (pc := 57) C rfl dX10_readsP_57 (PC_no (by simp only [vbv, kwL, mtc, List.length_cons, List.length_nil, has, And.left h0, And.left c_6, And.left c_15, And.left c_24, And.right h0, And.right c_6, And.right c_15, And.right c_24, c_33]; simp) (by rw [show fur c L p 9 0 0 = 4 from by simp only [fur, vbv, kwL, mtc, List.length_cons, List.length_nil, has, And.left h0, And.left c_6, And.left c_15, And.left c_24, And.right h0, And.right c_6, And.right c_15, And.right c_24, c_33]; simp])) (by decide)
        · skip
          have l_33 : _ ≤ L := Nat.succ_le_of_lt (And.left c_33)
          refine r_I (psI_pos c_33) ?_
          refine r_aload_n (pc := 36) C 0 dX10_readsP_36 rfl rfl ?_
          refine r_iconst (pc := 37) (v := 0) C dX10_readsP_37 rfl ?_
          refine r_cVi (pc := 38) C hfl k_X10_249 (c_readsDigit hm hI (by omega) (by omega)) hm.1 ca_X10 rfl rfl (Nat.le_of_ble_eq_true rfl) (by decide) (by decide) dX10_readsP_38 ?_
          refine r_ifeqB (pc := 41) (tgt := 56) C dX10_readsP_41 rfl (fun c_41 => ?_) (fun c_41 => ?_)
          · skip
            refine r_iconst (pc := 56) (v := 0) C dX10_readsP_56 rfl ?_
            exact r_zret (pc := 57) C rfl dX10_readsP_57 (PA_PC (nm := nm) (cm_2 h0 c_6 c_15 c_24 c_33) rfl (PA_no c_41)) (by decide)
          · skip
            have l_41 : _ ≤ L := rdD_le c_41
            refine r_I (psI_ok c_41) ?_
            refine r_aload_n (pc := 44) C 0 dX10_readsP_44 rfl rfl ?_
            refine r_iconst (pc := 45) (v := 1) C dX10_readsP_45 rfl ?_
            refine r_cVi (pc := 46) C hfl k_X10_255 (c_readsNumber hm hI (by omega) (by omega)) hm.1 ca_X10 rfl rfl (Nat.le_of_ble_eq_true rfl) (by decide) (by decide) dX10_readsP_46 ?_
            refine r_ifeqB (pc := 49) (tgt := 56) C dX10_readsP_49 rfl (fun c_49 => ?_) (fun c_49 => ?_)
            · skip
              refine r_iconst (pc := 56) (v := 0) C dX10_readsP_56 rfl ?_
              exact r_zret (pc := 57) C rfl dX10_readsP_57 (PA_PC (nm := nm) (cm_2 h0 c_6 c_15 c_24 c_33) rfl (PA_go c_41 (PA_no c_49))) (by decide)
            · skip
              have l_49 : _ ≤ L := rdN_le c_49
              refine r_I (psI_ok c_49) ?_
              refine r_iconst (pc := 52) (v := 1) C dX10_readsP_52 rfl ?_
              refine r_goto (pc := 53) (tgt := 57) C dX10_readsP_53 rfl ?_
              exact r_zret (pc := 57) C rfl dX10_readsP_57 (PA_PC (nm := nm) (cm_2 h0 c_6 c_15 c_24 c_33) rfl (PA_go c_41 (PA_go c_49 PA_nil))) (by decide)

set_option maxHeartbeats 1000000 in
theorem c_readsR {g : GG} {X : va_W} {T : TT} {I : II} {M : Nat} (hm : isMd T M) {c : Nat → Nat} {L : Nat} (hI : Inp I M L c) {p : Nat} {s : Int32} {nm : Nat → Int32} (hp : p ≤ L) (h0 : has c L p 114) : Mc g yX10_readsR cX10_readsR 1 (some .boolean) 5 0 0 [.ref M] X T (psI I M (p + 1) s nm) (PC I M X T c L p) := by
  have hL := hI.2.1
  have hp1 := And.left h0
  
  refine Mc.of (by decide) (Nat.le_of_ble_eq_true rfl) (fun k hfl C => ?_)
  refine r_lo (lo' := [(0, _)]) rfl ?_
  refine r_aload_n (pc := 0) C 0 dX10_readsR_0 rfl rfl ?_
  refine r_bipush (pc := 1) (v := 101) C dX10_readsR_1 rfl ?_
  refine r_cVi (pc := 3) C hfl k_X10_242 (c_reads hm hI (by omega) (by omega)) hm.1 ca_X10 rfl rfl (Nat.le_of_ble_eq_true rfl) (by decide) (by decide) dX10_readsR_3 ?_
  refine r_ifneB (pc := 6) (tgt := 11) C dX10_readsR_6 rfl (fun c_6 => ?_) (fun c_6 => ?_)
  · skip
    have l_6 : _ ≤ L := Nat.succ_le_of_lt (And.left c_6)
    refine r_I (psI_pos c_6) ?_
    refine r_aload_n (pc := 11) C 0 dX10_readsR_11 rfl rfl ?_
    refine r_bipush (pc := 12) (v := 97) C dX10_readsR_12 rfl ?_
    refine r_putI (pc := 14) C f_X10_252 hm.1 rfl rfl rfl dX10_readsR_14 ?_
    refine r_I psI_st ?_
    refine r_aload_n (pc := 17) C 0 dX10_readsR_17 rfl rfl ?_
    refine r_bipush (pc := 18) (v := 108) C dX10_readsR_18 rfl ?_
    refine r_cVi (pc := 20) C hfl k_X10_242 (c_reads hm hI (by omega) (by omega)) hm.1 ca_X10 rfl rfl (Nat.le_of_ble_eq_true rfl) (by decide) (by decide) dX10_readsR_20 ?_
    refine r_ifeqB (pc := 23) (tgt := 92) C dX10_readsR_23 rfl (fun c_23 => ?_) (fun c_23 => ?_)
    · skip
      refine r_I (psI_neg c_23) ?_
      refine r_aload_n (pc := 92) C 0 dX10_readsR_92 rfl rfl ?_
      refine r_bipush (pc := 93) (v := 121) C dX10_readsR_93 rfl ?_
      refine r_putI (pc := 95) C f_X10_252 hm.1 rfl rfl rfl dX10_readsR_95 ?_
      refine r_I psI_st ?_
      refine r_aload_n (pc := 98) C 0 dX10_readsR_98 rfl rfl ?_
      refine r_bipush (pc := 99) (v := 112) C dX10_readsR_99 rfl ?_
      refine r_cVi (pc := 101) C hfl k_X10_242 (c_reads hm hI (by omega) (by omega)) hm.1 ca_X10 rfl rfl (Nat.le_of_ble_eq_true rfl) (by decide) (by decide) dX10_readsR_101 ?_
      refine r_ifeqB (pc := 104) (tgt := 145) C dX10_readsR_104 rfl (fun c_104 => ?_) (fun c_104 => ?_)
      · skip
        refine r_I (psI_neg c_104) ?_
        refine r_iconst (pc := 145) (v := 0) C dX10_readsR_145 rfl ?_
        exact r_zret (pc := 146) C rfl dX10_readsR_146 (PC_no (by simp only [vbv, kwL, mtc, List.length_cons, List.length_nil, has, And.left h0, And.left c_6, And.right h0, And.right c_6, c_23, c_104]; simp) (by rw [show fur c L p 9 0 0 = 2 from by simp only [fur, vbv, kwL, mtc, List.length_cons, List.length_nil, has, And.left h0, And.left c_6, And.right h0, And.right c_6, c_23, c_104]; simp])) (by decide)
      · skip
        have l_104 : _ ≤ L := Nat.succ_le_of_lt (And.left c_104)
        refine r_I (psI_pos c_104) ?_
        refine r_aload_n (pc := 107) C 0 dX10_readsR_107 rfl rfl ?_
        refine r_bipush (pc := 108) (v := 97) C dX10_readsR_108 rfl ?_
        refine r_cVi (pc := 110) C hfl k_X10_242 (c_reads hm hI (by omega) (by omega)) hm.1 ca_X10 rfl rfl (Nat.le_of_ble_eq_true rfl) (by decide) (by decide) dX10_readsR_110 ?_
        refine r_ifeqB (pc := 113) (tgt := 145) C dX10_readsR_113 rfl (fun c_113 => ?_) (fun c_113 => ?_)
        · skip
          refine r_I (psI_neg c_113) ?_
          refine r_iconst (pc := 145) (v := 0) C dX10_readsR_145 rfl ?_
          exact r_zret (pc := 146) C rfl dX10_readsR_146 (PC_no (by simp only [vbv, kwL, mtc, List.length_cons, List.length_nil, has, And.left h0, And.left c_6, And.left c_104, And.right h0, And.right c_6, And.right c_104, c_23, c_113]; simp) (by rw [show fur c L p 9 0 0 = 3 from by simp only [fur, vbv, kwL, mtc, List.length_cons, List.length_nil, has, And.left h0, And.left c_6, And.left c_104, And.right h0, And.right c_6, And.right c_104, c_23, c_113]; simp])) (by decide)
        · skip
          have l_113 : _ ≤ L := Nat.succ_le_of_lt (And.left c_113)
          refine r_I (psI_pos c_113) ?_
          refine r_aload_n (pc := 116) C 0 dX10_readsR_116 rfl rfl ?_
          refine r_bipush (pc := 117) (v := 121) C dX10_readsR_117 rfl ?_
          refine r_cVi (pc := 119) C hfl k_X10_242 (c_reads hm hI (by omega) (by omega)) hm.1 ca_X10 rfl rfl (Nat.le_of_ble_eq_true rfl) (by decide) (by decide) dX10_readsR_119 ?_
          refine r_ifeqB (pc := 122) (tgt := 145) C dX10_readsR_122 rfl (fun c_122 => ?_) (fun c_122 => ?_)
          · skip
            refine r_I (psI_neg c_122) ?_
            refine r_iconst (pc := 145) (v := 0) C dX10_readsR_145 rfl ?_
            exact r_zret (pc := 146) C rfl dX10_readsR_146 (PC_no (by simp only [vbv, kwL, mtc, List.length_cons, List.length_nil, has, And.left h0, And.left c_6, And.left c_104, And.left c_113, And.right h0, And.right c_6, And.right c_104, And.right c_113, c_23, c_122]; simp) (by rw [show fur c L p 9 0 0 = 4 from by simp only [fur, vbv, kwL, mtc, List.length_cons, List.length_nil, has, And.left h0, And.left c_6, And.left c_104, And.left c_113, And.right h0, And.right c_6, And.right c_104, And.right c_113, c_23, c_122]; simp])) (by decide)
          · skip
            have l_122 : _ ≤ L := Nat.succ_le_of_lt (And.left c_122)
            refine r_I (psI_pos c_122) ?_
            refine r_aload_n (pc := 125) C 0 dX10_readsR_125 rfl rfl ?_
            refine r_iconst (pc := 126) (v := 0) C dX10_readsR_126 rfl ?_
            refine r_cVi (pc := 127) C hfl k_X10_255 (c_readsNumber hm hI (by omega) (by omega)) hm.1 ca_X10 rfl rfl (Nat.le_of_ble_eq_true rfl) (by decide) (by decide) dX10_readsR_127 ?_
            refine r_ifeqB (pc := 130) (tgt := 145) C dX10_readsR_130 rfl (fun c_130 => ?_) (fun c_130 => ?_)
            · skip
              refine r_iconst (pc := 145) (v := 0) C dX10_readsR_145 rfl ?_
              exact r_zret (pc := 146) C rfl dX10_readsR_146 (PA_PC (nm := nm) (cm_6 h0 c_6 c_104 c_113 c_122) rfl (PA_no c_130)) (by decide)
            · skip
              have l_130 : _ ≤ L := rdN_le c_130
              refine r_I (psI_ok c_130) ?_
              refine r_aload_n (pc := 133) C 0 dX10_readsR_133 rfl rfl ?_
              refine r_iconst (pc := 134) (v := 1) C dX10_readsR_134 rfl ?_
              refine r_cVi (pc := 135) C hfl k_X10_255 (c_readsNumber hm hI (by omega) (by omega)) hm.1 ca_X10 rfl rfl (Nat.le_of_ble_eq_true rfl) (by decide) (by decide) dX10_readsR_135 ?_
              refine r_ifeqB (pc := 138) (tgt := 145) C dX10_readsR_138 rfl (fun c_138 => ?_) (fun c_138 => ?_)
              · skip
                refine r_iconst (pc := 145) (v := 0) C dX10_readsR_145 rfl ?_
                exact r_zret (pc := 146) C rfl dX10_readsR_146 (PA_PC (nm := nm) (cm_6 h0 c_6 c_104 c_113 c_122) rfl (PA_go c_130 (PA_no c_138))) (by decide)
              · skip
                have l_138 : _ ≤ L := rdN_le c_138
                refine r_I (psI_ok c_138) ?_
                refine r_iconst (pc := 141) (v := 1) C dX10_readsR_141 rfl ?_
                refine r_goto (pc := 142) (tgt := 146) C dX10_readsR_142 rfl ?_
                exact r_zret (pc := 146) C rfl dX10_readsR_146 (PA_PC (nm := nm) (cm_6 h0 c_6 c_104 c_113 c_122) rfl (PA_go c_130 (PA_go c_138 PA_nil))) (by decide)
    · skip
      have l_23 : _ ≤ L := Nat.succ_le_of_lt (And.left c_23)
      refine r_I (psI_pos c_23) ?_
      refine r_aload_n (pc := 26) C 0 dX10_readsR_26 rfl rfl ?_
      refine r_bipush (pc := 27) (v := 101) C dX10_readsR_27 rfl ?_
      refine r_cVi (pc := 29) C hfl k_X10_242 (c_reads hm hI (by omega) (by omega)) hm.1 ca_X10 rfl rfl (Nat.le_of_ble_eq_true rfl) (by decide) (by decide) dX10_readsR_29 ?_
      refine r_ifeqB (pc := 32) (tgt := 90) C dX10_readsR_32 rfl (fun c_32 => ?_) (fun c_32 => ?_)
      · skip
        refine r_I (psI_neg c_32) ?_
        refine r_iconst (pc := 90) (v := 0) C dX10_readsR_90 rfl ?_
        exact r_zret (pc := 91) C rfl dX10_readsR_91 (PC_no (by simp only [vbv, kwL, mtc, List.length_cons, List.length_nil, has, And.left h0, And.left c_6, And.left c_23, And.right h0, And.right c_6, And.right c_23, c_32]; simp) (by rw [show fur c L p 9 0 0 = 3 from by simp only [fur, vbv, kwL, mtc, List.length_cons, List.length_nil, has, And.left h0, And.left c_6, And.left c_23, And.right h0, And.right c_6, And.right c_23, c_32]; simp])) (by decide)
      · skip
        have l_32 : _ ≤ L := Nat.succ_le_of_lt (And.left c_32)
        refine r_I (psI_pos c_32) ?_
        refine r_aload_n (pc := 35) C 0 dX10_readsR_35 rfl rfl ?_
        refine r_bipush (pc := 36) (v := 97) C dX10_readsR_36 rfl ?_
        refine r_cVi (pc := 38) C hfl k_X10_242 (c_reads hm hI (by omega) (by omega)) hm.1 ca_X10 rfl rfl (Nat.le_of_ble_eq_true rfl) (by decide) (by decide) dX10_readsR_38 ?_
        refine r_ifeqB (pc := 41) (tgt := 90) C dX10_readsR_41 rfl (fun c_41 => ?_) (fun c_41 => ?_)
        · skip
          refine r_I (psI_neg c_41) ?_
          refine r_iconst (pc := 90) (v := 0) C dX10_readsR_90 rfl ?_
          exact r_zret (pc := 91) C rfl dX10_readsR_91 (PC_no (by simp only [vbv, kwL, mtc, List.length_cons, List.length_nil, has, And.left h0, And.left c_6, And.left c_23, And.left c_32, And.right h0, And.right c_6, And.right c_23, And.right c_32, c_41]; simp) (by rw [show fur c L p 9 0 0 = 4 from by simp only [fur, vbv, kwL, mtc, List.length_cons, List.length_nil, has, And.left h0, And.left c_6, And.left c_23, And.left c_32, And.right h0, And.right c_6, And.right c_23, And.right c_32, c_41]; simp])) (by decide)
        · skip
          have l_41 : _ ≤ L := Nat.succ_le_of_lt (And.left c_41)
          refine r_I (psI_pos c_41) ?_
          refine r_aload_n (pc := 44) C 0 dX10_readsR_44 rfl rfl ?_
          refine r_bipush (pc := 45) (v := 115) C dX10_readsR_45 rfl ?_
          refine r_cVi (pc := 47) C hfl k_X10_242 (c_reads hm hI (by omega) (by omega)) hm.1 ca_X10 rfl rfl (Nat.le_of_ble_eq_true rfl) (by decide) (by decide) dX10_readsR_47 ?_
          refine r_ifeqB (pc := 50) (tgt := 90) C dX10_readsR_50 rfl (fun c_50 => ?_) (fun c_50 => ?_)
          · skip
            refine r_I (psI_neg c_50) ?_
            refine r_iconst (pc := 90) (v := 0) C dX10_readsR_90 rfl ?_
            exact r_zret (pc := 91) C rfl dX10_readsR_91 (PC_no (by simp only [vbv, kwL, mtc, List.length_cons, List.length_nil, has, And.left h0, And.left c_6, And.left c_23, And.left c_32, And.left c_41, And.right h0, And.right c_6, And.right c_23, And.right c_32, And.right c_41, c_50]; simp) (by rw [show fur c L p 9 0 0 = 5 from by simp only [fur, vbv, kwL, mtc, List.length_cons, List.length_nil, has, And.left h0, And.left c_6, And.left c_23, And.left c_32, And.left c_41, And.right h0, And.right c_6, And.right c_23, And.right c_32, And.right c_41, c_50]; simp])) (by decide)
          · skip
            have l_50 : _ ≤ L := Nat.succ_le_of_lt (And.left c_50)
            refine r_I (psI_pos c_50) ?_
            refine r_aload_n (pc := 53) C 0 dX10_readsR_53 rfl rfl ?_
            refine r_bipush (pc := 54) (v := 101) C dX10_readsR_54 rfl ?_
            refine r_cVi (pc := 56) C hfl k_X10_242 (c_reads hm hI (by omega) (by omega)) hm.1 ca_X10 rfl rfl (Nat.le_of_ble_eq_true rfl) (by decide) (by decide) dX10_readsR_56 ?_
            refine r_ifeqB (pc := 59) (tgt := 90) C dX10_readsR_59 rfl (fun c_59 => ?_) (fun c_59 => ?_)
            · skip
              refine r_I (psI_neg c_59) ?_
              refine r_iconst (pc := 90) (v := 0) C dX10_readsR_90 rfl ?_
              exact r_zret (pc := 91) C rfl dX10_readsR_91 (PC_no (by simp only [vbv, kwL, mtc, List.length_cons, List.length_nil, has, And.left h0, And.left c_6, And.left c_23, And.left c_32, And.left c_41, And.left c_50, And.right h0, And.right c_6, And.right c_23, And.right c_32, And.right c_41, And.right c_50, c_59]; simp) (by rw [show fur c L p 9 0 0 = 6 from by simp only [fur, vbv, kwL, mtc, List.length_cons, List.length_nil, has, And.left h0, And.left c_6, And.left c_23, And.left c_32, And.left c_41, And.left c_50, And.right h0, And.right c_6, And.right c_23, And.right c_32, And.right c_41, And.right c_50, c_59]; simp])) (by decide)
            · skip
              have l_59 : _ ≤ L := Nat.succ_le_of_lt (And.left c_59)
              refine r_I (psI_pos c_59) ?_
              refine r_aload_n (pc := 62) C 0 dX10_readsR_62 rfl rfl ?_
              refine r_iconst (pc := 63) (v := 0) C dX10_readsR_63 rfl ?_
              refine r_cVi (pc := 64) C hfl k_X10_255 (c_readsNumber hm hI (by omega) (by omega)) hm.1 ca_X10 rfl rfl (Nat.le_of_ble_eq_true rfl) (by decide) (by decide) dX10_readsR_64 ?_
              refine r_ifeqB (pc := 67) (tgt := 90) C dX10_readsR_67 rfl (fun c_67 => ?_) (fun c_67 => ?_)
              · skip
                refine r_iconst (pc := 90) (v := 0) C dX10_readsR_90 rfl ?_
                exact r_zret (pc := 91) C rfl dX10_readsR_91 (PA_PC (nm := nm) (cm_5 h0 c_6 c_23 c_32 c_41 c_50 c_59) rfl (PA_no c_67)) (by decide)
              · skip
                have l_67 : _ ≤ L := rdN_le c_67
                refine r_I (psI_ok c_67) ?_
                refine r_aload_n (pc := 70) C 0 dX10_readsR_70 rfl rfl ?_
                refine r_iconst (pc := 71) (v := 1) C dX10_readsR_71 rfl ?_
                refine r_cVi (pc := 72) C hfl k_X10_249 (c_readsDigit hm hI (by omega) (by omega)) hm.1 ca_X10 rfl rfl (Nat.le_of_ble_eq_true rfl) (by decide) (by decide) dX10_readsR_72 ?_
                refine r_ifeqB (pc := 75) (tgt := 90) C dX10_readsR_75 rfl (fun c_75 => ?_) (fun c_75 => ?_)
                · skip
                  refine r_iconst (pc := 90) (v := 0) C dX10_readsR_90 rfl ?_
                  exact r_zret (pc := 91) C rfl dX10_readsR_91 (PA_PC (nm := nm) (cm_5 h0 c_6 c_23 c_32 c_41 c_50 c_59) rfl (PA_go c_67 (PA_no c_75))) (by decide)
                · skip
                  have l_75 : _ ≤ L := rdD_le c_75
                  refine r_I (psI_ok c_75) ?_
                  refine r_aload_n (pc := 78) C 0 dX10_readsR_78 rfl rfl ?_
                  refine r_iconst (pc := 79) (v := 2) C dX10_readsR_79 rfl ?_
                  refine r_cVi (pc := 80) C hfl k_X10_255 (c_readsNumber hm hI (by omega) (by omega)) hm.1 ca_X10 rfl rfl (Nat.le_of_ble_eq_true rfl) (by decide) (by decide) dX10_readsR_80 ?_
                  refine r_ifeqB (pc := 83) (tgt := 90) C dX10_readsR_83 rfl (fun c_83 => ?_) (fun c_83 => ?_)
                  · skip
                    refine r_iconst (pc := 90) (v := 0) C dX10_readsR_90 rfl ?_
                    exact r_zret (pc := 91) C rfl dX10_readsR_91 (PA_PC (nm := nm) (cm_5 h0 c_6 c_23 c_32 c_41 c_50 c_59) rfl (PA_go c_67 (PA_go c_75 (PA_no c_83)))) (by decide)
                  · skip
                    have l_83 : _ ≤ L := rdN_le c_83
                    refine r_I (psI_ok c_83) ?_
                    refine r_iconst (pc := 86) (v := 1) C dX10_readsR_86 rfl ?_
                    refine r_goto (pc := 87) (tgt := 91) C dX10_readsR_87 rfl ?_
                    exact r_zret (pc := 91) C rfl dX10_readsR_91 (PA_PC (nm := nm) (cm_5 h0 c_6 c_23 c_32 c_41 c_50 c_59) rfl (PA_go c_67 (PA_go c_75 (PA_go c_83 PA_nil)))) (by decide)
  · skip
    refine r_I (psI_neg c_6) ?_
    refine r_iconst (pc := 9) (v := 0) C dX10_readsR_9 rfl ?_
    exact r_zret (pc := 10) C rfl dX10_readsR_10 (PC_no (by simp only [vbv, kwL, mtc, List.length_cons, List.length_nil, has, And.left h0, And.right h0, c_6]; simp) (by rw [show fur c L p 9 0 0 = 1 from by simp only [fur, vbv, kwL, mtc, List.length_cons, List.length_nil, has, And.left h0, And.right h0, c_6]; simp])) (by decide)

set_option maxHeartbeats 1000000 in
theorem c_readsLend {g : GG} {X : va_W} {T : TT} {I : II} {M : Nat} (hm : isMd T M) {c : Nat → Nat} {L : Nat} (hI : Inp I M L c) {p : Nat} {s : Int32} {nm : Nat → Int32} (hp : p ≤ L) (h0 : has c L p 108) : Mc g yX10_readsLend cX10_readsLend 1 (some .boolean) 5 0 0 [.ref M] X T (psI I M (p + 1) (nI 108) nm) (PC I M X T c L p) := by
  have hL := hI.2.1
  have hp1 := And.left h0
  
  refine Mc.of (by decide) (Nat.le_of_ble_eq_true rfl) (fun k hfl C => ?_)
  refine r_lo (lo' := [(0, _)]) rfl ?_
  refine r_aload_n (pc := 0) C 0 dX10_readsLend_0 rfl rfl ?_
  refine r_bipush (pc := 1) (v := 101) C dX10_readsLend_1 rfl ?_
  refine r_cVi (pc := 3) C hfl k_X10_242 (c_reads hm hI (by omega) (by omega)) hm.1 ca_X10 rfl rfl (Nat.le_of_ble_eq_true rfl) (by decide) (by decide) dX10_readsLend_3 ?_
  refine r_ifeqB (pc := 6) (tgt := 27) C dX10_readsLend_6 rfl (fun c_6 => ?_) (fun c_6 => ?_)
  · skip
    refine r_I (psI_neg c_6) ?_
    refine r_iconst (pc := 27) (v := 0) C dX10_readsLend_27 rfl ?_
    exact r_zret (pc := 28) C rfl dX10_readsLend_28 (PC_no (by simp only [vbv, kwL, mtc, List.length_cons, List.length_nil, has, And.left h0, And.right h0, c_6]; simp) (by rw [show fur c L p 9 0 0 = 1 from by simp only [fur, vbv, kwL, mtc, List.length_cons, List.length_nil, has, And.left h0, And.right h0, c_6]; simp])) (by decide)
  · skip
    have l_6 : _ ≤ L := Nat.succ_le_of_lt (And.left c_6)
    refine r_I (psI_pos c_6) ?_
    refine r_aload_n (pc := 9) C 0 dX10_readsLend_9 rfl rfl ?_
    refine r_bipush (pc := 10) (v := 110) C dX10_readsLend_10 rfl ?_
    refine r_cVi (pc := 12) C hfl k_X10_242 (c_reads hm hI (by omega) (by omega)) hm.1 ca_X10 rfl rfl (Nat.le_of_ble_eq_true rfl) (by decide) (by decide) dX10_readsLend_12 ?_
    refine r_ifeqB (pc := 15) (tgt := 27) C dX10_readsLend_15 rfl (fun c_15 => ?_) (fun c_15 => ?_)
    · skip
      refine r_I (psI_neg c_15) ?_
      refine r_iconst (pc := 27) (v := 0) C dX10_readsLend_27 rfl ?_
      exact r_zret (pc := 28) C rfl dX10_readsLend_28 (PC_no (by simp only [vbv, kwL, mtc, List.length_cons, List.length_nil, has, And.left h0, And.left c_6, And.right h0, And.right c_6, c_15]; simp) (by rw [show fur c L p 9 0 0 = 2 from by simp only [fur, vbv, kwL, mtc, List.length_cons, List.length_nil, has, And.left h0, And.left c_6, And.right h0, And.right c_6, c_15]; simp])) (by decide)
    · skip
      have l_15 : _ ≤ L := Nat.succ_le_of_lt (And.left c_15)
      refine r_I (psI_pos c_15) ?_
      refine r_aload_n (pc := 18) C 0 dX10_readsLend_18 rfl rfl ?_
      refine r_bipush (pc := 19) (v := 100) C dX10_readsLend_19 rfl ?_
      refine r_cVi (pc := 21) C hfl k_X10_242 (c_reads hm hI (by omega) (by omega)) hm.1 ca_X10 rfl rfl (Nat.le_of_ble_eq_true rfl) (by decide) (by decide) dX10_readsLend_21 ?_
      refine r_ifneB (pc := 24) (tgt := 29) C dX10_readsLend_24 rfl (fun c_24 => ?_) (fun c_24 => ?_)
      · skip
        have l_24 : _ ≤ L := Nat.succ_le_of_lt (And.left c_24)
        refine r_I (psI_pos c_24) ?_
        refine r_aload_n (pc := 29) C 0 dX10_readsLend_29 rfl rfl ?_
        refine r_iconst (pc := 30) (v := 0) C dX10_readsLend_30 rfl ?_
        refine r_cVi (pc := 31) C hfl k_X10_249 (c_readsDigit hm hI (by omega) (by omega)) hm.1 ca_X10 rfl rfl (Nat.le_of_ble_eq_true rfl) (by decide) (by decide) dX10_readsLend_31 ?_
        refine r_ifeqB (pc := 34) (tgt := 73) C dX10_readsLend_34 rfl (fun c_34 => ?_) (fun c_34 => ?_)
        · skip
          refine r_iconst (pc := 73) (v := 0) C dX10_readsLend_73 rfl ?_
          exact r_zret (pc := 74) C rfl dX10_readsLend_74 (PA_PC (nm := nm) (cm_3 h0 c_6 c_15 c_24) rfl (PA_no c_34)) (by decide)
        · skip
          have l_34 : _ ≤ L := rdD_le c_34
          refine r_I (psI_ok c_34) ?_
          refine r_aload_n (pc := 37) C 0 dX10_readsLend_37 rfl rfl ?_
          refine r_iconst (pc := 38) (v := 1) C dX10_readsLend_38 rfl ?_
          refine r_cVi (pc := 39) C hfl k_X10_249 (c_readsDigit hm hI (by omega) (by omega)) hm.1 ca_X10 rfl rfl (Nat.le_of_ble_eq_true rfl) (by decide) (by decide) dX10_readsLend_39 ?_
          refine r_ifeqB (pc := 42) (tgt := 73) C dX10_readsLend_42 rfl (fun c_42 => ?_) (fun c_42 => ?_)
          · skip
            refine r_iconst (pc := 73) (v := 0) C dX10_readsLend_73 rfl ?_
            exact r_zret (pc := 74) C rfl dX10_readsLend_74 (PA_PC (nm := nm) (cm_3 h0 c_6 c_15 c_24) rfl (PA_go c_34 (PA_no c_42))) (by decide)
          · skip
            have l_42 : _ ≤ L := rdD_le c_42
            refine r_I (psI_ok c_42) ?_
            refine r_aload_n (pc := 45) C 0 dX10_readsLend_45 rfl rfl ?_
            refine r_iconst (pc := 46) (v := 2) C dX10_readsLend_46 rfl ?_
            refine r_cVi (pc := 47) C hfl k_X10_255 (c_readsNumber hm hI (by omega) (by omega)) hm.1 ca_X10 rfl rfl (Nat.le_of_ble_eq_true rfl) (by decide) (by decide) dX10_readsLend_47 ?_
            refine r_ifeqB (pc := 50) (tgt := 73) C dX10_readsLend_50 rfl (fun c_50 => ?_) (fun c_50 => ?_)
            · skip
              refine r_iconst (pc := 73) (v := 0) C dX10_readsLend_73 rfl ?_
              exact r_zret (pc := 74) C rfl dX10_readsLend_74 (PA_PC (nm := nm) (cm_3 h0 c_6 c_15 c_24) rfl (PA_go c_34 (PA_go c_42 (PA_no c_50)))) (by decide)
            · skip
              have l_50 : _ ≤ L := rdN_le c_50
              refine r_I (psI_ok c_50) ?_
              refine r_aload_n (pc := 53) C 0 dX10_readsLend_53 rfl rfl ?_
              refine r_iconst (pc := 54) (v := 3) C dX10_readsLend_54 rfl ?_
              refine r_cVi (pc := 55) C hfl k_X10_255 (c_readsNumber hm hI (by omega) (by omega)) hm.1 ca_X10 rfl rfl (Nat.le_of_ble_eq_true rfl) (by decide) (by decide) dX10_readsLend_55 ?_
              refine r_ifeqB (pc := 58) (tgt := 73) C dX10_readsLend_58 rfl (fun c_58 => ?_) (fun c_58 => ?_)
              · skip
                refine r_iconst (pc := 73) (v := 0) C dX10_readsLend_73 rfl ?_
                exact r_zret (pc := 74) C rfl dX10_readsLend_74 (PA_PC (nm := nm) (cm_3 h0 c_6 c_15 c_24) rfl (PA_go c_34 (PA_go c_42 (PA_go c_50 (PA_no c_58))))) (by decide)
              · skip
                have l_58 : _ ≤ L := rdN_le c_58
                refine r_I (psI_ok c_58) ?_
                refine r_aload_n (pc := 61) C 0 dX10_readsLend_61 rfl rfl ?_
                refine r_iconst (pc := 62) (v := 4) C dX10_readsLend_62 rfl ?_
                refine r_cVi (pc := 63) C hfl k_X10_255 (c_readsNumber hm hI (by omega) (by omega)) hm.1 ca_X10 rfl rfl (Nat.le_of_ble_eq_true rfl) (by decide) (by decide) dX10_readsLend_63 ?_
                refine r_ifeqB (pc := 66) (tgt := 73) C dX10_readsLend_66 rfl (fun c_66 => ?_) (fun c_66 => ?_)
                · skip
                  refine r_iconst (pc := 73) (v := 0) C dX10_readsLend_73 rfl ?_
                  exact r_zret (pc := 74) C rfl dX10_readsLend_74 (PA_PC (nm := nm) (cm_3 h0 c_6 c_15 c_24) rfl (PA_go c_34 (PA_go c_42 (PA_go c_50 (PA_go c_58 (PA_no c_66)))))) (by decide)
                · skip
                  have l_66 : _ ≤ L := rdN_le c_66
                  refine r_I (psI_ok c_66) ?_
                  refine r_iconst (pc := 69) (v := 1) C dX10_readsLend_69 rfl ?_
                  refine r_goto (pc := 70) (tgt := 74) C dX10_readsLend_70 rfl ?_
                  exact r_zret (pc := 74) C rfl dX10_readsLend_74 (PA_PC (nm := nm) (cm_3 h0 c_6 c_15 c_24) rfl (PA_go c_34 (PA_go c_42 (PA_go c_50 (PA_go c_58 (PA_go c_66 PA_nil)))))) (by decide)
      · skip
        refine r_I (psI_neg c_24) ?_
        refine r_iconst (pc := 27) (v := 0) C dX10_readsLend_27 rfl ?_
        exact r_zret (pc := 28) C rfl dX10_readsLend_28 (PC_no (by simp only [vbv, kwL, mtc, List.length_cons, List.length_nil, has, And.left h0, And.left c_6, And.left c_15, And.right h0, And.right c_6, And.right c_15, c_24]; simp) (by rw [show fur c L p 9 0 0 = 3 from by simp only [fur, vbv, kwL, mtc, List.length_cons, List.length_nil, has, And.left h0, And.left c_6, And.left c_15, And.right h0, And.right c_6, And.right c_15, c_24]; simp])) (by decide)

set_option maxHeartbeats 1000000 in
theorem c_readsCommand {g : GG} {X : va_W} {T : TT} {I : II} {M : Nat} (hm : isMd T M) {c : Nat → Nat} {L : Nat} (hI : Inp I M L c) {p : Nat} {s : Int32} {nm : Nat → Int32} (hp : p ≤ L)  : Mc g yX10_readsCommand cX10_readsCommand 1 (some .boolean) 6 0 0 [.ref M] X T (psI I M p s nm) (PC I M X T c L p) := by
  have hL := hI.2.1
  
  refine Mc.of (by decide) (Nat.le_of_ble_eq_true rfl) (fun k hfl C => ?_)
  refine r_lo (lo' := [(0, _)]) rfl ?_
  refine r_aload_n (pc := 0) C 0 dX10_readsCommand_0 rfl rfl ?_
  refine r_aload_n (pc := 1) C 0 dX10_readsCommand_1 rfl rfl ?_
  refine r_cVi (pc := 2) C hfl k_X10_239 (c_nextChar hm hI (by omega)) hm.1 ca_X10 rfl rfl (Nat.le_of_ble_eq_true rfl) (by decide) (by decide) dX10_readsCommand_2 ?_
  refine r_putI (pc := 5) C f_X10_252 hm.1 rfl rfl rfl dX10_readsCommand_5 ?_
  refine r_I psI_st ?_
  refine r_aload_n (pc := 8) C 0 dX10_readsCommand_8 rfl rfl ?_
  refine r_bipush (pc := 9) (v := 98) C dX10_readsCommand_9 rfl ?_
  refine r_cVi (pc := 11) C hfl k_X10_242 (c_reads hm hI (by omega) (by omega)) hm.1 ca_X10 rfl rfl (Nat.le_of_ble_eq_true rfl) (by decide) (by decide) dX10_readsCommand_11 ?_
  refine r_ifeqB (pc := 14) (tgt := 22) C dX10_readsCommand_14 rfl (fun c_14 => ?_) (fun c_14 => ?_)
  · skip
    refine r_I (psI_neg c_14) ?_
    refine r_aload_n (pc := 22) C 0 dX10_readsCommand_22 rfl rfl ?_
    refine r_bipush (pc := 23) (v := 112) C dX10_readsCommand_23 rfl ?_
    refine r_cVi (pc := 25) C hfl k_X10_242 (c_reads hm hI (by omega) (by omega)) hm.1 ca_X10 rfl rfl (Nat.le_of_ble_eq_true rfl) (by decide) (by decide) dX10_readsCommand_25 ?_
    refine r_ifeqB (pc := 28) (tgt := 36) C dX10_readsCommand_28 rfl (fun c_28 => ?_) (fun c_28 => ?_)
    · skip
      refine r_I (psI_neg c_28) ?_
      refine r_aload_n (pc := 36) C 0 dX10_readsCommand_36 rfl rfl ?_
      refine r_bipush (pc := 37) (v := 114) C dX10_readsCommand_37 rfl ?_
      refine r_cVi (pc := 39) C hfl k_X10_242 (c_reads hm hI (by omega) (by omega)) hm.1 ca_X10 rfl rfl (Nat.le_of_ble_eq_true rfl) (by decide) (by decide) dX10_readsCommand_39 ?_
      refine r_ifeqB (pc := 42) (tgt := 50) C dX10_readsCommand_42 rfl (fun c_42 => ?_) (fun c_42 => ?_)
      · skip
        refine r_I (psI_neg c_42) ?_
        refine r_aload_n (pc := 50) C 0 dX10_readsCommand_50 rfl rfl ?_
        refine r_bipush (pc := 51) (v := 108) C dX10_readsCommand_51 rfl ?_
        refine r_cVi (pc := 53) C hfl k_X10_242 (c_reads hm hI (by omega) (by omega)) hm.1 ca_X10 rfl rfl (Nat.le_of_ble_eq_true rfl) (by decide) (by decide) dX10_readsCommand_53 ?_
        refine r_ifeqB (pc := 56) (tgt := 64) C dX10_readsCommand_56 rfl (fun c_56 => ?_) (fun c_56 => ?_)
        · skip
          refine r_I (psI_neg c_56) ?_
          refine r_aload_n (pc := 64) C 0 dX10_readsCommand_64 rfl rfl ?_
          refine r_bipush (pc := 65) (v := 100) C dX10_readsCommand_65 rfl ?_
          refine r_cVi (pc := 67) C hfl k_X10_242 (c_reads hm hI (by omega) (by omega)) hm.1 ca_X10 rfl rfl (Nat.le_of_ble_eq_true rfl) (by decide) (by decide) dX10_readsCommand_67 ?_
          refine r_ifeqB (pc := 70) (tgt := 112) C dX10_readsCommand_70 rfl (fun c_70 => ?_) (fun c_70 => ?_)
          · skip
            refine r_I (psI_neg c_70) ?_
            refine r_iconst (pc := 112) (v := 0) C dX10_readsCommand_112 rfl ?_
            exact r_zret (pc := 113) C rfl dX10_readsCommand_113 (PC_no (by simp only [vbv, kwL, mtc, List.length_cons, List.length_nil, has, c_14, c_28, c_42, c_56, c_70]; simp) (by rw [show fur c L p 9 0 0 = 0 from by simp only [fur, vbv, kwL, mtc, List.length_cons, List.length_nil, has, c_14, c_28, c_42, c_56, c_70]; simp]; rfl)) (by decide)
          · skip
            have l_70 : _ ≤ L := Nat.succ_le_of_lt (And.left c_70)
            refine r_I (psI_pos c_70) ?_
            refine r_I (I' := (psI I M (p + 1) (nI 100) nm)) (by rw [(chV_has hI.2.2.2 (by decide)).mpr c_70]) ?_
            refine r_aload_n (pc := 73) C 0 dX10_readsCommand_73 rfl rfl ?_
            refine r_bipush (pc := 74) (v := 97) C dX10_readsCommand_74 rfl ?_
            refine r_cVi (pc := 76) C hfl k_X10_242 (c_reads hm hI (by omega) (by omega)) hm.1 ca_X10 rfl rfl (Nat.le_of_ble_eq_true rfl) (by decide) (by decide) dX10_readsCommand_76 ?_
            refine r_ifeqB (pc := 79) (tgt := 112) C dX10_readsCommand_79 rfl (fun c_79 => ?_) (fun c_79 => ?_)
            · skip
              refine r_I (psI_neg c_79) ?_
              refine r_iconst (pc := 112) (v := 0) C dX10_readsCommand_112 rfl ?_
              exact r_zret (pc := 113) C rfl dX10_readsCommand_113 (PC_no (by simp only [vbv, kwL, mtc, List.length_cons, List.length_nil, has, And.left c_70, And.right c_70, c_14, c_28, c_42, c_56, c_79]; simp) (by rw [show fur c L p 9 0 0 = 1 from by simp only [fur, vbv, kwL, mtc, List.length_cons, List.length_nil, has, And.left c_70, And.right c_70, c_14, c_28, c_42, c_56, c_79]; simp])) (by decide)
            · skip
              have l_79 : _ ≤ L := Nat.succ_le_of_lt (And.left c_79)
              refine r_I (psI_pos c_79) ?_
              refine r_aload_n (pc := 82) C 0 dX10_readsCommand_82 rfl rfl ?_
              refine r_bipush (pc := 83) (v := 121) C dX10_readsCommand_83 rfl ?_
              refine r_cVi (pc := 85) C hfl k_X10_242 (c_reads hm hI (by omega) (by omega)) hm.1 ca_X10 rfl rfl (Nat.le_of_ble_eq_true rfl) (by decide) (by decide) dX10_readsCommand_85 ?_
              refine r_ifeqB (pc := 88) (tgt := 112) C dX10_readsCommand_88 rfl (fun c_88 => ?_) (fun c_88 => ?_)
              · skip
                refine r_I (psI_neg c_88) ?_
                refine r_iconst (pc := 112) (v := 0) C dX10_readsCommand_112 rfl ?_
                exact r_zret (pc := 113) C rfl dX10_readsCommand_113 (PC_no (by simp only [vbv, kwL, mtc, List.length_cons, List.length_nil, has, And.left c_70, And.left c_79, And.right c_70, And.right c_79, c_14, c_28, c_42, c_56, c_88]; simp) (by rw [show fur c L p 9 0 0 = 2 from by simp only [fur, vbv, kwL, mtc, List.length_cons, List.length_nil, has, And.left c_70, And.left c_79, And.right c_70, And.right c_79, c_14, c_28, c_42, c_56, c_88]; simp])) (by decide)
              · skip
                have l_88 : _ ≤ L := Nat.succ_le_of_lt (And.left c_88)
                refine r_I (psI_pos c_88) ?_
                refine r_aload_n (pc := 91) C 0 dX10_readsCommand_91 rfl rfl ?_
                refine r_bipush (pc := 92) (v := 115) C dX10_readsCommand_92 rfl ?_
                refine r_cVi (pc := 94) C hfl k_X10_242 (c_reads hm hI (by omega) (by omega)) hm.1 ca_X10 rfl rfl (Nat.le_of_ble_eq_true rfl) (by decide) (by decide) dX10_readsCommand_94 ?_
                refine r_ifeqB (pc := 97) (tgt := 112) C dX10_readsCommand_97 rfl (fun c_97 => ?_) (fun c_97 => ?_)
                · skip
                  refine r_I (psI_neg c_97) ?_
                  refine r_iconst (pc := 112) (v := 0) C dX10_readsCommand_112 rfl ?_
                  exact r_zret (pc := 113) C rfl dX10_readsCommand_113 (PC_no (by simp only [vbv, kwL, mtc, List.length_cons, List.length_nil, has, And.left c_70, And.left c_79, And.left c_88, And.right c_70, And.right c_79, And.right c_88, c_14, c_28, c_42, c_56, c_97]; simp) (by rw [show fur c L p 9 0 0 = 3 from by simp only [fur, vbv, kwL, mtc, List.length_cons, List.length_nil, has, And.left c_70, And.left c_79, And.left c_88, And.right c_70, And.right c_79, And.right c_88, c_14, c_28, c_42, c_56, c_97]; simp])) (by decide)
                · skip
                  have l_97 : _ ≤ L := Nat.succ_le_of_lt (And.left c_97)
                  refine r_I (psI_pos c_97) ?_
                  refine r_aload_n (pc := 100) C 0 dX10_readsCommand_100 rfl rfl ?_
                  refine r_iconst (pc := 101) (v := 0) C dX10_readsCommand_101 rfl ?_
                  refine r_cVi (pc := 102) C hfl k_X10_255 (c_readsNumber hm hI (by omega) (by omega)) hm.1 ca_X10 rfl rfl (Nat.le_of_ble_eq_true rfl) (by decide) (by decide) dX10_readsCommand_102 ?_
                  refine r_ifeqB (pc := 105) (tgt := 112) C dX10_readsCommand_105 rfl (fun c_105 => ?_) (fun c_105 => ?_)
                  · skip
                    refine r_iconst (pc := 112) (v := 0) C dX10_readsCommand_112 rfl ?_
                    exact r_zret (pc := 113) C rfl dX10_readsCommand_113 (PA_PC (nm := nm) (cm_8 c_70 c_79 c_88 c_97) rfl (PA_no c_105)) (by decide)
                  · skip
                    have l_105 : _ ≤ L := rdN_le c_105
                    refine r_I (psI_ok c_105) ?_
                    refine r_iconst (pc := 108) (v := 1) C dX10_readsCommand_108 rfl ?_
                    refine r_goto (pc := 109) (tgt := 113) C dX10_readsCommand_109 rfl ?_
                    exact r_zret (pc := 113) C rfl dX10_readsCommand_113 (PA_PC (nm := nm) (cm_8 c_70 c_79 c_88 c_97) rfl (PA_go c_105 PA_nil)) (by decide)
        · skip
          have l_56 : _ ≤ L := Nat.succ_le_of_lt (And.left c_56)
          refine r_I (psI_pos c_56) ?_
          refine r_I (I' := (psI I M (p + 1) (nI 108) nm)) (by rw [(chV_has hI.2.2.2 (by decide)).mpr c_56]) ?_
          refine r_aload_n (pc := 59) C 0 dX10_readsCommand_59 rfl rfl ?_
          refine r_callV (pc := 60) C hfl k_X10_267 (c_readsLend (s := nI 0) hm hI hp c_56) hm.1 ca_X10 rfl rfl (Nat.le_of_ble_eq_true rfl) (by decide) (by decide) dX10_readsCommand_60 (fun r2 X2 T2 I2 h2 => ?_)
          obtain ⟨rfl, rfl, rfl, s2, n2, rfl, h2⟩ := h2
          refine r_st (st' := [.int _]) rfl ?_
          exact r_zret (pc := 63) C bI_n dX10_readsCommand_63 ⟨rfl, rfl, rfl, s2, n2, rfl, h2⟩ (by decide)
      · skip
        have l_42 : _ ≤ L := Nat.succ_le_of_lt (And.left c_42)
        refine r_I (psI_pos c_42) ?_
        refine r_aload_n (pc := 45) C 0 dX10_readsCommand_45 rfl rfl ?_
        refine r_callV (pc := 46) C hfl k_X10_264 (c_readsR hm hI hp c_42) hm.1 ca_X10 rfl rfl (Nat.le_of_ble_eq_true rfl) (by decide) (by decide) dX10_readsCommand_46 (fun r2 X2 T2 I2 h2 => ?_)
        obtain ⟨rfl, rfl, rfl, s2, n2, rfl, h2⟩ := h2
        refine r_st (st' := [.int _]) rfl ?_
        exact r_zret (pc := 49) C bI_n dX10_readsCommand_49 ⟨rfl, rfl, rfl, s2, n2, rfl, h2⟩ (by decide)
    · skip
      have l_28 : _ ≤ L := Nat.succ_le_of_lt (And.left c_28)
      refine r_I (psI_pos c_28) ?_
      refine r_I (I' := (psI I M (p + 1) (nI 112) nm)) (by rw [(chV_has hI.2.2.2 (by decide)).mpr c_28]) ?_
      refine r_aload_n (pc := 31) C 0 dX10_readsCommand_31 rfl rfl ?_
      refine r_callV (pc := 32) C hfl k_X10_261 (c_readsP (s := nI 0) hm hI hp c_28) hm.1 ca_X10 rfl rfl (Nat.le_of_ble_eq_true rfl) (by decide) (by decide) dX10_readsCommand_32 (fun r2 X2 T2 I2 h2 => ?_)
      obtain ⟨rfl, rfl, rfl, s2, n2, rfl, h2⟩ := h2
      refine r_st (st' := [.int _]) rfl ?_
      exact r_zret (pc := 35) C bI_n dX10_readsCommand_35 ⟨rfl, rfl, rfl, s2, n2, rfl, h2⟩ (by decide)
  · skip
    have l_14 : _ ≤ L := Nat.succ_le_of_lt (And.left c_14)
    refine r_I (psI_pos c_14) ?_
    refine r_aload_n (pc := 17) C 0 dX10_readsCommand_17 rfl rfl ?_
    refine r_callV (pc := 18) C hfl k_X10_258 (c_readsB hm hI hp c_14) hm.1 ca_X10 rfl rfl (Nat.le_of_ble_eq_true rfl) (by decide) (by decide) dX10_readsCommand_18 (fun r2 X2 T2 I2 h2 => ?_)
    obtain ⟨rfl, rfl, rfl, s2, n2, rfl, h2⟩ := h2
    refine r_st (st' := [.int _]) rfl ?_
    exact r_zret (pc := 21) C bI_n dX10_readsCommand_21 ⟨rfl, rfl, rfl, s2, n2, rfl, h2⟩ (by decide)
