theorem okN_is {n : Nat} {x : Int32} (hn : n < 2 ^ 31) (h1 : ¬ x < 0) (h2 : x < nI n) : okN n x := by
  have h3 := Int32.le_iff_toInt_le.mp (Int32.not_lt.mp h1)
  have h4 := Int32.lt_iff_toInt_lt.mp h2
  rw [nI_toInt hn] at h4
  rw [Int32.toInt_zero] at h3
  refine ⟨Int32.not_lt.mp h1, ?_⟩
  rw [pk_sub (by omega : 1 ≤ n), Int32.le_iff_toInt_le, nI_toInt (by omega)]
  omega
theorem bsI_lt {w : Nat → Int32} {N : Nat} : ∀ (f q b : Nat), b < N → q + f ≤ N → bsI w f q b < N
  | 0, _, _, h, _ => h
  | f + 1, q, b, h, h2 => by
    rw [bsI]
    split
    · exact bsI_lt f (q + 1) q (by omega) (by omega)
    · exact bsI_lt f (q + 1) b h (by omega)
set_option maxHeartbeats 1000000 in
theorem q_requireKind__v {g : GG} {X : va_W} {T : TT} {I : II} {m : Nat} (m1 : m < 4) : Mx g yX9_requireKind cX9_requireKind 1 none 4 0 0 [.int (nI m)] X T I (Ex none X T I) NoX := by
  refine Mx.of (by decide) (Nat.le_of_ble_eq_true rfl) (fun k hfl hxt C => ?_)
  refine r_lo (lo' := [(0, _)]) rfl ?_
  refine r_iload_n (pc := 0) C 0 dX9_requireKind_0 rfl rfl ?_
  refine r_cSi (pc := 1) C hfl k_X9_444 c_X9_isKind rfl rfl (Nat.le_of_ble_eq_true rfl) (by decide) (by decide) dX9_requireKind_1 ?_
  refine r_ifneB (pc := 4) (tgt := 18) C dX9_requireKind_4 rfl (fun c_4 => ?_) (fun c_4 => False.elim (by exact c_4 (okK_nI m1)))
  refine r_xret ?_
  exact r_vret (pc := 18) C dX9_requireKind_18 ⟨rfl, rfl, rfl, rfl⟩ (by decide)

set_option maxHeartbeats 1000000 in
theorem q_requireKind__x {g : GG} {X : va_W} {T : TT} {I : II} {k_ : Int32} (hk : ¬ okK k_) : Mx g yX9_requireKind cX9_requireKind 1 none 4 1 6 [.int k_] X T I No (Th (exc 2) X T I) := by
  refine Mx.of (by decide) (Nat.le_of_ble_eq_true rfl) (fun k hfl hxt C => ?_)
  refine r_lo (lo' := [(0, _)]) rfl ?_
  refine r_iload_n (pc := 0) C 0 dX9_requireKind_0 rfl rfl ?_
  refine r_cSi (pc := 1) C hfl k_X9_444 c_X9_isKind rfl rfl (Nat.le_of_ble_eq_true rfl) (by decide) (by decide) dX9_requireKind_1 ?_
  refine r_ifneB (pc := 4) (tgt := 18) C dX9_requireKind_4 rfl (fun c_4 => False.elim (by exact hk c_4)) (fun c_4 => ?_)
  exact r_thrW (pc := 7) (tx := "no such kind") (sa := 748) C hfl hxt ex_129 (by decide) (Nat.le_of_ble_eq_true rfl) (by decide) dX9_requireKind_7 dX9_requireKind_10 dX9_requireKind_11 dX9_requireKind_14 dX9_requireKind_17 ⟨rfl, rfl, rfl, rfl⟩

set_option maxHeartbeats 1000000 in
theorem q_requireBorrower__v {g : GG} {X : va_W} {T : TT} {I : II} {x : Nat} (hcl : isCl T x) {w : Nat → Int32} {B N E : Nat} {pm : Nat → Nat} (hV : DV I (x + 1) w B N E pm) (hB : w 1 = nI B) {n : Nat} (n1 : n < B) : Mx g yX9_requireBorrower cX9_requireBorrower 3 (some (.object "LendingDesk$Borrower")) 4 0 0 [.ref x, .int (nI n)] X T I (Ex (some (.ref (x + 1 + 10 + 2 * n))) X T I) NoX := by
  have hd := hcl.2.1
  have hB6 := hV.hB
  have hN10 := hV.hN
  have hE20 := hV.hE
  refine Mx.of (by decide) (Nat.le_of_ble_eq_true rfl) (fun k hfl hxt C => ?_)
  refine r_lo (lo' := [(0, _), (1, _)]) rfl ?_
  refine r_aload_n (pc := 0) C 0 dX9_requireBorrower_0 rfl rfl ?_
  refine r_getR (pc := 1) (x := x + 1) C f_X9_10 hcl.1 rfl rfl dX9_requireBorrower_1 ?_
  refine r_iload_n (pc := 4) C 1 dX9_requireBorrower_4 rfl rfl ?_
  refine r_cVr (pc := 5) C hfl k_X9_450 (c_X3_borrowerAt__v hd hV hB n1) ((Dk_0 hd)) ca_X3 rfl rfl (Nat.le_of_ble_eq_true rfl) (by decide) (by decide) dX9_requireBorrower_5 ?_
  refine r_astore_n (pc := 8) (lo' := [(2, _), (0, _), (1, _)]) C dX9_requireBorrower_8 rfl (by decide) rfl ?_
  refine r_aload_n (pc := 9) C 0 dX9_requireBorrower_9 rfl rfl ?_
  refine r_ifnnR (pc := 10) (tgt := 24) C dX9_requireBorrower_10 rfl ?_
  refine r_aload_n (pc := 24) C 0 dX9_requireBorrower_24 rfl rfl ?_
  refine r_xret ?_
  exact r_aret (pc := 25) C (Or.inl ⟨_, rfl⟩) (Or.inr ⟨_, rfl⟩) dX9_requireBorrower_25 ⟨rfl, rfl, rfl, rfl⟩ (by decide)

set_option maxHeartbeats 1000000 in
theorem q_requireBorrower__x {g : GG} {X : va_W} {T : TT} {I : II} {x : Nat} (hcl : isCl T x) {w : Nat → Int32} {B N E : Nat} {pm : Nat → Nat} (hV : DV I (x + 1) w B N E pm) (hB : w 1 = nI B) {n_ : Int32} (hx : ¬ okB B n_) : Mx g yX9_requireBorrower cX9_requireBorrower 3 (some (.object "LendingDesk$Borrower")) 4 1 6 [.ref x, .int n_] X T I No (Th (exc 2) X T I) := by
  have hd := hcl.2.1
  have hB6 := hV.hB
  have hN10 := hV.hN
  have hE20 := hV.hE
  refine Mx.of (by decide) (Nat.le_of_ble_eq_true rfl) (fun k hfl hxt C => ?_)
  refine r_lo (lo' := [(0, _), (1, _)]) rfl ?_
  refine r_aload_n (pc := 0) C 0 dX9_requireBorrower_0 rfl rfl ?_
  refine r_getR (pc := 1) (x := x + 1) C f_X9_10 hcl.1 rfl rfl dX9_requireBorrower_1 ?_
  refine r_iload_n (pc := 4) C 1 dX9_requireBorrower_4 rfl rfl ?_
  refine r_cVr (pc := 5) C hfl k_X9_450 (c_X3_borrowerAt__x hd hV hB hx) ((Dk_0 hd)) ca_X3 rfl rfl (Nat.le_of_ble_eq_true rfl) (by decide) (by decide) dX9_requireBorrower_5 ?_
  refine r_astore_nN (pc := 8) (lo' := [(2, _), (0, _), (1, _)]) C dX9_requireBorrower_8 rfl (by decide) rfl ?_
  refine r_aload_nN (pc := 9) C 0 dX9_requireBorrower_9 rfl rfl ?_
  refine r_ifnnN (pc := 10) C dX9_requireBorrower_10 ?_
  exact r_thrW (pc := 13) (tx := "no such borrower") (sa := 753) C hfl hxt ex_129 (by decide) (Nat.le_of_ble_eq_true rfl) (by decide) dX9_requireBorrower_13 dX9_requireBorrower_16 dX9_requireBorrower_17 dX9_requireBorrower_20 dX9_requireBorrower_23 ⟨rfl, rfl, rfl, rfl⟩

set_option maxHeartbeats 1000000 in
theorem q_requireLoan__s {g : GG} {X : va_W} {T : TT} {I : II} {x : Nat} (hcl : isCl T x) {w : Nat → Int32} {B N E : Nat} {pm : Nat → Nat} (hV : DV I (x + 1) w B N E pm) (hN : w 2 = nI N) {id : Int32} {s : Nat} (hs : s < N) (hr : atS w N id (nI s)) : Mx g yX9_requireLoan cX9_requireLoan 3 (some (.object "LendingDesk$Loan")) 4 0 0 [.ref x, .int id] X T I (Ex (some (.ref (x + 1 + 5 + 17 + 2 * pm s))) X T I) NoX := by
  have hd := hcl.2.1
  have hB6 := hV.hB
  have hN10 := hV.hN
  have hE20 := hV.hE
  refine Mx.of (by decide) (Nat.le_of_ble_eq_true rfl) (fun k hfl hxt C => ?_)
  refine r_lo (lo' := [(0, _), (1, _)]) rfl ?_
  refine r_aload_n (pc := 0) C 0 dX9_requireLoan_0 rfl rfl ?_
  refine r_getR (pc := 1) (x := x + 1) C f_X9_10 hcl.1 rfl rfl dX9_requireLoan_1 ?_
  refine r_iload_n (pc := 4) C 1 dX9_requireLoan_4 rfl rfl ?_
  refine r_cVr (pc := 5) C hfl k_X9_203 (c_X3_loanWithId__s hd hV hN hs hr) ((Dk_0 hd)) ca_X3 rfl rfl (Nat.le_of_ble_eq_true rfl) (by decide) (by decide) dX9_requireLoan_5 ?_
  refine r_astore_n (pc := 8) (lo' := [(2, _), (0, _), (1, _)]) C dX9_requireLoan_8 rfl (by decide) rfl ?_
  refine r_aload_n (pc := 9) C 0 dX9_requireLoan_9 rfl rfl ?_
  refine r_ifnnR (pc := 10) (tgt := 24) C dX9_requireLoan_10 rfl ?_
  refine r_aload_n (pc := 24) C 0 dX9_requireLoan_24 rfl rfl ?_
  refine r_xret ?_
  exact r_aret (pc := 25) C (Or.inl ⟨_, rfl⟩) (Or.inr ⟨_, rfl⟩) dX9_requireLoan_25 ⟨rfl, rfl, rfl, rfl⟩ (by decide)

set_option maxHeartbeats 1000000 in
theorem q_requireLoan__n {g : GG} {X : va_W} {T : TT} {I : II} {x : Nat} (hcl : isCl T x) {w : Nat → Int32} {B N E : Nat} {pm : Nat → Nat} (hV : DV I (x + 1) w B N E pm) (hN : w 2 = nI N) {id : Int32} (hr : atS w N id (-1)) : Mx g yX9_requireLoan cX9_requireLoan 3 (some (.object "LendingDesk$Loan")) 4 1 6 [.ref x, .int id] X T I No (Th (exc 1) X T I) := by
  have hd := hcl.2.1
  have hB6 := hV.hB
  have hN10 := hV.hN
  have hE20 := hV.hE
  refine Mx.of (by decide) (Nat.le_of_ble_eq_true rfl) (fun k hfl hxt C => ?_)
  refine r_lo (lo' := [(0, _), (1, _)]) rfl ?_
  refine r_aload_n (pc := 0) C 0 dX9_requireLoan_0 rfl rfl ?_
  refine r_getR (pc := 1) (x := x + 1) C f_X9_10 hcl.1 rfl rfl dX9_requireLoan_1 ?_
  refine r_iload_n (pc := 4) C 1 dX9_requireLoan_4 rfl rfl ?_
  refine r_cVr (pc := 5) C hfl k_X9_203 (c_X3_loanWithId__n hd hV hN hr) ((Dk_0 hd)) ca_X3 rfl rfl (Nat.le_of_ble_eq_true rfl) (by decide) (by decide) dX9_requireLoan_5 ?_
  refine r_astore_nN (pc := 8) (lo' := [(2, _), (0, _), (1, _)]) C dX9_requireLoan_8 rfl (by decide) rfl ?_
  refine r_aload_nN (pc := 9) C 0 dX9_requireLoan_9 rfl rfl ?_
  refine r_ifnnN (pc := 10) C dX9_requireLoan_10 ?_
  exact r_thrW (pc := 13) (tx := "no loan has this id") (sa := 755) C hfl hxt ex_119 (by decide) (Nat.le_of_ble_eq_true rfl) (by decide) dX9_requireLoan_13 dX9_requireLoan_16 dX9_requireLoan_17 dX9_requireLoan_20 dX9_requireLoan_23 ⟨rfl, rfl, rfl, rfl⟩

set_option maxHeartbeats 1000000 in
theorem q_requireEntry__v {g : GG} {X : va_W} {T : TT} {I : II} {x : Nat} (hcl : isCl T x) {w : Nat → Int32} {B N E : Nat} {pm : Nat → Nat} (hV : DV I (x + 1) w B N E pm) (hE : w 5 = nI E) {e : Nat} (he : e < E) : Mx g yX9_requireEntry cX9_requireEntry 2 none 4 0 0 [.ref x, .int (nI e)] X T I (Ex none X T I) NoX := by
  have hd := hcl.2.1
  have hB6 := hV.hB
  have hN10 := hV.hN
  have hE20 := hV.hE
  refine Mx.of (by decide) (Nat.le_of_ble_eq_true rfl) (fun k hfl hxt C => ?_)
  refine r_lo (lo' := [(0, _), (1, _)]) rfl ?_
  refine r_iload_n (pc := 0) C 1 dX9_requireEntry_0 rfl rfl ?_
  refine r_ifltN (pc := 1) C dX9_requireEntry_1 (by omega) ?_
  refine r_iload_n (pc := 4) C 1 dX9_requireEntry_4 rfl rfl ?_
  refine r_aload_n (pc := 5) C 0 dX9_requireEntry_5 rfl rfl ?_
  refine r_getR (pc := 6) (x := x + 1) C f_X9_10 hcl.1 rfl rfl dX9_requireEntry_6 ?_
  refine r_getR (pc := 9) (x := x + 1 + 6) C f_X9_297 ((Dk_0 hd)) rfl rfl dX9_requireEntry_9 ?_
  refine r_getI (pc := 12) C f_X9_301 ((Dk_6 hd)) rfl dX9_requireEntry_12 ?_
  refine r_t (hV.get at_size) ?_
  refine r_t (y := nI E) hE ?_
  refine r_cltN (pc := 15) (tgt := 29) C dX9_requireEntry_15 rfl (by omega) (by omega) (fun c_15 => ?_) (fun c_15 => False.elim (by omega))
  refine r_xret ?_
  exact r_vret (pc := 29) C dX9_requireEntry_29 ⟨rfl, rfl, rfl, rfl⟩ (by decide)

set_option maxHeartbeats 1000000 in
theorem q_requireEntry__x {g : GG} {X : va_W} {T : TT} {I : II} {x : Nat} (hcl : isCl T x) {w : Nat → Int32} {B N E : Nat} {pm : Nat → Nat} (hV : DV I (x + 1) w B N E pm) (hE : w 5 = nI E) {e_ : Int32} (he : ¬ okN E e_) : Mx g yX9_requireEntry cX9_requireEntry 2 none 4 1 6 [.ref x, .int e_] X T I No (Th (exc 1) X T I) := by
  have hd := hcl.2.1
  have hB6 := hV.hB
  have hN10 := hV.hN
  have hE20 := hV.hE
  refine Mx.of (by decide) (Nat.le_of_ble_eq_true rfl) (fun k hfl hxt C => ?_)
  refine r_lo (lo' := [(0, _), (1, _)]) rfl ?_
  refine r_iload_n (pc := 0) C 1 dX9_requireEntry_0 rfl rfl ?_
  refine r_iflt (pc := 1) (tgt := 18) C dX9_requireEntry_1 rfl (fun c_1 => ?_) (fun c_1 => ?_)
  · skip
    exact r_thrW (pc := 18) (tx := "the ledger has no such position") (sa := 757) C hfl hxt ex_119 (by decide) (Nat.le_of_ble_eq_true rfl) (by decide) dX9_requireEntry_18 dX9_requireEntry_21 dX9_requireEntry_22 dX9_requireEntry_25 dX9_requireEntry_28 ⟨rfl, rfl, rfl, rfl⟩
  · skip
    refine r_iload_n (pc := 4) C 1 dX9_requireEntry_4 rfl rfl ?_
    refine r_aload_n (pc := 5) C 0 dX9_requireEntry_5 rfl rfl ?_
    refine r_getR (pc := 6) (x := x + 1) C f_X9_10 hcl.1 rfl rfl dX9_requireEntry_6 ?_
    refine r_getR (pc := 9) (x := x + 1 + 6) C f_X9_297 ((Dk_0 hd)) rfl rfl dX9_requireEntry_9 ?_
    refine r_getI (pc := 12) C f_X9_301 ((Dk_6 hd)) rfl dX9_requireEntry_12 ?_
    refine r_t (hV.get at_size) ?_
    refine r_t (y := nI E) hE ?_
    refine r_clt (pc := 15) (tgt := 29) C dX9_requireEntry_15 rfl (fun c_15 => False.elim (by exact he (okN_is (by omega) c_1 c_15))) (fun c_15 => ?_)
    exact r_thrW (pc := 18) (tx := "the ledger has no such position") (sa := 757) C hfl hxt ex_119 (by decide) (Nat.le_of_ble_eq_true rfl) (by decide) dX9_requireEntry_18 dX9_requireEntry_21 dX9_requireEntry_22 dX9_requireEntry_25 dX9_requireEntry_28 ⟨rfl, rfl, rfl, rfl⟩
