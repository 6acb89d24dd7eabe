/-! The counts behind a change; the class's nine changes by number. -/
def chB (B i : Nat) : Nat := match i with
  | 0 => B + 1
  | _ => B
def chN (w : Nat → Int32) (B N E i : Nat) (x : Nat → Int32) : Nat := match i with
  | 3 => N + 1
  | 6 => if debtV (rpC w E (slN w N (x 0)) (bN w (slN w N (x 0))) (x 0) (x 1) (reV w N E (x 0) (x 1))) (slN w N (x 0)) = 0 then N - 1 else N
  | 8 => (psV (cl (x 0)) w N 0).2.1
  | _ => N
def chE (w : Nat → Int32) (N E i : Nat) (x : Nat → Int32) : Nat := match i with
  | 6 => enE E (reV w N E (x 0) (x 1))
  | _ => E
theorem gd_6x {w : Nat → Int32} {B N E D U s b c : Nat} {id r : Int32} (h : Gd w B N E D U) (hs : Sd w N) (hsN : s < N) (hb : b < B) (hr : r < 0 ∨ ∃ e, e < 20 ∧ r = nI e) (hc9 : c ≤ 999) (hc : ¬ debtV w s < nI c) : Gd (rpV w N E s b id (nI c) r) B (if debtV (rpC w E s b id (nI c) r) s = 0 then N - 1 else N) (enE E r) D U ∧ Sd (rpV w N E s b id (nI c) r) (if debtV (rpC w E s b id (nI c) r) s = 0 then N - 1 else N) := by
  obtain ⟨g1, g2⟩ := gd_rc (id := id) h hs hsN hb hr hc9 hc
  have hB := h.B.2
  have hN := h.N.2
  unfold rpV
  split
  · have sn : ∀ q, skp s q ≠ s := fun q => by unfold skp; split <;> omega
    obtain ⟨a1, a2⟩ := g1.rm hsN (v' := ad (goV (gbK (rpC w E s b id (nI c) r) s b 4) N s) 6 (nI 1)) (fun q j hq hj => by
      have := sn q
      rw [ad_n (by omega), goV_l hq hj, gbK_n (by omega) (by omega)]) (by rw [ad_n (by omega), goV_2]) (fun j hj => by
      rw [ad_n (by omega), goV_n (by omega) hN hsN (by omega), gbK_n (by omega) (by omega)])
    exact ⟨a1, a2 g2⟩
  · exact ⟨g1, g2⟩
theorem Gd.chx {w : Nat → Int32} {B N E D U i : Nat} {x : Nat → Int32} (h : Gd w B N E D U) (hs : Sd w N) (hc : cdV w B N i x = 0) (hi : i < 9) (hD : D + 60 ≤ 100000) (hU : U + 1 ≤ 10000) : Gd (chR w B N E i x) (chB B i) (chN w B N E i x) (chE w N E i x) (D + 60) (U + 1) ∧ Sd (chR w B N E i x) (chN w B N E i x) := by
  have hB6 := h.B.2
  have hN10 := h.N.2
  have hE20 := h.E.2
  match i, hi, hc with
  | 0, _, hc =>
    obtain ⟨a, b⟩ := gd_0 h hs hc
    exact ⟨a.w (by omega) (by omega) hD hU, b⟩
  | 1, _, hc =>
    obtain ⟨h1, h2, -, -⟩ := fBring_ok hc
    obtain ⟨n, n1, n2⟩ := okB_of hB6 h1
    obtain ⟨m, m1, m2⟩ := okK_of h2
    show Gd (brV w (cl (x 0)) (cl (x 1)) (x 2)) B N E (D + 60) (U + 1) ∧ Sd (brV w (cl (x 0)) (cl (x 1)) (x 2)) N
    rw [n2, m2, cl, cl, nI_clamp (by omega), nI_clamp (by omega)]
    obtain ⟨a, b⟩ := gd_1 (u := x 2) h hs n1 m1
    exact ⟨a.w (by omega) (by omega) hD hU, b⟩
  | 2, _, hc =>
    obtain ⟨h1, h2⟩ := fPrice_ok hc
    obtain ⟨m, m1, m2⟩ := okK_of h1
    obtain ⟨q, q1, q2, q3⟩ := okR_of (by decide) (by decide) h2
    show Gd (upd w (10 + cl (x 0)) (x 1)) B N E (D + 60) (U + 1) ∧ Sd (upd w (10 + cl (x 0)) (x 1)) N
    rw [m2, q3, cl, nI_clamp (by omega)]
    obtain ⟨a, b⟩ := gd_2 h hs m1 ⟨q1, q2⟩
    exact ⟨a.w (by omega) (by omega) hD hU, b⟩
  | 3, _, hc =>
    obtain ⟨h1, h2, h3, h4, h5, h6, -⟩ := fLend_ok hc
    obtain ⟨n, n1, n2⟩ := okB_of hB6 h1
    obtain ⟨m, m1, m2⟩ := okK_of h2
    obtain ⟨u, u1, u2, u3⟩ := okR_of (by decide) (by decide) h3
    obtain ⟨p, p1, p2, p3⟩ := okR_of (by decide) (by decide) h4
    obtain ⟨t, t1, t2, t3⟩ := okR_of (by decide) (by decide) h5
    show Gd (ldV w N (cl (x 0)) (cl (x 1)) (x 2) (x 3) (x 4)) B (N + 1) E (D + 60) (U + 1) ∧ Sd (ldV w N (cl (x 0)) (cl (x 1)) (x 2) (x 3) (x 4)) (N + 1)
    rw [n2, m2, u3, p3, t3, cl, cl, nI_clamp (by omega), nI_clamp (by omega)]
    obtain ⟨a, b⟩ := gd_3 h hs n1 m1 u2 p2 ⟨t1, t2⟩ (by omega) hU
    exact ⟨a.w (by omega) (by omega) hD hU, b⟩
  | 4, _, hc =>
    obtain ⟨h1, h2, h3, -⟩ := fPledge_ok hc
    obtain ⟨s, s1, s2, -⟩ := (atS_or (slV_at w N (x 0))).resolve_right (fun z => h1 (by rw [z]; decide))
    obtain ⟨m, m1, m2⟩ := okK_of h2
    obtain ⟨u, u1, u2, u3⟩ := okR_of (by decide) (by decide) h3
    show Gd (pgV w (cl (slV w N (x 0))) (bN w (cl (slV w N (x 0)))) (cl (x 1)) (x 2)) B N E (D + 60) (U + 1) ∧ Sd (pgV w (cl (slV w N (x 0))) (bN w (cl (slV w N (x 0)))) (cl (x 1)) (x 2)) N
    rw [s2, m2, u3, cl, cl, nI_clamp (by omega), nI_clamp (by omega)]
    obtain ⟨-, -, ⟨dt, y, hdt, hy, h30, h33, hl⟩, -⟩ := id h
    obtain ⟨id, pr, ac, rt, du, -, -, -, -, -, -, -, -, -, -, -, hu⟩ := hl s s1
    obtain ⟨v, v1, v2⟩ := hu m m1
    obtain ⟨a, b⟩ := gd_pg (u := nI u) h hs s1 (h.own s1).1 m1 (y := v + u) (by omega) (by rw [v2, nI_add]) hU
    exact ⟨a.w (by omega) (by omega) hD hU, b⟩
  | 5, _, hc =>
    obtain ⟨h1, h2, h3, h4⟩ := fRelease_ok hc
    obtain ⟨s, s1, s2, -⟩ := (atS_or (slV_at w N (x 0))).resolve_right (fun z => h1 (by rw [z]; decide))
    obtain ⟨m, m1, m2⟩ := okK_of h2
    obtain ⟨u, u1, u2, u3⟩ := okR_of (by decide) (by decide) h3
    show Gd (pgV w (cl (slV w N (x 0))) (bN w (cl (slV w N (x 0)))) (cl (x 1)) (-(x 2))) B N E (D + 60) (U + 1) ∧ Sd (pgV w (cl (slV w N (x 0))) (bN w (cl (slV w N (x 0)))) (cl (x 1)) (-(x 2))) N
    rw [s2, m2, u3, cl, cl, nI_clamp (by omega), nI_clamp (by omega)] at h4
    rw [s2, m2, u3, cl, cl, nI_clamp (by omega), nI_clamp (by omega)]
    obtain ⟨-, -, ⟨dt, y, hdt, hy, h30, h33, hl⟩, -⟩ := id h
    obtain ⟨id, pr, ac, rt, du, -, -, -, -, -, -, -, -, -, -, -, hu⟩ := hl s s1
    obtain ⟨v, v1, v2⟩ := hu m m1
    have hUU := h.bd.2
    rw [v2, nI_ltI (by omega) (by omega)] at h4
    obtain ⟨a, b⟩ := gd_pg (u := -nI u) h hs s1 (h.own s1).1 m1 (y := v - u) (by omega) (by rw [v2, ← pk_sub (by omega)]; grind) hU
    exact ⟨a.w (by omega) (by omega) hD hU, b⟩
  | 6, _, hc =>
    obtain ⟨h1, h2, h3⟩ := fRepay_ok hc
    obtain ⟨s, s1, s2, -⟩ := (atS_or (slV_at w N (x 0))).resolve_right (fun z => h1 (by rw [z]; decide))
    obtain ⟨c, c1, c2, c3⟩ := okR_of (by decide) (by decide) h2
    have hre := atE_or hE20 (etV_at (rpB w (slN w N (x 0)) (bN w (slN w N (x 0))) (x 1)) E (w 0) (x 0))
    have es : slN w N (x 0) = s := by rw [slN, s2, cl, nI_clamp (by omega)]
    show Gd (rpV w N E (slN w N (x 0)) (bN w (slN w N (x 0))) (x 0) (x 1) (reV w N E (x 0) (x 1))) B (if debtV (rpC w E (slN w N (x 0)) (bN w (slN w N (x 0))) (x 0) (x 1) (reV w N E (x 0) (x 1))) (slN w N (x 0)) = 0 then N - 1 else N) (enE E (reV w N E (x 0) (x 1))) (D + 60) (U + 1) ∧ Sd (rpV w N E (slN w N (x 0)) (bN w (slN w N (x 0))) (x 0) (x 1) (reV w N E (x 0) (x 1))) (if debtV (rpC w E (slN w N (x 0)) (bN w (slN w N (x 0))) (x 0) (x 1) (reV w N E (x 0) (x 1))) (slN w N (x 0)) = 0 then N - 1 else N)
    rw [s2, cl, nI_clamp (by omega)] at h3
    have hre2 : reV w N E (x 0) (x 1) < 0 ∨ ∃ e, e < 20 ∧ reV w N E (x 0) (x 1) = nI e := hre
    rw [es]
    generalize reV w N E (x 0) (x 1) = r at hre2
    rw [c3] at h3
    rw [c3]
    obtain ⟨a, b⟩ := gd_6x (id := x 0) h hs s1 (h.own s1).1 hre2 c2 h3
    exact ⟨a.w (by omega) (by omega) hD hU, b⟩
  | 7, _, hc =>
    obtain ⟨h1, h2, -⟩ := fBuy_ok hc
    obtain ⟨n, n1, n2⟩ := okB_of hB6 h1
    obtain ⟨m, m1, m2⟩ := okK_of h2
    show Gd (buV w (cl (x 0)) (cl (x 1)) (x 2)) B N E (D + 60) (U + 1) ∧ Sd (buV w (cl (x 0)) (cl (x 1)) (x 2)) N
    rw [n2, m2, cl, cl, nI_clamp (by omega), nI_clamp (by omega)]
    obtain ⟨a, b⟩ := gd_7 (u := x 2) h hs n1 m1
    exact ⟨a.w (by omega) (by omega) hD hU, b⟩
  | 8, _, hc =>
    obtain ⟨t, t1, t2, t3⟩ := okR_of (by decide) (by decide) (fPass_ok hc)
    show Gd (psV (cl (x 0)) w N 0).1 B (psV (cl (x 0)) w N 0).2.1 E (D + 60) (U + 1) ∧ Sd (psV (cl (x 0)) w N 0).1 (psV (cl (x 0)) w N 0).2.1
    rw [t3, cl, nI_clamp (by omega)]
    obtain ⟨a, b, -⟩ := Gd.ps t (n := 0) h hs (by omega)
    exact ⟨a.w (by omega) (by omega) hD hU, b⟩
  | i + 9, hi, _ => omega
theorem cl_n {n : Nat} (h : n < 2 ^ 31) : cl (nI n) = n := nI_clamp h
theorem CH_any {g : GG} {I : II} {b : Nat} {X : va_W} {T : TT} {i f : Nat} {w1 w2 : Nat → Int32} {B1 N1 E1 B2 N2 E2 : Nat} {a1 a2 : Int32} (h : f ≠ 0) : CH g I b X T i f w1 B1 N1 E1 a1 = CH g I b X T i f w2 B2 N2 E2 a2 := by
  funext r X' T' I'
  simp only [CH, h, false_and, or_false]
def CHx (g : GG) (I : II) (b : Nat) (X : va_W) (T : TT) (w : Nat → Int32) (B N E i : Nat) (x : Nat → Int32) : PhiT := CH g I b X T i (cdV w B N i x) (chR w B N E i x) (chB B i) (chN w B N E i x) (chE w N E i x) (chA w B N E i x)
section CHs
variable {g : GG} {X : va_W} {T : TT} {I : II} {b : Nat} {w x : Nat → Int32} {B N E D U : Nat} {pm : Nat → Nat}
theorem h_0 (hd : isDk T b) (hV : DV I b w B N E pm) (hG : Gd w B N E D U) (hS : Sd w N) : Mc g yX3_admitBorrower cX3_admitBorrower 2 (some (.object "LendingDesk$Fault")) 4 0 0 [.ref b, .int (x 0)] X T I (CHx g I b X T w B N E 0 x) := by
  have hB6 := hG.B.2
  have hN10 := hG.N.2
  show Mc g yX3_admitBorrower cX3_admitBorrower 2 (some (.object "LendingDesk$Fault")) 4 0 0 [.ref b, .int (x 0)] X T I (CH g I b X T 0 (fBorrower B (x 0)) (abV w B (x 0)) (B + 1) N E (nI B))
  exact c_X3_admitBorrower hd hV hG hS
theorem h_1 (hd : isDk T b) (hV : DV I b w B N E pm) (hG : Gd w B N E D U) (hS : Sd w N) : Mc g yX3_bringUnits cX3_bringUnits 5 (some (.object "LendingDesk$Fault")) 4 0 0 [.ref b, .int (x 0), .int (x 1), .int (x 2)] X T I (CHx g I b X T w B N E 1 x) := by
  have hB6 := hG.B.2
  have hN10 := hG.N.2
  show Mc g yX3_bringUnits cX3_bringUnits 5 (some (.object "LendingDesk$Fault")) 4 0 0 [.ref b, .int (x 0), .int (x 1), .int (x 2)] X T I (CH g I b X T 1 (fBring w B (x 0) (x 1) (x 2)) (brV w (cl (x 0)) (cl (x 1)) (x 2)) B N E (w (22 + 6 * cl (x 0) + (2 + cl (x 1))) + x 2))
  by_cases h : okB B (x 0)
  · obtain ⟨n, n1, n2⟩ := okB_of hB6 h
    rw [n2, cl_n (by omega)]
    exact c_X3_bringUnits__v hd hV n1 hG hS
  · rw [CH_any (fun z => h (fBring_ok z).1)]
    exact c_X3_bringUnits__x hd hV h hG hS
theorem h_2 (hd : isDk T b) (hV : DV I b w B N E pm) (hG : Gd w B N E D U) (hS : Sd w N) : Mc g yX3_changePrice cX3_changePrice 3 (some (.object "LendingDesk$Fault")) 4 0 0 [.ref b, .int (x 0), .int (x 1)] X T I (CHx g I b X T w B N E 2 x) := by
  have hB6 := hG.B.2
  have hN10 := hG.N.2
  show Mc g yX3_changePrice cX3_changePrice 3 (some (.object "LendingDesk$Fault")) 4 0 0 [.ref b, .int (x 0), .int (x 1)] X T I (CH g I b X T 2 (fPrice (x 0) (x 1)) (upd w (10 + cl (x 0)) (x 1)) B N E (w (10 + cl (x 0))))
  exact c_X3_changePrice hd hV hG hS
theorem h_3 (hd : isDk T b) (hV : DV I b w B N E pm) (hG : Gd w B N E D U) (hS : Sd w N) : Mc g yX3_grantLoan cX3_grantLoan 8 (some (.object "LendingDesk$Fault")) 6 0 0 [.ref b, .int (x 0), .int (x 1), .int (x 2), .int (x 3), .int (x 4)] X T I (CHx g I b X T w B N E 3 x) := by
  have hB6 := hG.B.2
  have hN10 := hG.N.2
  show Mc g yX3_grantLoan cX3_grantLoan 8 (some (.object "LendingDesk$Fault")) 6 0 0 [.ref b, .int (x 0), .int (x 1), .int (x 2), .int (x 3), .int (x 4)] X T I (CH g I b X T 3 (fLend w B N (x 0) (x 1) (x 2) (x 3) (x 4)) (ldV w N (cl (x 0)) (cl (x 1)) (x 2) (x 3) (x 4)) B (N + 1) E (w 3))
  by_cases h : okB B (x 0)
  · obtain ⟨n, n1, n2⟩ := okB_of hB6 h
    rw [n2, cl_n (by omega)]
    exact c_X3_grantLoan__v hd hV n1 hG hS
  · rw [CH_any (fun z => h (fLend_ok z).1)]
    exact c_X3_grantLoan__x hd hV h hG hS
theorem h_4 (hd : isDk T b) (hV : DV I b w B N E pm) (hG : Gd w B N E D U) (hS : Sd w N) : Mc g yX3_pledgeUnits cX3_pledgeUnits 6 (some (.object "LendingDesk$Fault")) 5 0 0 [.ref b, .int (x 0), .int (x 1), .int (x 2)] X T I (CHx g I b X T w B N E 4 x) := by
  have hB6 := hG.B.2
  have hN10 := hG.N.2
  show Mc g yX3_pledgeUnits cX3_pledgeUnits 6 (some (.object "LendingDesk$Fault")) 5 0 0 [.ref b, .int (x 0), .int (x 1), .int (x 2)] X T I (CH g I b X T 4 (fPledge w (slV w N (x 0)) (x 1) (x 2)) (pgV w (slN w N (x 0)) (bN w (slN w N (x 0))) (cl (x 1)) (x 2)) B N E (valV (pgV w (slN w N (x 0)) (bN w (slN w N (x 0))) (cl (x 1)) (x 2)) (slN w N (x 0))))
  have ha := slV_at w N (x 0)
  rcases atS_or ha with ⟨s, s1, s2, -⟩ | s2
  · rw [s2] at ha
    rw [slN, s2, cl_n (by omega)]
    exact c_X3_pledgeUnits__s hd hV s1 ha hG hS
  · rw [s2] at ha
    rw [s2]
    rw [CH_any (fun z => (fPledge_ok z).1 (by decide))]
    exact c_X3_pledgeUnits__n hd hV ha hG hS
theorem h_5 (hd : isDk T b) (hV : DV I b w B N E pm) (hG : Gd w B N E D U) (hS : Sd w N) : Mc g yX3_releaseUnits cX3_releaseUnits 7 (some (.object "LendingDesk$Fault")) 5 0 0 [.ref b, .int (x 0), .int (x 1), .int (x 2)] X T I (CHx g I b X T w B N E 5 x) := by
  have hB6 := hG.B.2
  have hN10 := hG.N.2
  show Mc g yX3_releaseUnits cX3_releaseUnits 7 (some (.object "LendingDesk$Fault")) 5 0 0 [.ref b, .int (x 0), .int (x 1), .int (x 2)] X T I (CH g I b X T 5 (fRelease w (slV w N (x 0)) (x 1) (x 2)) (pgV w (slN w N (x 0)) (bN w (slN w N (x 0))) (cl (x 1)) (-(x 2))) B N E (valV (pgV w (slN w N (x 0)) (bN w (slN w N (x 0))) (cl (x 1)) (-(x 2))) (slN w N (x 0))))
  have ha := slV_at w N (x 0)
  rcases atS_or ha with ⟨s, s1, s2, -⟩ | s2
  · rw [s2] at ha
    rw [slN, s2, cl_n (by omega)]
    exact c_X3_releaseUnits__s hd hV s1 ha hG hS
  · rw [s2] at ha
    rw [s2]
    rw [CH_any (fun z => (fRelease_ok z).1 (by decide))]
    exact c_X3_releaseUnits__n hd hV ha hG hS
theorem h_6 (hd : isDk T b) (hV : DV I b w B N E pm) (hG : Gd w B N E D U) (hS : Sd w N) : Mc g yX3_repayLoan cX3_repayLoan 6 (some (.object "LendingDesk$Fault")) 6 0 0 [.ref b, .int (x 0), .int (x 1)] X T I (CHx g I b X T w B N E 6 x) := by
  have hB6 := hG.B.2
  have hN10 := hG.N.2
  show Mc g yX3_repayLoan cX3_repayLoan 6 (some (.object "LendingDesk$Fault")) 6 0 0 [.ref b, .int (x 0), .int (x 1)] X T I (CH g I b X T 6 (fRepay w (slV w N (x 0)) (x 1)) (rpV w N E (slN w N (x 0)) (bN w (slN w N (x 0))) (x 0) (x 1) (reV w N E (x 0) (x 1))) B (if debtV (rpC w E (slN w N (x 0)) (bN w (slN w N (x 0))) (x 0) (x 1) (reV w N E (x 0) (x 1))) (slN w N (x 0)) = 0 then N - 1 else N) (enE E (reV w N E (x 0) (x 1))) (debtV (rpC w E (slN w N (x 0)) (bN w (slN w N (x 0))) (x 0) (x 1) (reV w N E (x 0) (x 1))) (slN w N (x 0))))
  have ha := slV_at w N (x 0)
  rcases atS_or ha with ⟨s, s1, s2, -⟩ | s2
  · rw [s2] at ha
    have es : slN w N (x 0) = s := by rw [slN, s2, cl_n (by omega)]
    have he := etV_at (rpB w (slN w N (x 0)) (bN w (slN w N (x 0))) (x 1)) E (w 0) (x 0)
    have hr : atE (rpB w s (bN w s) (x 1)) E (w 0) (x 0) (reV w N E (x 0) (x 1)) := by rw [← es]; exact he
    rw [s2, es]
    exact c_X3_repayLoan__s hd hV s1 ha hr hG hS
  · rw [s2] at ha
    rw [s2, CH_any (fun z => (fRepay_ok z).1 (by decide))]
    exact c_X3_repayLoan__n hd hV ha hG hS
theorem h_7 (hd : isDk T b) (hV : DV I b w B N E pm) (hG : Gd w B N E D U) (hS : Sd w N) : Mc g yX3_sellUnits cX3_sellUnits 6 (some (.object "LendingDesk$Fault")) 4 0 0 [.ref b, .int (x 0), .int (x 1), .int (x 2)] X T I (CHx g I b X T w B N E 7 x) := by
  have hB6 := hG.B.2
  have hN10 := hG.N.2
  show Mc g yX3_sellUnits cX3_sellUnits 6 (some (.object "LendingDesk$Fault")) 4 0 0 [.ref b, .int (x 0), .int (x 1), .int (x 2)] X T I (CH g I b X T 7 (fBuy w B (x 0) (x 1) (x 2)) (buV w (cl (x 0)) (cl (x 1)) (x 2)) B N E (x 2 * w (10 + cl (x 1))))
  by_cases h : okB B (x 0)
  · obtain ⟨n, n1, n2⟩ := okB_of hB6 h
    rw [n2, cl_n (by omega)]
    exact c_X3_sellUnits__v hd hV n1 hG hS
  · rw [CH_any (fun z => h (fBuy_ok z).1)]
    exact c_X3_sellUnits__x hd hV h hG hS
theorem h_8 (hd : isDk T b) (hV : DV I b w B N E pm) (hG : Gd w B N E D U) (hS : Sd w N) (hDx : D + 60 ≤ 100000) : Mc g yX3_letDaysPass cX3_letDaysPass 4 (some (.object "LendingDesk$Fault")) 6 0 0 [.ref b, .int (x 0)] X T I (CHx g I b X T w B N E 8 x) := by
  have hB6 := hG.B.2
  have hN10 := hG.N.2
  show Mc g yX3_letDaysPass cX3_letDaysPass 4 (some (.object "LendingDesk$Fault")) 6 0 0 [.ref b, .int (x 0)] X T I (CH g I b X T 8 (fPass (x 0)) ((psV (cl (x 0)) w N 0).1) B (psV (cl (x 0)) w N 0).2.1 E (nI (psV (cl (x 0)) w N 0).2.2))
  by_cases h : okR 1 60 (x 0)
  · obtain ⟨t, t1, t2, t3⟩ := okR_of (by decide) (by decide) h
    rw [t3, cl_n (by omega)]
    exact c_X3_letDaysPass__v hd hV t1 t2 (by omega) hG hS
  · rw [CH_any (fun z => h (fPass_ok z))]
    exact c_X3_letDaysPass__x hd hV h hG hS
end CHs
