/-! The nine changes on both sides. -/
theorem rc_0o {g : GG} {X : va_W} {T : TT} {I : II} {M : Nat} {w : Nat → Int32} {B N E D U : Nat} {xx : Nat → Int32} (hm : isMd T M) (hG : Gd w B N E D U) (hS : Sd w N) (hD : D + 60 ≤ 100000) {c f : Nat} (hc : I M 5 = nI c) (hf : I M 6 = nI f) (hf8 : f < 8) (hc8 : c ≤ 8) (h0 : cdV w B N 0 xx = 0) : Mc g yX10_addBorrower cX10_addBorrower 3 (some .int) 6 0 0 [.ref M, .int (xx 0)] X T (sr I (M + 1) w) (Ex (some (.int (chA w B N E 0 xx))) X T (sr (rmF (u2 I M 0 (nI 0)) M w c f) (M + 1) (chR w B N E 0 xx))) := by
  have h1 := fBorrower_ok h0
  have h6 := hG.B.2
  exact c_addBorrower__o hm hG.B.1 hG.B.2 (by omega) h0 hc hf hf8 hc8
theorem rc_0x {g : GG} {X : va_W} {T : TT} {I : II} {M : Nat} {w : Nat → Int32} {B N E D U : Nat} {xx : Nat → Int32} (hm : isMd T M) (hG : Gd w B N E D U) (hS : Sd w N) (h0 : cdV w B N 0 xx ≠ 0) : Mc g yX10_addBorrower cX10_addBorrower 3 (some .int) 6 0 0 [.ref M, .int (xx 0)] X T (sr I (M + 1) w) (Ex (some (.int (nI 0))) X T (sr (u2 I M 0 (nI (cdV w B N 0 xx))) (M + 1) w)) := by
  exact c_addBorrower__x hm hG.B.1 hG.B.2 h0
theorem cdm_0 {w x : Nat → Int32} {B N : Nat} : cdV w B N 0 x ≤ 2 := by
  simp only [cdV, fBorrower]
  repeat' split
  all_goals omega
theorem cdc_0 {w x : Nat → Int32} {B N : Nat} (z : cdV w B N 0 x ≠ 0) : cdV w B N 0 x ≤ [3, 4].length ∧ [3, 4].getD (cdV w B N 0 x - 1) 0 = ftV 0 (cdV w B N 0 x) := by
  have hb := cdm_0 (w := w) (x := x) (B := B) (N := N)
  generalize cdV w B N 0 x = f at *
  match f, hb, z with
  | 0, _, z => exact absurd rfl z
  | 1, _, _ => exact ⟨by decide, rfl⟩
  | 2, _, _ => exact ⟨by decide, rfl⟩
  | f + 3, hb, _ => exact absurd hb (by omega)
theorem op_addBorrower {g : GG} {X : va_W} {T : TT} {I : II} {x M n : Nat} {s : AS} (h : Iv x M T I s s n) (hn : n < 512) (c_ : Int32) : Op g x M n s yX9_addBorrower cX9_addBorrower 2 (some .int) yX10_addBorrower cX10_addBorrower 3 (some .int) [.int c_] [3, 4] X T I :=
  Op.ch (i := 0) (xx := fun _ => c_) (d := 6) h hn (by decide) (by decide) (by decide) (fun B N z => cdc_0 z)
    (fun h1 h2 h3 h4 h5 h6 h7 h8 h9 h10 h11 h12 h0 => q_addBorrower__o h.1 h1 h2 h3 h4 h5 h6 h7 h8 h9 h10 h11 h0)
    (fun h1 h2 h3 h4 h5 h6 h7 h8 h9 h10 h11 h12 h0 => q_addBorrower__x h.1 h1 h2 h3 h4 h5 h6 h7 h8 h9 h10 h11 h0)
    (fun hm hG hS hD hc hf hf8 hc8 h0 => rc_0o hm hG hS hD hc hf hf8 hc8 h0)
    (fun hm hG hS h0 => rc_0x hm hG hS h0)
theorem rc_1o {g : GG} {X : va_W} {T : TT} {I : II} {M : Nat} {w : Nat → Int32} {B N E D U : Nat} {xx : Nat → Int32} (hm : isMd T M) (hG : Gd w B N E D U) (hS : Sd w N) (hD : D + 60 ≤ 100000) {c f : Nat} (hc : I M 5 = nI c) (hf : I M 6 = nI f) (hf8 : f < 8) (hc8 : c ≤ 8) (h0 : cdV w B N 1 xx = 0) : Mc g yX10_bring cX10_bring 5 (some .int) 6 0 0 [.ref M, .int (xx 0), .int (xx 1), .int (xx 2)] X T (sr I (M + 1) w) (Ex (some (.int (chA w B N E 1 xx))) X T (sr (rmF (u2 I M 0 (nI 0)) M w c f) (M + 1) (chR w B N E 1 xx))) := by
  obtain ⟨hb_, hk_, -, -⟩ := fBring_ok h0
  obtain ⟨n, n1, n2⟩ := okB_of hG.B.2 hb_
  obtain ⟨m, m1, m2⟩ := okK_of hk_
  have hB6 := hG.B.2
  have c1 : cl (xx 0) = n := by rw [n2]; exact cl_n (by omega)
  have c2 : cl (xx 1) = m := by rw [m2]; exact cl_n (by omega)
  have hA : chA w B N E 1 xx = w (22 + 6 * n + (2 + m)) + xx 2 := by
    show w (22 + 6 * cl (xx 0) + (2 + cl (xx 1))) + xx 2 = _
    rw [c1, c2]
  have hR : chR w B N E 1 xx = brV w n m (xx 2) := by
    show brV w (cl (xx 0)) (cl (xx 1)) (xx 2) = _
    rw [c1, c2]
  rw [hA, hR, n2, m2]
  exact c_bring__o hm hG.B.1 hB6 (by omega) m1 (by rw [← n2, ← m2]; exact h0) hc hf hf8 hc8
theorem rc_1x {g : GG} {X : va_W} {T : TT} {I : II} {M : Nat} {w : Nat → Int32} {B N E D U : Nat} {xx : Nat → Int32} (hm : isMd T M) (hG : Gd w B N E D U) (hS : Sd w N) (h0 : cdV w B N 1 xx ≠ 0) : Mc g yX10_bring cX10_bring 5 (some .int) 6 0 0 [.ref M, .int (xx 0), .int (xx 1), .int (xx 2)] X T (sr I (M + 1) w) (Ex (some (.int (nI 0))) X T (sr (u2 I M 0 (nI (cdV w B N 1 xx))) (M + 1) w)) := by
  exact c_bring__x hm hG.B.1 hG.B.2 h0
theorem cdm_1 {w x : Nat → Int32} {B N : Nat} : cdV w B N 1 x ≤ 3 := by
  simp only [cdV, fBring]
  repeat' split
  all_goals omega
theorem cdc_1 {w x : Nat → Int32} {B N : Nat} (z : cdV w B N 1 x ≠ 0) : cdV w B N 1 x ≤ [2, 3, 4].length ∧ [2, 3, 4].getD (cdV w B N 1 x - 1) 0 = ftV 1 (cdV w B N 1 x) := by
  have hb := cdm_1 (w := w) (x := x) (B := B) (N := N)
  generalize cdV w B N 1 x = f at *
  match f, hb, z with
  | 0, _, z => exact absurd rfl z
  | 1, _, _ => exact ⟨by decide, rfl⟩
  | 2, _, _ => exact ⟨by decide, rfl⟩
  | 3, _, _ => exact ⟨by decide, rfl⟩
  | f + 4, hb, _ => exact absurd hb (by omega)
theorem op_bring {g : GG} {X : va_W} {T : TT} {I : II} {x M n : Nat} {s : AS} (h : Iv x M T I s s n) (hn : n < 512) (b_ k_ u_ : Int32) : Op g x M n s yX9_bring cX9_bring 4 (some .int) yX10_bring cX10_bring 5 (some .int) [.int b_, .int k_, .int u_] [2, 3, 4] X T I :=
  Op.ch (i := 1) (xx := fun j => match j with | 0 => b_ | 1 => k_ | _ => u_) (d := 6) h hn (by decide) (by decide) (by decide) (fun B N z => cdc_1 z)
    (fun h1 h2 h3 h4 h5 h6 h7 h8 h9 h10 h11 h12 h0 => q_bring__o h.1 h1 h2 h3 h4 h5 h6 h7 h8 h9 h10 h11 h0)
    (fun h1 h2 h3 h4 h5 h6 h7 h8 h9 h10 h11 h12 h0 => q_bring__x h.1 h1 h2 h3 h4 h5 h6 h7 h8 h9 h10 h11 h0)
    (fun hm hG hS hD hc hf hf8 hc8 h0 => rc_1o hm hG hS hD hc hf hf8 hc8 h0)
    (fun hm hG hS h0 => rc_1x hm hG hS h0)
theorem rc_2o {g : GG} {X : va_W} {T : TT} {I : II} {M : Nat} {w : Nat → Int32} {B N E D U : Nat} {xx : Nat → Int32} (hm : isMd T M) (hG : Gd w B N E D U) (hS : Sd w N) (hD : D + 60 ≤ 100000) {c f : Nat} (hc : I M 5 = nI c) (hf : I M 6 = nI f) (hf8 : f < 8) (hc8 : c ≤ 8) (h0 : cdV w B N 2 xx = 0) : Mc g yX10_setPrice cX10_setPrice 4 (some .int) 6 0 0 [.ref M, .int (xx 0), .int (xx 1)] X T (sr I (M + 1) w) (Ex (some (.int (chA w B N E 2 xx))) X T (sr (rmF (u2 I M 0 (nI 0)) M w c f) (M + 1) (chR w B N E 2 xx))) := by
  obtain ⟨hk_, -⟩ := fPrice_ok h0
  obtain ⟨m, m1, m2⟩ := okK_of hk_
  have c2 : cl (xx 0) = m := by rw [m2]; exact cl_n (by omega)
  have hA : chA w B N E 2 xx = w (10 + m) := by
    show w (10 + cl (xx 0)) = _
    rw [c2]
  have hR : chR w B N E 2 xx = upd w (10 + m) (xx 1) := by
    show upd w (10 + cl (xx 0)) (xx 1) = _
    rw [c2]
  rw [hA, hR, m2]
  exact c_setPrice__o hm m1 (by rw [← m2]; exact h0) hc hf hf8 hc8
theorem rc_2x {g : GG} {X : va_W} {T : TT} {I : II} {M : Nat} {w : Nat → Int32} {B N E D U : Nat} {xx : Nat → Int32} (hm : isMd T M) (hG : Gd w B N E D U) (hS : Sd w N) (h0 : cdV w B N 2 xx ≠ 0) : Mc g yX10_setPrice cX10_setPrice 4 (some .int) 6 0 0 [.ref M, .int (xx 0), .int (xx 1)] X T (sr I (M + 1) w) (Ex (some (.int (nI 0))) X T (sr (u2 I M 0 (nI (cdV w B N 2 xx))) (M + 1) w)) := by
  exact c_setPrice__x hm h0
theorem cdm_2 {w x : Nat → Int32} {B N : Nat} : cdV w B N 2 x ≤ 2 := by
  simp only [cdV, fPrice]
  repeat' split
  all_goals omega
theorem cdc_2 {w x : Nat → Int32} {B N : Nat} (z : cdV w B N 2 x ≠ 0) : cdV w B N 2 x ≤ [2, 3].length ∧ [2, 3].getD (cdV w B N 2 x - 1) 0 = ftV 2 (cdV w B N 2 x) := by
  have hb := cdm_2 (w := w) (x := x) (B := B) (N := N)
  generalize cdV w B N 2 x = f at *
  match f, hb, z with
  | 0, _, z => exact absurd rfl z
  | 1, _, _ => exact ⟨by decide, rfl⟩
  | 2, _, _ => exact ⟨by decide, rfl⟩
  | f + 3, hb, _ => exact absurd hb (by omega)
theorem op_setPrice {g : GG} {X : va_W} {T : TT} {I : II} {x M n : Nat} {s : AS} (h : Iv x M T I s s n) (hn : n < 512) (k_ p_ : Int32) : Op g x M n s yX9_setPrice cX9_setPrice 3 (some .int) yX10_setPrice cX10_setPrice 4 (some .int) [.int k_, .int p_] [2, 3] X T I :=
  Op.ch (i := 2) (xx := fun j => match j with | 0 => k_ | _ => p_) (d := 6) h hn (by decide) (by decide) (by decide) (fun B N z => cdc_2 z)
    (fun h1 h2 h3 h4 h5 h6 h7 h8 h9 h10 h11 h12 h0 => q_setPrice__o h.1 h1 h2 h3 h4 h5 h6 h7 h8 h9 h10 h11 h0)
    (fun h1 h2 h3 h4 h5 h6 h7 h8 h9 h10 h11 h12 h0 => q_setPrice__x h.1 h1 h2 h3 h4 h5 h6 h7 h8 h9 h10 h11 h0)
    (fun hm hG hS hD hc hf hf8 hc8 h0 => rc_2o hm hG hS hD hc hf hf8 hc8 h0)
    (fun hm hG hS h0 => rc_2x hm hG hS h0)
theorem rc_3o {g : GG} {X : va_W} {T : TT} {I : II} {M : Nat} {w : Nat → Int32} {B N E D U : Nat} {xx : Nat → Int32} (hm : isMd T M) (hG : Gd w B N E D U) (hS : Sd w N) (hD : D + 60 ≤ 100000) {c f : Nat} (hc : I M 5 = nI c) (hf : I M 6 = nI f) (hf8 : f < 8) (hc8 : c ≤ 8) (h0 : cdV w B N 3 xx = 0) : Mc g yX10_lend cX10_lend 7 (some .int) 6 0 0 [.ref M, .int (xx 0), .int (xx 1), .int (xx 2), .int (xx 3), .int (xx 4)] X T (sr I (M + 1) w) (Ex (some (.int (chA w B N E 3 xx))) X T (sr (rmF (u2 I M 0 (nI 0)) M w c f) (M + 1) (chR w B N E 3 xx))) := by
  obtain ⟨hb_, hk_, -, -, -, hn, -⟩ := fLend_ok h0
  obtain ⟨n, n1, n2⟩ := okB_of hG.B.2 hb_
  obtain ⟨m, m1, m2⟩ := okK_of hk_
  have hB6 := hG.B.2
  have hN10 := hG.N.2
  have c1 : cl (xx 0) = n := by rw [n2]; exact cl_n (by omega)
  have c2 : cl (xx 1) = m := by rw [m2]; exact cl_n (by omega)
  have hA : chA w B N E 3 xx = w 3 := rfl
  have hR : chR w B N E 3 xx = ldV w N n m (xx 2) (xx 3) (xx 4) := by
    show ldV w N (cl (xx 0)) (cl (xx 1)) (xx 2) (xx 3) (xx 4) = _
    rw [c1, c2]
  rw [hA, hR, n2, m2]
  exact c_lend__o hm hG.B.1 hB6 hG.N.1 (by omega) (by omega) m1 (by rw [← n2, ← m2]; exact h0) hc hf hf8 hc8
theorem rc_3x {g : GG} {X : va_W} {T : TT} {I : II} {M : Nat} {w : Nat → Int32} {B N E D U : Nat} {xx : Nat → Int32} (hm : isMd T M) (hG : Gd w B N E D U) (hS : Sd w N) (h0 : cdV w B N 3 xx ≠ 0) : Mc g yX10_lend cX10_lend 7 (some .int) 6 0 0 [.ref M, .int (xx 0), .int (xx 1), .int (xx 2), .int (xx 3), .int (xx 4)] X T (sr I (M + 1) w) (Ex (some (.int (nI 0))) X T (sr (u2 I M 0 (nI (cdV w B N 3 xx))) (M + 1) w)) := by
  exact c_lend__x hm hG.B.1 hG.B.2 hG.N.1 hG.N.2 h0
theorem cdm_3 {w x : Nat → Int32} {B N : Nat} : cdV w B N 3 x ≤ 3 := by
  simp only [cdV, fLend]
  repeat' split
  all_goals omega
theorem cdc_3 {w x : Nat → Int32} {B N : Nat} (z : cdV w B N 3 x ≠ 0) : cdV w B N 3 x ≤ [2, 3, 4].length ∧ [2, 3, 4].getD (cdV w B N 3 x - 1) 0 = ftV 3 (cdV w B N 3 x) := by
  have hb := cdm_3 (w := w) (x := x) (B := B) (N := N)
  generalize cdV w B N 3 x = f at *
  match f, hb, z with
  | 0, _, z => exact absurd rfl z
  | 1, _, _ => exact ⟨by decide, rfl⟩
  | 2, _, _ => exact ⟨by decide, rfl⟩
  | 3, _, _ => exact ⟨by decide, rfl⟩
  | f + 4, hb, _ => exact absurd hb (by omega)
theorem op_lend {g : GG} {X : va_W} {T : TT} {I : II} {x M n : Nat} {s : AS} (h : Iv x M T I s s n) (hn : n < 512) (b_ k_ u_ p_ t_ : Int32) : Op g x M n s yX9_lend cX9_lend 6 (some .int) yX10_lend cX10_lend 7 (some .int) [.int b_, .int k_, .int u_, .int p_, .int t_] [2, 3, 4] X T I :=
  Op.ch (i := 3) (xx := fun j => match j with | 0 => b_ | 1 => k_ | 2 => u_ | 3 => p_ | _ => t_) (d := 6) h hn (by decide) (by decide) (by decide) (fun B N z => cdc_3 z)
    (fun h1 h2 h3 h4 h5 h6 h7 h8 h9 h10 h11 h12 h0 => q_lend__o h.1 h1 h2 h3 h4 h5 h6 h7 h8 h9 h10 h11 h0)
    (fun h1 h2 h3 h4 h5 h6 h7 h8 h9 h10 h11 h12 h0 => q_lend__x h.1 h1 h2 h3 h4 h5 h6 h7 h8 h9 h10 h11 h0)
    (fun hm hG hS hD hc hf hf8 hc8 h0 => rc_3o hm hG hS hD hc hf hf8 hc8 h0)
    (fun hm hG hS h0 => rc_3x hm hG hS h0)
theorem rc_4o {g : GG} {X : va_W} {T : TT} {I : II} {M : Nat} {w : Nat → Int32} {B N E D U : Nat} {xx : Nat → Int32} (hm : isMd T M) (hG : Gd w B N E D U) (hS : Sd w N) (hD : D + 60 ≤ 100000) {c f : Nat} (hc : I M 5 = nI c) (hf : I M 6 = nI f) (hf8 : f < 8) (hc8 : c ≤ 8) (h0 : cdV w B N 4 xx = 0) : Mc g yX10_pledge cX10_pledge 5 (some .int) 6 0 0 [.ref M, .int (xx 0), .int (xx 1), .int (xx 2)] X T (sr I (M + 1) w) (Ex (some (.int (chA w B N E 4 xx))) X T (sr (rmF (u2 I M 0 (nI 0)) M w c f) (M + 1) (chR w B N E 4 xx))) := by
  obtain ⟨hr_, hk_, -, -⟩ := fPledge_ok h0
  obtain ⟨m, m1, m2⟩ := okK_of hk_
  have hB6 := hG.B.2
  have hN10 := hG.N.2
  have ha := slV_at w N (xx 0)
  obtain ⟨s, s1, s2, -⟩ := (atS_or ha).resolve_right (fun z => hr_ (by rw [z]; decide))
  have hb := (hG.own s1).1
  have es : slN w N (xx 0) = s := by rw [slN, s2]; exact cl_n (by omega)
  rw [s2] at ha
  have c2 : cl (xx 1) = m := by rw [m2]; exact cl_n (by omega)
  have hA : chA w B N E 4 xx = valV (pgV w s (bN w s) m (xx 2)) s := by
    show valV (pgV w (slN w N (xx 0)) (bN w (slN w N (xx 0))) (cl (xx 1)) (xx 2)) (slN w N (xx 0)) = _
    rw [es, c2]
  have hR : chR w B N E 4 xx = pgV w s (bN w s) m (xx 2) := by
    show pgV w (slN w N (xx 0)) (bN w (slN w N (xx 0))) (cl (xx 1)) (xx 2) = _
    rw [es, c2]
  have h1 : fPledge w (nI s) (nI m) (xx 2) = 0 := by rw [← s2, ← m2]; exact h0
  rw [hA, hR, m2]
  exact c_pledge__o hm hG.N.1 hN10 s1 ha (by omega) (hG.own s1).2 m1 h1 hc hf hf8 hc8
theorem rc_4x {g : GG} {X : va_W} {T : TT} {I : II} {M : Nat} {w : Nat → Int32} {B N E D U : Nat} {xx : Nat → Int32} (hm : isMd T M) (hG : Gd w B N E D U) (hS : Sd w N) (h0 : cdV w B N 4 xx ≠ 0) : Mc g yX10_pledge cX10_pledge 5 (some .int) 6 0 0 [.ref M, .int (xx 0), .int (xx 1), .int (xx 2)] X T (sr I (M + 1) w) (Ex (some (.int (nI 0))) X T (sr (u2 I M 0 (nI (cdV w B N 4 xx))) (M + 1) w)) := by
  have ha := slV_at w N (xx 0)
  have e : cdV w B N 4 xx = fPledge w (slV w N (xx 0)) (xx 1) (xx 2) := rfl
  rw [e]
  rcases atS_or ha with ⟨s, s1, s2, -⟩ | s2
  · rw [s2] at ha
    rw [s2]
    exact c_pledge__y hm hG.N.1 hG.N.2 s1 ha (Nat.lt_of_lt_of_le (hG.own s1).1 hG.B.2) (hG.own s1).2 (by rw [← s2]; exact h0)
  · rw [s2] at ha
    rw [s2]
    exact c_pledge__x hm hG.N.1 hG.N.2 ha (by rw [← s2]; exact h0)
theorem cdm_4 {w x : Nat → Int32} {B N : Nat} : cdV w B N 4 x ≤ 4 := by
  simp only [cdV, fPledge]
  repeat' split
  all_goals omega
theorem cdc_4 {w x : Nat → Int32} {B N : Nat} (z : cdV w B N 4 x ≠ 0) : cdV w B N 4 x ≤ [1, 2, 3, 4].length ∧ [1, 2, 3, 4].getD (cdV w B N 4 x - 1) 0 = ftV 4 (cdV w B N 4 x) := by
  have hb := cdm_4 (w := w) (x := x) (B := B) (N := N)
  generalize cdV w B N 4 x = f at *
  match f, hb, z with
  | 0, _, z => exact absurd rfl z
  | 1, _, _ => exact ⟨by decide, rfl⟩
  | 2, _, _ => exact ⟨by decide, rfl⟩
  | 3, _, _ => exact ⟨by decide, rfl⟩
  | 4, _, _ => exact ⟨by decide, rfl⟩
  | f + 5, hb, _ => exact absurd hb (by omega)
theorem op_pledge {g : GG} {X : va_W} {T : TT} {I : II} {x M n : Nat} {s : AS} (h : Iv x M T I s s n) (hn : n < 512) (i_ k_ u_ : Int32) : Op g x M n s yX9_pledge cX9_pledge 4 (some .int) yX10_pledge cX10_pledge 5 (some .int) [.int i_, .int k_, .int u_] [1, 2, 3, 4] X T I :=
  Op.ch (i := 4) (xx := fun j => match j with | 0 => i_ | 1 => k_ | _ => u_) (d := 6) h hn (by decide) (by decide) (by decide) (fun B N z => cdc_4 z)
    (fun h1 h2 h3 h4 h5 h6 h7 h8 h9 h10 h11 h12 h0 => q_pledge__o h.1 h1 h2 h3 h4 h5 h6 h7 h8 h9 h10 h11 h0)
    (fun h1 h2 h3 h4 h5 h6 h7 h8 h9 h10 h11 h12 h0 => q_pledge__x h.1 h1 h2 h3 h4 h5 h6 h7 h8 h9 h10 h11 h0)
    (fun hm hG hS hD hc hf hf8 hc8 h0 => rc_4o hm hG hS hD hc hf hf8 hc8 h0)
    (fun hm hG hS h0 => rc_4x hm hG hS h0)
theorem rc_5o {g : GG} {X : va_W} {T : TT} {I : II} {M : Nat} {w : Nat → Int32} {B N E D U : Nat} {xx : Nat → Int32} (hm : isMd T M) (hG : Gd w B N E D U) (hS : Sd w N) (hD : D + 60 ≤ 100000) {c f : Nat} (hc : I M 5 = nI c) (hf : I M 6 = nI f) (hf8 : f < 8) (hc8 : c ≤ 8) (h0 : cdV w B N 5 xx = 0) : Mc g yX10_release cX10_release 5 (some .int) 6 0 0 [.ref M, .int (xx 0), .int (xx 1), .int (xx 2)] X T (sr I (M + 1) w) (Ex (some (.int (chA w B N E 5 xx))) X T (sr (rmF (u2 I M 0 (nI 0)) M w c f) (M + 1) (chR w B N E 5 xx))) := by
  obtain ⟨hr_, hk_, -, -⟩ := fRelease_ok h0
  obtain ⟨m, m1, m2⟩ := okK_of hk_
  have hB6 := hG.B.2
  have hN10 := hG.N.2
  have ha := slV_at w N (xx 0)
  obtain ⟨s, s1, s2, -⟩ := (atS_or ha).resolve_right (fun z => hr_ (by rw [z]; decide))
  have hb := (hG.own s1).1
  have es : slN w N (xx 0) = s := by rw [slN, s2]; exact cl_n (by omega)
  rw [s2] at ha
  have c2 : cl (xx 1) = m := by rw [m2]; exact cl_n (by omega)
  have hA : chA w B N E 5 xx = valV (pgV w s (bN w s) m (-(xx 2))) s := by
    show valV (pgV w (slN w N (xx 0)) (bN w (slN w N (xx 0))) (cl (xx 1)) (-(xx 2))) (slN w N (xx 0)) = _
    rw [es, c2]
  have hR : chR w B N E 5 xx = pgV w s (bN w s) m (-(xx 2)) := by
    show pgV w (slN w N (xx 0)) (bN w (slN w N (xx 0))) (cl (xx 1)) (-(xx 2)) = _
    rw [es, c2]
  have h1 : fRelease w (nI s) (nI m) (xx 2) = 0 := by rw [← s2, ← m2]; exact h0
  rw [hA, hR, m2]
  exact c_release__o hm hG.N.1 hN10 s1 ha (by omega) (hG.own s1).2 m1 h1 hc hf hf8 hc8
theorem rc_5x {g : GG} {X : va_W} {T : TT} {I : II} {M : Nat} {w : Nat → Int32} {B N E D U : Nat} {xx : Nat → Int32} (hm : isMd T M) (hG : Gd w B N E D U) (hS : Sd w N) (h0 : cdV w B N 5 xx ≠ 0) : Mc g yX10_release cX10_release 5 (some .int) 6 0 0 [.ref M, .int (xx 0), .int (xx 1), .int (xx 2)] X T (sr I (M + 1) w) (Ex (some (.int (nI 0))) X T (sr (u2 I M 0 (nI (cdV w B N 5 xx))) (M + 1) w)) := by
  have ha := slV_at w N (xx 0)
  have e : cdV w B N 5 xx = fRelease w (slV w N (xx 0)) (xx 1) (xx 2) := rfl
  rw [e]
  rcases atS_or ha with ⟨s, s1, s2, -⟩ | s2
  · rw [s2] at ha
    rw [s2]
    exact c_release__y hm hG.N.1 hG.N.2 s1 ha (by rw [← s2]; exact h0)
  · rw [s2] at ha
    rw [s2]
    exact c_release__x hm hG.N.1 hG.N.2 ha (by rw [← s2]; exact h0)
theorem cdm_5 {w x : Nat → Int32} {B N : Nat} : cdV w B N 5 x ≤ 4 := by
  simp only [cdV, fRelease]
  repeat' split
  all_goals omega
theorem cdc_5 {w x : Nat → Int32} {B N : Nat} (z : cdV w B N 5 x ≠ 0) : cdV w B N 5 x ≤ [1, 2, 3, 4].length ∧ [1, 2, 3, 4].getD (cdV w B N 5 x - 1) 0 = ftV 5 (cdV w B N 5 x) := by
  have hb := cdm_5 (w := w) (x := x) (B := B) (N := N)
  generalize cdV w B N 5 x = f at *
  match f, hb, z with
  | 0, _, z => exact absurd rfl z
  | 1, _, _ => exact ⟨by decide, rfl⟩
  | 2, _, _ => exact ⟨by decide, rfl⟩
  | 3, _, _ => exact ⟨by decide, rfl⟩
  | 4, _, _ => exact ⟨by decide, rfl⟩
  | f + 5, hb, _ => exact absurd hb (by omega)
theorem op_release {g : GG} {X : va_W} {T : TT} {I : II} {x M n : Nat} {s : AS} (h : Iv x M T I s s n) (hn : n < 512) (i_ k_ u_ : Int32) : Op g x M n s yX9_release cX9_release 4 (some .int) yX10_release cX10_release 5 (some .int) [.int i_, .int k_, .int u_] [1, 2, 3, 4] X T I :=
  Op.ch (i := 5) (xx := fun j => match j with | 0 => i_ | 1 => k_ | _ => u_) (d := 6) h hn (by decide) (by decide) (by decide) (fun B N z => cdc_5 z)
    (fun h1 h2 h3 h4 h5 h6 h7 h8 h9 h10 h11 h12 h0 => q_release__o h.1 h1 h2 h3 h4 h5 h6 h7 h8 h9 h10 h11 h0)
    (fun h1 h2 h3 h4 h5 h6 h7 h8 h9 h10 h11 h12 h0 => q_release__x h.1 h1 h2 h3 h4 h5 h6 h7 h8 h9 h10 h11 h0)
    (fun hm hG hS hD hc hf hf8 hc8 h0 => rc_5o hm hG hS hD hc hf hf8 hc8 h0)
    (fun hm hG hS h0 => rc_5x hm hG hS h0)
theorem rc_6o {g : GG} {X : va_W} {T : TT} {I : II} {M : Nat} {w : Nat → Int32} {B N E D U : Nat} {xx : Nat → Int32} (hm : isMd T M) (hG : Gd w B N E D U) (hS : Sd w N) (hD : D + 60 ≤ 100000) {c f : Nat} (hc : I M 5 = nI c) (hf : I M 6 = nI f) (hf8 : f < 8) (hc8 : c ≤ 8) (h0 : cdV w B N 6 xx = 0) : Mc g yX10_repay cX10_repay 4 (some .int) 6 0 0 [.ref M, .int (xx 0), .int (xx 1)] X T (sr I (M + 1) w) (Ex (some (.int (chA w B N E 6 xx))) X T (sr (rmF (u2 I M 0 (nI 0)) M w c f) (M + 1) (chR w B N E 6 xx))) := by
  obtain ⟨hr_, -, -⟩ := fRepay_ok h0
  have hB6 := hG.B.2
  have hN10 := hG.N.2
  have ha := slV_at w N (xx 0)
  obtain ⟨s, s1, s2, -⟩ := (atS_or ha).resolve_right (fun z => hr_ (by rw [z]; decide))
  have hb := (hG.own s1).1
  have es : slN w N (xx 0) = s := by rw [slN, s2]; exact cl_n (by omega)
  rw [s2] at ha
  have hre := etV_at (rpB w s (bN w s) (xx 1)) E (w 0) (xx 0)
  have er : reV w N E (xx 0) (xx 1) = etV (rpB w s (bN w s) (xx 1)) E (w 0) (xx 0) := by rw [reV, es]
  have hA : chA w B N E 6 xx = debtV (rpC w E s (bN w s) (xx 0) (xx 1) (etV (rpB w s (bN w s) (xx 1)) E (w 0) (xx 0))) s := by
    show debtV (rpC w E (slN w N (xx 0)) (bN w (slN w N (xx 0))) (xx 0) (xx 1) (reV w N E (xx 0) (xx 1))) (slN w N (xx 0)) = _
    rw [er, es]
  have hR : chR w B N E 6 xx = rpV w N E s (bN w s) (xx 0) (xx 1) (etV (rpB w s (bN w s) (xx 1)) E (w 0) (xx 0)) := by
    show rpV w N E (slN w N (xx 0)) (bN w (slN w N (xx 0))) (xx 0) (xx 1) (reV w N E (xx 0) (xx 1)) = _
    rw [er, es]
  have h1 : fRepay w (nI s) (xx 1) = 0 := by rw [← s2]; exact h0
  rw [hA, hR]
  exact c_repay__o hm hG.N.1 hN10 s1 ha (by omega) (hG.own s1).2 hG.E.1 hG.E.2 hre h1 hc hf hf8 hc8
theorem rc_6x {g : GG} {X : va_W} {T : TT} {I : II} {M : Nat} {w : Nat → Int32} {B N E D U : Nat} {xx : Nat → Int32} (hm : isMd T M) (hG : Gd w B N E D U) (hS : Sd w N) (h0 : cdV w B N 6 xx ≠ 0) : Mc g yX10_repay cX10_repay 4 (some .int) 6 0 0 [.ref M, .int (xx 0), .int (xx 1)] X T (sr I (M + 1) w) (Ex (some (.int (nI 0))) X T (sr (u2 I M 0 (nI (cdV w B N 6 xx))) (M + 1) w)) := by
  have ha := slV_at w N (xx 0)
  have e : cdV w B N 6 xx = fRepay w (slV w N (xx 0)) (xx 1) := rfl
  rw [e]
  rcases atS_or ha with ⟨s, s1, s2, -⟩ | s2
  · rw [s2] at ha
    rw [s2]
    exact c_repay__y hm hG.N.1 hG.N.2 s1 ha (Nat.lt_of_lt_of_le (hG.own s1).1 hG.B.2) (hG.own s1).2 (by rw [← s2]; exact h0)
  · rw [s2] at ha
    rw [s2]
    exact c_repay__x hm hG.N.1 hG.N.2 ha (by rw [← s2]; exact h0)
theorem cdm_6 {w x : Nat → Int32} {B N : Nat} : cdV w B N 6 x ≤ 3 := by
  simp only [cdV, fRepay]
  repeat' split
  all_goals omega
theorem cdc_6 {w x : Nat → Int32} {B N : Nat} (z : cdV w B N 6 x ≠ 0) : cdV w B N 6 x ≤ [1, 3, 4].length ∧ [1, 3, 4].getD (cdV w B N 6 x - 1) 0 = ftV 6 (cdV w B N 6 x) := by
  have hb := cdm_6 (w := w) (x := x) (B := B) (N := N)
  generalize cdV w B N 6 x = f at *
  match f, hb, z with
  | 0, _, z => exact absurd rfl z
  | 1, _, _ => exact ⟨by decide, rfl⟩
  | 2, _, _ => exact ⟨by decide, rfl⟩
  | 3, _, _ => exact ⟨by decide, rfl⟩
  | f + 4, hb, _ => exact absurd hb (by omega)
theorem op_repay {g : GG} {X : va_W} {T : TT} {I : II} {x M n : Nat} {s : AS} (h : Iv x M T I s s n) (hn : n < 512) (i_ c_ : Int32) : Op g x M n s yX9_repay cX9_repay 3 (some .int) yX10_repay cX10_repay 4 (some .int) [.int i_, .int c_] [1, 3, 4] X T I :=
  Op.ch (i := 6) (xx := fun j => match j with | 0 => i_ | _ => c_) (d := 6) h hn (by decide) (by decide) (by decide) (fun B N z => cdc_6 z)
    (fun h1 h2 h3 h4 h5 h6 h7 h8 h9 h10 h11 h12 h0 => q_repay__o h.1 h1 h2 h3 h4 h5 h6 h7 h8 h9 h10 h11 h0)
    (fun h1 h2 h3 h4 h5 h6 h7 h8 h9 h10 h11 h12 h0 => q_repay__x h.1 h1 h2 h3 h4 h5 h6 h7 h8 h9 h10 h11 h0)
    (fun hm hG hS hD hc hf hf8 hc8 h0 => rc_6o hm hG hS hD hc hf hf8 hc8 h0)
    (fun hm hG hS h0 => rc_6x hm hG hS h0)
theorem rc_7o {g : GG} {X : va_W} {T : TT} {I : II} {M : Nat} {w : Nat → Int32} {B N E D U : Nat} {xx : Nat → Int32} (hm : isMd T M) (hG : Gd w B N E D U) (hS : Sd w N) (hD : D + 60 ≤ 100000) {c f : Nat} (hc : I M 5 = nI c) (hf : I M 6 = nI f) (hf8 : f < 8) (hc8 : c ≤ 8) (h0 : cdV w B N 7 xx = 0) : Mc g yX10_buy cX10_buy 5 (some .int) 6 0 0 [.ref M, .int (xx 0), .int (xx 1), .int (xx 2)] X T (sr I (M + 1) w) (Ex (some (.int (chA w B N E 7 xx))) X T (sr (rmF (u2 I M 0 (nI 0)) M w c f) (M + 1) (chR w B N E 7 xx))) := by
  obtain ⟨hb_, hk_, -⟩ := fBuy_ok h0
  obtain ⟨n, n1, n2⟩ := okB_of hG.B.2 hb_
  obtain ⟨m, m1, m2⟩ := okK_of hk_
  have hB6 := hG.B.2
  have c1 : cl (xx 0) = n := by rw [n2]; exact cl_n (by omega)
  have c2 : cl (xx 1) = m := by rw [m2]; exact cl_n (by omega)
  have hA : chA w B N E 7 xx = xx 2 * w (10 + m) := by
    show xx 2 * w (10 + cl (xx 1)) = _
    rw [c2]
  have hR : chR w B N E 7 xx = buV w n m (xx 2) := by
    show buV w (cl (xx 0)) (cl (xx 1)) (xx 2) = _
    rw [c1, c2]
  rw [hA, hR, n2, m2]
  exact c_buy__o hm hG.B.1 hB6 (by omega) m1 (by rw [← n2, ← m2]; exact h0) hc hf hf8 hc8
theorem rc_7x {g : GG} {X : va_W} {T : TT} {I : II} {M : Nat} {w : Nat → Int32} {B N E D U : Nat} {xx : Nat → Int32} (hm : isMd T M) (hG : Gd w B N E D U) (hS : Sd w N) (h0 : cdV w B N 7 xx ≠ 0) : Mc g yX10_buy cX10_buy 5 (some .int) 6 0 0 [.ref M, .int (xx 0), .int (xx 1), .int (xx 2)] X T (sr I (M + 1) w) (Ex (some (.int (nI 0))) X T (sr (u2 I M 0 (nI (cdV w B N 7 xx))) (M + 1) w)) := by
  exact c_buy__x hm hG.B.1 hG.B.2 h0
theorem cdm_7 {w x : Nat → Int32} {B N : Nat} : cdV w B N 7 x ≤ 3 := by
  simp only [cdV, fBuy]
  repeat' split
  all_goals omega
theorem cdc_7 {w x : Nat → Int32} {B N : Nat} (z : cdV w B N 7 x ≠ 0) : cdV w B N 7 x ≤ [2, 3, 4].length ∧ [2, 3, 4].getD (cdV w B N 7 x - 1) 0 = ftV 7 (cdV w B N 7 x) := by
  have hb := cdm_7 (w := w) (x := x) (B := B) (N := N)
  generalize cdV w B N 7 x = f at *
  match f, hb, z with
  | 0, _, z => exact absurd rfl z
  | 1, _, _ => exact ⟨by decide, rfl⟩
  | 2, _, _ => exact ⟨by decide, rfl⟩
  | 3, _, _ => exact ⟨by decide, rfl⟩
  | f + 4, hb, _ => exact absurd hb (by omega)
theorem op_buy {g : GG} {X : va_W} {T : TT} {I : II} {x M n : Nat} {s : AS} (h : Iv x M T I s s n) (hn : n < 512) (b_ k_ u_ : Int32) : Op g x M n s yX9_buy cX9_buy 4 (some .int) yX10_buy cX10_buy 5 (some .int) [.int b_, .int k_, .int u_] [2, 3, 4] X T I :=
  Op.ch (i := 7) (xx := fun j => match j with | 0 => b_ | 1 => k_ | _ => u_) (d := 6) h hn (by decide) (by decide) (by decide) (fun B N z => cdc_7 z)
    (fun h1 h2 h3 h4 h5 h6 h7 h8 h9 h10 h11 h12 h0 => q_buy__o h.1 h1 h2 h3 h4 h5 h6 h7 h8 h9 h10 h11 h0)
    (fun h1 h2 h3 h4 h5 h6 h7 h8 h9 h10 h11 h12 h0 => q_buy__x h.1 h1 h2 h3 h4 h5 h6 h7 h8 h9 h10 h11 h0)
    (fun hm hG hS hD hc hf hf8 hc8 h0 => rc_7o hm hG hS hD hc hf hf8 hc8 h0)
    (fun hm hG hS h0 => rc_7x hm hG hS h0)
theorem rc_8o {g : GG} {X : va_W} {T : TT} {I : II} {M : Nat} {w : Nat → Int32} {B N E D U : Nat} {xx : Nat → Int32} (hm : isMd T M) (hG : Gd w B N E D U) (hS : Sd w N) (hD : D + 60 ≤ 100000) {c f : Nat} (hc : I M 5 = nI c) (hf : I M 6 = nI f) (hf8 : f < 8) (hc8 : c ≤ 8) (h0 : cdV w B N 8 xx = 0) : Mc g yX10_pass cX10_pass 2 (some .int) 7 0 0 [.ref M, .int (xx 0)] X T (sr I (M + 1) w) (Ex (some (.int (chA w B N E 8 xx))) X T (sr (rmF (u2 I M 0 (nI 0)) M w c f) (M + 1) (chR w B N E 8 xx))) := by
  obtain ⟨t, t1, t2, t3⟩ := okR_of (by decide) (by decide) (fPass_ok h0)
  have c1 : cl (xx 0) = t := by rw [t3]; exact cl_n (by omega)
  have hA : chA w B N E 8 xx = nI (psV t w N 0).2.2 := by
    show nI (psV (cl (xx 0)) w N 0).2.2 = _
    rw [c1]
  have hR : chR w B N E 8 xx = (psV t w N 0).1 := by
    show (psV (cl (xx 0)) w N 0).1 = _
    rw [c1]
  have h1 : fPass (nI t) = 0 := by rw [← t3]; exact h0
  rw [hA, hR, t3]
  exact c_pass__o hm hG hS t2 (by omega) h1 hc hf hf8 hc8
theorem rc_8x {g : GG} {X : va_W} {T : TT} {I : II} {M : Nat} {w : Nat → Int32} {B N E D U : Nat} {xx : Nat → Int32} (hm : isMd T M) (hG : Gd w B N E D U) (hS : Sd w N) (h0 : cdV w B N 8 xx ≠ 0) : Mc g yX10_pass cX10_pass 2 (some .int) 7 0 0 [.ref M, .int (xx 0)] X T (sr I (M + 1) w) (Ex (some (.int (nI 0))) X T (sr (u2 I M 0 (nI (cdV w B N 8 xx))) (M + 1) w)) := by
  have e : cdV w B N 8 xx = 1 := by
    have h1 : fPass (xx 0) ≠ 0 := h0
    show fPass (xx 0) = 1
    unfold fPass at *
    split at h1
    · exact absurd rfl h1
    · rename_i z; rw [if_neg z]
  rw [e]
  exact c_pass__x hm h0
theorem cdm_8 {w x : Nat → Int32} {B N : Nat} : cdV w B N 8 x ≤ 1 := by
  simp only [cdV, fPass]
  repeat' split
  all_goals omega
theorem cdc_8 {w x : Nat → Int32} {B N : Nat} (z : cdV w B N 8 x ≠ 0) : cdV w B N 8 x ≤ [3].length ∧ [3].getD (cdV w B N 8 x - 1) 0 = ftV 8 (cdV w B N 8 x) := by
  have hb := cdm_8 (w := w) (x := x) (B := B) (N := N)
  generalize cdV w B N 8 x = f at *
  match f, hb, z with
  | 0, _, z => exact absurd rfl z
  | 1, _, _ => exact ⟨by decide, rfl⟩
  | f + 2, hb, _ => exact absurd hb (by omega)
theorem op_pass {g : GG} {X : va_W} {T : TT} {I : II} {x M n : Nat} {s : AS} (h : Iv x M T I s s n) (hn : n < 512) (t_ : Int32) : Op g x M n s yX9_pass cX9_pass 2 (some .int) yX10_pass cX10_pass 2 (some .int) [.int t_] [3] X T I :=
  Op.ch (i := 8) (xx := fun _ => t_) (d := 7) h hn (by decide) (by decide) (by decide) (fun B N z => cdc_8 z)
    (fun h1 h2 h3 h4 h5 h6 h7 h8 h9 h10 h11 h12 h0 => q_pass__o h.1 h1 h2 h3 h4 h5 h6 h7 h8 h9 h10 h11 h12 h0)
    (fun h1 h2 h3 h4 h5 h6 h7 h8 h9 h10 h11 h12 h0 => q_pass__x h.1 h1 h2 h3 h4 h5 h6 h7 h8 h9 h10 h11 h12 h0)
    (fun hm hG hS hD hc hf hf8 hc8 h0 => rc_8o hm hG hS hD hc hf hf8 hc8 h0)
    (fun hm hG hS h0 => rc_8x hm hG hS h0)
