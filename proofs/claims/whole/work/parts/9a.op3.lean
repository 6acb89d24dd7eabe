/-! The changes on both sides. -/
theorem nI_j {a b : Nat} (ha : a < 2 ^ 31) (hb : b < 2 ^ 31) (h : nI a = nI b) : a = b := by
  have h2 := congrArg cl h
  rwa [cl_n ha, cl_n hb] at h2
/-- the list with one more in front, eight at most -/
def p8 (w : Nat → Int32) (us : List (Nat → Int32)) : List (Nat → Int32) := (w :: us).take 8
theorem p8_len {w : Nat → Int32} {us : List (Nat → Int32)} (h : us.length ≤ 8) : (p8 w us).length = hsC us.length := by
  unfold p8 hsC
  rw [List.length_take, List.length_cons]
  split <;> omega
theorem p8_0 {w u : Nat → Int32} {us : List (Nat → Int32)} (h : (p8 w us)[0]? = some u) : u = w := by
  unfold p8 at h
  rw [List.getElem?_take, if_pos (by decide), List.getElem?_cons_zero] at h
  exact (Option.some.inj h).symm
theorem p8_s {w u : Nat → Int32} {us : List (Nat → Int32)} {k : Nat} (h : (p8 w us)[k + 1]? = some u) : k < 7 ∧ us[k]? = some u := by
  unfold p8 at h
  rw [List.getElem?_take, List.getElem?_cons_succ] at h
  by_cases e : k + 1 < 8
  · rw [if_pos e] at h
    exact ⟨by omega, h⟩
  · rw [if_neg e] at h
    exact absurd h (by simp)
theorem hsN_8 {n : Nat} (h : n < 8) : hsN n < 8 := by unfold hsN; split <;> omega
/-- the class's ring with one more -/
theorem hs_push {I I' : II} {x n D U D' U' : Nat} {us : List (Nat → Int32)} {w : Nat → Int32} (hn : n < 8) (b5 : ∀ k u, us[k]? = some u → DkH I (x + 169 + 2 + 42 * ((n + 7 - k) % 8)) u ∧ Gx u D U) (hd : DkH I' (x + 169 + 2 + 42 * n) w) (hG : Gx w D U) (hD : D ≤ D') (hU : U ≤ U') (hD1 : D' ≤ 100000) (hU1 : U' ≤ 10000) (e : ∀ q, x + 171 ≤ q → q < x + 507 → ¬ (x + 169 + 2 + 42 * n ≤ q ∧ q < x + 169 + 2 + 42 * n + 42) → I' q = I q) : ∀ k u, (p8 w us)[k]? = some u → DkH I' (x + 169 + 2 + 42 * ((hsN n + 7 - k) % 8)) u ∧ Gx u D' U' := by
  intro k u hu
  match k, hu with
  | 0, hu =>
    have e1 := p8_0 hu
    subst e1
    rw [show (hsN n + 7 - 0) % 8 = n by unfold hsN; split <;> omega]
    exact ⟨hd, hG.w hD hU hD1 hU1⟩
  | k + 1, hu =>
    obtain ⟨hk, h2⟩ := p8_s hu
    obtain ⟨a, b⟩ := b5 k u h2
    rw [show (hsN n + 7 - (k + 1)) % 8 = (n + 7 - k) % 8 by unfold hsN; split <;> omega]
    have hz : (n + 7 - k) % 8 ≠ n := by omega
    have hz8 : (n + 7 - k) % 8 < 8 := by omega
    generalize (n + 7 - k) % 8 = z at a hz hz8
    exact ⟨a.mv (fun q hq => e q (by omega) (by omega) (by omega)), b.w hD hU hD1 hU1⟩
/-- the reference's ring with one more -/
theorem kp_ring {K : II} {M f : Nat} {us : List (Nat → Int32)} {w : Nat → Int32} (hf8 : f < 8) (h4 : us.length ≤ 8) (h6 : K M 6 = nI f) (hw : ∀ j, j < 218 → K (M + 4) j = w j) (b5 : ∀ k u, us[k]? = some u → ∀ j, j < 218 → K (M + 2) (218 * ((f + (us.length - 1 - k)) % 8) + j) = u j) : ∃ f', f' < 8 ∧ kpI K M us.length f M 6 = nI f' ∧ kpI K M us.length f M 5 = nI (p8 w us).length ∧ (p8 w us).length ≤ 8 ∧ ∀ k u, (p8 w us)[k]? = some u → ∀ j, j < 218 → kpI K M us.length f (M + 2) (218 * ((f' + ((p8 w us).length - 1 - k)) % 8) + j) = u j := by
  have hl := p8_len (w := w) h4
  by_cases e8 : us.length = 8
  · refine ⟨(f + 1) % 8, by omega, ?_, ?_, by rw [hl]; unfold hsC; split <;> omega, ?_⟩
    · unfold kpI; rw [if_pos e8, sr_n (show M ≠ M + 2 by omega), u2_o (by decide), u2_g]
    · unfold kpI; rw [if_pos e8, sr_n (show M ≠ M + 2 by omega), u2_g, hl, e8]; rfl
    · intro k u hu j hj
      rw [hl, e8, show hsC 8 = 8 from rfl]
      unfold kpI
      rw [if_pos rfl, sr_s]
      match k, hu with
      | 0, hu =>
        have e1 := p8_0 hu
        subst e1
        rw [show (8 : Nat) - 1 - 0 = 7 by rfl]
        unfold ins
        rw [if_pos (by omega), Nat.add_sub_cancel_left]
        exact hw j hj
      | k + 1, hu =>
        obtain ⟨hk, h2⟩ := p8_s hu
        have h3 := b5 k u h2 j hj
        rw [e8] at h3
        rw [show ((f + 1) % 8 + (8 - 1 - (k + 1))) % 8 = (f + (8 - 1 - k)) % 8 by omega]
        have hz : (f + (8 - 1 - k)) % 8 ≠ ((f + 1) % 8 + 7) % 8 := by omega
        generalize (f + (8 - 1 - k)) % 8 = z at h3 hz
        generalize ((f + 1) % 8 + 7) % 8 = y at hz
        unfold ins
        rw [if_neg (by omega)]
        exact h3
  · refine ⟨f, hf8, ?_, ?_, by rw [hl]; unfold hsC; split <;> omega, ?_⟩
    · unfold kpI; rw [if_neg e8, sr_n (show M ≠ M + 2 by omega), u2_o (by decide)]; exact h6
    · unfold kpI; rw [if_neg e8, sr_n (show M ≠ M + 2 by omega), u2_g, hl]; unfold hsC; rw [if_pos (by omega)]
    · intro k u hu j hj
      rw [hl, show hsC us.length = us.length + 1 by unfold hsC; rw [if_pos (by omega)]]
      unfold kpI
      rw [if_neg e8, sr_s]
      match k, hu with
      | 0, hu =>
        have e1 := p8_0 hu
        subst e1
        rw [show us.length + 1 - 1 - 0 = us.length by omega]
        unfold ins
        rw [if_pos (by omega), Nat.add_sub_cancel_left]
        exact hw j hj
      | k + 1, hu =>
        obtain ⟨hk, h2⟩ := p8_s hu
        have h3 := b5 k u h2 j hj
        have hkl : k < us.length := by
          rcases Nat.lt_or_ge k us.length with z | z
          · exact z
          · rw [List.getElem?_eq_none z] at h2
            exact absurd h2 (by simp)
        rw [show us.length + 1 - 1 - (k + 1) = us.length - 1 - k by omega]
        have hz : (f + (us.length - 1 - k)) % 8 ≠ (f + us.length) % 8 := by omega
        generalize (f + (us.length - 1 - k)) % 8 = z at h3 hz
        generalize (f + us.length) % 8 = y at hz
        unfold ins
        rw [if_neg (by omega)]
        exact h3
theorem kp_o {K : II} {M c f q : Nat} (h0 : q ≠ M) (h2 : q ≠ M + 2) : kpI K M c f q = K q := by
  unfold kpI
  split
  · rw [sr_n h2, u2_r h0, u2_r h0]
  · rw [sr_n h2, u2_r h0]
theorem kp_f {K : II} {M c f j : Nat} (h5 : j ≠ 5) (h6 : j ≠ 6) : kpI K M c f M j = K M j := by
  unfold kpI
  split
  · rw [sr_n (show M ≠ M + 2 by omega), u2_o h5, u2_o h6]
  · rw [sr_n (show M ≠ M + 2 by omega), u2_o h5]
/-- the store in which the reference has changed its row and kept the old one -/
theorem RS.push {I K : II} {M f : Nat} {s : AS} {w' : Nat → Int32} {bf' : List Nat} (h : RS I M s) (hf8 : f < 8) (h6 : I M 6 = nI f) (b5 : ∀ k u, s.us[k]? = some u → ∀ j, j < 218 → I (M + 2) (218 * ((f + (s.us.length - 1 - k)) % 8) + j) = u j) (e0 : ∀ j, j ≠ 0 → j ≠ 11 → j ≠ 12 → j ≠ 16 → j ≠ 17 → K M j = I M j) (e1 : K (M + 1) = w') (e2 : K (M + 2) = I (M + 2)) (e3 : K (M + 3) = I (M + 3)) (e4 : ∀ j, j < 218 → K (M + 4) j = s.w j) (e5 : K (M + 5) = I (M + 5)) (hbf : K M 11 = nI bf'.length ∧ bf'.length ≤ 60 ∧ (∀ j, j < bf'.length → K (M + 6) j = nI (bf'.getD j 0)) ∧ ∀ j, j < bf'.length → bf'.getD j 0 < 128) : RS (kpI K M s.us.length f) M (w', p8 s.w s.us, s.sv, s.ln, bf', s.ea, s.fa) := by
  obtain ⟨a, ⟨f0, b1, b2, b3, b4, b5x⟩, c, ⟨d1, d2, d3, d4⟩, -, l1, l2⟩ := h
  have e0' : ∀ j, j ≠ 0 → j ≠ 5 → j ≠ 6 → j ≠ 11 → j ≠ 12 → j ≠ 16 → j ≠ 17 → kpI K M s.us.length f M j = I M j := fun j h0 h5 h6 h1 h2 h3 h4 => (kp_f h5 h6).trans (e0 j h0 h1 h2 h3 h4)
  refine ⟨(kp_o (by omega) (by omega)).trans e1, kp_ring hf8 b4 ((e0 6 (by decide) (by decide) (by decide) (by decide) (by decide)).trans h6) e4 (by rw [e2]; exact b5), ?_, ⟨(e0' 9 (by decide) (by decide) (by decide) (by decide) (by decide) (by decide) (by decide)).trans d1, d2, fun j hj => by rw [kp_o (by omega) (by omega), e5]; exact d3 j hj, d4⟩, ⟨(kp_f (by decide) (by decide)).trans hbf.1, hbf.2.1, fun j hj => by rw [kp_o (by omega) (by omega)]; exact hbf.2.2.1 j hj, hbf.2.2.2⟩, (e0' 13 (by decide) (by decide) (by decide) (by decide) (by decide) (by decide) (by decide)).trans l1, (e0' 14 (by decide) (by decide) (by decide) (by decide) (by decide) (by decide) (by decide)).trans l2⟩
  rcases c with ⟨c1, c2⟩ | ⟨v, c1, c2, c3⟩
  · exact Or.inl ⟨c1, (e0' 7 (by decide) (by decide) (by decide) (by decide) (by decide) (by decide) (by decide)).trans c2⟩
  · exact Or.inr ⟨v, c1, (e0' 7 (by decide) (by decide) (by decide) (by decide) (by decide) (by decide) (by decide)).trans c2, fun j hj => by rw [kp_o (by omega) (by omega), e3]; exact c3 j hj⟩
/-- the copy for the case of a refusal alone has changed -/
theorem CSt.c43 {I I' : II} {x : Nat} {s : AS} {D U : Nat} (h : CSt I x s D U) (e : ∀ q, ¬ (x + 43 ≤ q ∧ q < x + 43 + 42) → I' q = I q) (hp : ∃ p, PmOk I' (x + 43) p) : CSt I' x s D U := by
  obtain ⟨a1, a2, a3, a4, a5, a6, ⟨n, b1, b2, b3, b4, b5⟩, c, ⟨v, d1, d2⟩, ⟨k1, k2, k3, k4⟩, l1, l2, l3, l4⟩ := h
  have e0 := e x (by omega)
  refine ⟨a1.mv (fun q hq => e q (by omega)), a2, hp, PmOk.ex a4 (e _ (by omega)), PmOk.ex a5 (e _ (by omega)), fun i hi => PmOk.ex (a6 i hi) (e _ (by omega)), ⟨n, b1, by rw [e _ (by omega)]; exact b2, by rw [e _ (by omega)]; exact b3, b4, fun k u hu => ⟨(b5 k u hu).1.mv (fun q hq => e q (by omega)), (b5 k u hu).2⟩⟩, ?_, ⟨v, d1, by rw [e _ (by omega)]; exact d2⟩, ⟨by rw [e0]; exact k1, k2, fun j hj => by rw [e _ (by omega)]; exact k3 j hj, k4⟩, by rw [e0]; exact l1, by rw [e0]; exact l2, l3, l4⟩
  rcases c with ⟨c1, c2⟩ | ⟨w, c1, c2, c3, c4⟩
  · exact Or.inl ⟨c1, by rw [e0]; exact c2⟩
  · exact Or.inr ⟨w, c1, by rw [e0]; exact c2, c3.mv (fun q hq => e q (by omega)), c4⟩
/-- the class's object has a new row, and the old one in its ring -/
theorem CSt.push {I I' : II} {x n : Nat} {s : AS} {D U D' U' : Nat} {w' : Nat → Int32} {bf' : List Nat} (h : CSt I x s D U) (hn : n < 8) (h1 : I (x + 169) 1 = nI n) (hw : DkH I' (x + 1) w') (hG : Gx w' D' U') (hD : D ≤ D') (hU : U ≤ U') (hD1 : D' ≤ 100000) (hU1 : U' ≤ 10000) (p43 : ∃ p, PmOk I' (x + 43) p) (hd : DkH I' (x + 169 + 2 + 42 * n) s.w) (e1 : I' (x + 169) 1 = nI (hsN n)) (e0 : I' (x + 169) 0 = nI (hsC s.us.length)) (e : ∀ q, x + 85 ≤ q → q < x + 507 → ¬ (x + 169 + 2 + 42 * n ≤ q ∧ q < x + 169 + 2 + 42 * n + 42) → q ≠ x + 169 → I' q = I q) (ev : ∃ v, v < 9 ∧ I' (x + 507) 1 = nI v) (hbf : I' x 8 = nI bf'.length ∧ bf'.length ≤ 60 ∧ (∀ j, j < bf'.length → I' (x + 510) j = nI (bf'.getD j 0)) ∧ ∀ j, j < bf'.length → bf'.getD j 0 < 128) (ex : ∀ j, j ≠ 8 → I' x j = I x j) : CSt I' x (w', p8 s.w s.us, s.sv, s.ln, bf', s.ea, s.fa) D' U' := by
  obtain ⟨a1, a2, a3, a4, a5, a6, ⟨n', b1, b2, b3, b4, b5⟩, c, -, -, l1, l2, l3, l4⟩ := h
  have hnn : n' = n := nI_j (by omega) (by omega) (b2.symm.trans h1)
  subst hnn
  have hl := p8_len (w := s.w) b4
  refine ⟨hw, hG, p43, PmOk.ex a4 (e _ (by omega) (by omega) (by omega) (by omega)), PmOk.ex a5 (e _ (by omega) (by omega) (by omega) (by omega)), fun i hi => ?_, ⟨hsN n', hsN_8 hn, e1, by rw [e0]; exact congrArg nI hl.symm, by show (p8 s.w s.us).length ≤ 8; rw [hl]; unfold hsC; split <;> omega, hs_push hn b5 hd a2 hD hU hD1 hU1 (fun q q1 q2 q3 => e q (by omega) q2 q3 (by omega))⟩, ?_, ev, hbf, (ex 10 (by decide)).trans l1, (ex 11 (by decide)).trans l2, l3, l4⟩
  · by_cases hi2 : i = n'
    · subst hi2
      obtain ⟨p, hp⟩ := hd
      exact ⟨p, hp.pk⟩
    · exact PmOk.ex (a6 i hi) (e _ (by omega) (by omega) (by omega) (by omega))
  · rcases c with ⟨c1, c2⟩ | ⟨w, c1, c2, c3, c4⟩
    · exact Or.inl ⟨c1, (ex 9 (by decide)).trans c2⟩
    · exact Or.inr ⟨w, c1, (ex 9 (by decide)).trans c2, c3.mv (fun q hq => e q (by omega) (by omega) (by omega) (by omega)), c4.w hD hU hD1 hU1⟩
section G9A
variable {g : GG} {X : va_W} {T : TT} {I : II} {x M n : Nat} {s : AS}
/-- a change on both sides -/
theorem Op.ch {yC yR : MethodName} {cC cR : ByteArray} {mC mR d i : Nat} {args : List Value} {code : List Nat} {xx : Nat → Int32} (h : Iv x M T I s s n) (hn : n < 512) (hi : i < 9) (hd : d ≤ 12) (hc0 : code ≠ [])
    (hcode : ∀ B N, cdV s.w B N i xx ≠ 0 → cdV s.w B N i xx ≤ code.length ∧ code.getD (cdV s.w B N i xx - 1) 0 = ftV i (cdV s.w B N i xx))
    (HO : ∀ {B N E D U m c : Nat} {pm p43 ph : Nat → Nat}, m < 8 → c ≤ 8 → I (x + 169) 1 = nI m → I (x + 169) 0 = nI c → s.w 1 = nI B → s.w 2 = nI N → DV I (x + 1) s.w B N E pm → Gd s.w B N E D U → Sd s.w N → PmOk I (x + 43) p43 → PmOk I (x + 169 + 2 + 42 * m) ph → D + 60 ≤ 100000 → cdV s.w B N i xx = 0 → Mx g yC cC mC (some .int) 9 0 0 (.ref x :: args) X T I (KO I x m c i X T s.w B N E xx p43 ph) NoX)
    (HX : ∀ {B N E D U m c : Nat} {pm p43 ph : Nat → Nat}, m < 8 → c ≤ 8 → I (x + 169) 1 = nI m → I (x + 169) 0 = nI c → s.w 1 = nI B → s.w 2 = nI N → DV I (x + 1) s.w B N E pm → Gd s.w B N E D U → Sd s.w N → PmOk I (x + 43) p43 → PmOk I (x + 169 + 2 + 42 * m) ph → D + 60 ≤ 100000 → cdV s.w B N i xx ≠ 0 → Mx g yC cC mC (some .int) 9 1 6 (.ref x :: args) X T I No (KX I x i (cdV s.w B N i xx) X T s.w B N E p43))
    (RO_ : ∀ {X' : va_W} {T' : TT} {I' : II} {B N E D U c f : Nat}, isMd T' M → Gd s.w B N E D U → Sd s.w N → D + 60 ≤ 100000 → I' M 5 = nI c → I' M 6 = nI f → f < 8 → c ≤ 8 → cdV s.w B N i xx = 0 → Mc g yR cR mR (some .int) d 0 0 (.ref M :: args) X' T' (sr I' (M + 1) s.w) (Ex (some (.int (chA s.w B N E i xx))) X' T' (sr (rmF (u2 I' M 0 (nI 0)) M s.w c f) (M + 1) (chR s.w B N E i xx))))
    (RX_ : ∀ {X' : va_W} {T' : TT} {I' : II} {B N E D U : Nat}, isMd T' M → Gd s.w B N E D U → Sd s.w N → cdV s.w B N i xx ≠ 0 → Mc g yR cR mR (some .int) d 0 0 (.ref M :: args) X' T' (sr I' (M + 1) s.w) (Ex (some (.int (nI 0))) X' T' (sr (u2 I' M 0 (nI (cdV s.w B N i xx))) (M + 1) s.w))) :
    Op g x M n s yC cC mC (some .int) yR cR mR (some .int) args code X T I := by
  have hI := h
  obtain ⟨hcl, hmd, hxM, ⟨D, U, hC, hB1, hB2⟩, hSB, hR⟩ := h
  have hC0 := hC
  obtain ⟨a1, ⟨B, N, E, hG, hS⟩, ⟨p43, a3⟩, a4, a5, a6, ⟨m, b1, b2, b3, b4, b5⟩, c, vv, bfv, l1, l2, l3, l4⟩ := hC
  obtain ⟨pm, hV⟩ := a1.dv hG
  obtain ⟨ph, a6m⟩ := a6 m b1
  have hDD : D + 60 ≤ 100000 ∧ U + 1 ≤ 10000 := by omega
  by_cases h0 : cdV s.w B N i xx = 0
  · have hq := HO b1 b4 b2 b3 hG.B.1 hG.N.1 hV hG hS a3 a6m hDD.1 h0
    obtain ⟨g1, g2⟩ := hG.chx hS h0 hi hDD.1 hDD.2
    refine ⟨0, .int (chA s.w B N E i xx), (chR s.w B N E i xx, p8 s.w s.us, s.sv, s.ln, s.bf, s.ea, s.fa), ⟨Nat.zero_le _, fun _ => ⟨_, rfl⟩⟩, OpC.val hq ⟨by decide, by decide, by decide⟩ (fun r X' T' I' q => ?_), fun X9 T' I' h' => ?_⟩
    · obtain ⟨q1, q2, q3, J1, J2, J3, pm', w1, w2, w3, q4⟩ := q
      refine ⟨q1, q2, ?_⟩
      subst q3
      have eI : ∀ q, q ≠ x + 169 → I' q = J3 q := fun q hq => by rw [q4, u2_r hq, u2_r hq]
      have eJ : ∀ q, ¬ (x + 1 ≤ q ∧ q < x + 85) → q ≠ x + 169 → ¬ (x + 169 + 2 + 42 * m ≤ q ∧ q < x + 169 + 2 + 42 * m + 42) → I' q = I q := fun q h1 h2 h3 => by rw [eI q h2, w3.1 q h3, w2.1 q (by omega), w1.1 q (by omega)]
      have ex : I' x = I x := eJ x (by omega) (by omega) (by omega)
      refine hI.cF (fun q hq => eJ q (by omega) (by omega) (by omega)) (hC0.push (w' := chR s.w B N E i xx) (D' := D + 60) (U' := U + 1) b1 b2 ((DkH.of w2.toV g1).mv (fun q hq => by rw [eI q (by omega), w3.1 q (by omega)])) ⟨_, _, _, g1, g2⟩ (by omega) (by omega) hDD.1 hDD.2 ⟨p43, w1.toV.pk.mv (by rw [eI _ (by omega), w3.1 _ (by omega), w2.1 _ (by omega)])⟩ ((DkH.of w3.toV hG).mv (fun q hq => eI q (by omega))) (by rw [q4, u2_o (by decide), u2_g]) (by rw [q4, u2_g]) (fun q h1 h2 h3 h4 => eJ q (by omega) h4 h3) ?_ ?_ (fun j _ => by rw [ex])) ⟨?_, ?_⟩ rfl
      · obtain ⟨v, v1, v2⟩ := vv
        exact ⟨v, v1, by rw [eJ _ (by omega) (by omega) (by omega)]; exact v2⟩
      · rw [ex, eJ (x + 510) (by omega) (by omega) (by omega)]; exact bfv
      · show D + 60 + 60 * s.bf.length ≤ 60 * (n + 1); omega
      · show U + 1 + s.bf.length ≤ n + 1; omega
    · have hR' := h'.2.2.2.2.2
      obtain ⟨r1, ⟨f, f1, f2, f3, f4, f5⟩, r3, r4, r5, r6, r7⟩ := id hR'
      have hm' := RO_ (X' := X9) (I' := I') h'.2.1 hG hS hDD.1 f3 f2 f1 f4 h0
      rw [show sr I' (M + 1) s.w = I' by rw [← r1, sr_id]] at hm'
      have eq1 : sr (rmF (u2 I' M 0 (nI 0)) M s.w s.us.length f) (M + 1) (chR s.w B N E i xx) = kpI (sr (sr (u2 I' M 0 (nI 0)) (M + 4) (ins (u2 I' M 0 (nI 0) (M + 4)) 0 s.w 218)) (M + 1) (chR s.w B N E i xx)) M s.us.length f := by rw [kpI_sr]; rfl
      refine ⟨.int (chA s.w B N E i xx), ⟨fun _ => rfl, ⟨_, rfl⟩⟩, d, hd, hm'.imp (fun r X'' T'' I'' q => ?_)⟩
      obtain ⟨q1, q2, q3, q4⟩ := q
      subst q2; subst q3
      have hz : I'' = kpI (sr (sr (u2 I' M 0 (nI 0)) (M + 4) (ins (u2 I' M 0 (nI 0) (M + 4)) 0 s.w 218)) (M + 1) (chR s.w B N E i xx)) M s.us.length f := q4.trans eq1
      refine ⟨q1, rfl, rfl, fun _ => ?_, h'.rF (fun q hq => ?_) ?_⟩
      · rw [hz, kp_f (by decide) (by decide), sr_n (by omega), sr_n (by omega), u2_g]
      · rw [hz, kp_o (by omega) (by omega), sr_n (by omega), sr_n (by omega), u2_r (by omega)]
      · rw [hz]
        refine hR'.push f1 f2 f5 (fun j j0 _ _ _ _ => by rw [sr_n (by omega), sr_n (by omega), u2_o j0]) sr_s (by rw [sr_n (by omega), sr_n (by omega), u2_r (by omega)]) (by rw [sr_n (by omega), sr_n (by omega), u2_r (by omega)]) (fun j hj => by rw [sr_n (by omega), sr_s]; unfold ins; rw [if_pos (by omega)]; rfl) (by rw [sr_n (by omega), sr_n (by omega), u2_r (by omega)]) ?_
        rw [sr_n (show M ≠ M + 1 by omega), sr_n (show M ≠ M + 4 by omega), u2_o (by decide), sr_n (show M + 6 ≠ M + 1 by omega), sr_n (show M + 6 ≠ M + 4 by omega), u2_r (by omega)]
        exact r5
  · have hq := HX b1 b4 b2 b3 hG.B.1 hG.N.1 hV hG hS a3 a6m hDD.1 h0
    obtain ⟨k1, k2⟩ := hcode B N h0
    refine ⟨cdV s.w B N i xx, .null, s, ⟨k1, fun z => absurd z h0⟩, OpC.thr hq h0 ⟨by decide, by decide, by decide⟩ (fun c' X' T' I' q => ?_), fun X9 T' I' h' => ?_⟩
    · obtain ⟨q1, q2, q3, w1⟩ := q
      subst q3
      exact ⟨by rw [k2]; exact q1, q2, (hI.cF (fun q hq => w1.1 q (by omega)) (hC0.c43 w1.1 ⟨p43, w1.toV.pk⟩) ⟨hB1, hB2⟩ rfl).up (Nat.le_succ n)⟩
    · have hm' := RX_ (X' := X9) (I' := I') h'.2.1 hG hS h0
      exact ⟨_, ⟨fun z => absurd z h0, ⟨_, rfl⟩⟩, OpR.rd (k := cdV s.w B N i xx) h' h'.2.2.2.2.2.1 hd hm'⟩
end G9A
