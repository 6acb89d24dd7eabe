/-! The change of number i: its fault, its counts. -/
def ftV (i f : Nat) : Nat := if f = 0 then 0 else match i with
  | 0 => f + 2
  | 1 => f + 1
  | 2 => f + 1
  | 3 => f + 1
  | 4 => f
  | 5 => f
  | 6 => if f = 1 then 1 else f + 1
  | 7 => f + 1
  | _ => 3
def CH (g : GG) (I0 : II) (b : Nat) (X : va_W) (T : TT) (i f : Nat) (w' : Nat → Int32) (B' N' E' : Nat) (an' : Int32) : PhiT := fun r X' T' I' => X' = X ∧ T' = T ∧ ((f ≠ 0 ∧ r = some (.ref (ga g (ftV i f))) ∧ I' = I0) ∨ (f = 0 ∧ r = some (.ref (ga g 0)) ∧ ∃ pm', DW I0 I' b w' B' N' E' pm' an'))
theorem CH_no {g : GG} {I0 : II} {b : Nat} {X : va_W} {T : TT} {i f c : Nat} {w' : Nat → Int32} {B' N' E' : Nat} {an' : Int32} {v : Nat} (h : f = c) (h0 : c ≠ 0) (hv : ftV i c = v) : CH g I0 b X T i f w' B' N' E' an' (some (.ref (ga g v))) X T I0 := by
  subst h; subst hv
  exact ⟨rfl, rfl, Or.inl ⟨h0, rfl, rfl⟩⟩
theorem CH_ok {g : GG} {I0 I1 : II} {b : Nat} {X : va_W} {T : TT} {i f : Nat} {w' : Nat → Int32} {B' N' E' : Nat} {an' : Int32} {pm' : Nat → Nat} (h : f = 0) (hD : DW I0 I1 b w' B' N' E' pm' an') : CH g I0 b X T i f w' B' N' E' an' (some (.ref (ga g 0))) X T I1 := ⟨rfl, rfl, Or.inr ⟨h, rfl, pm', hD⟩⟩
theorem i_sn {a b : Int32} : a - b = a + -b := by grind
theorem i_0a {a : Int32} : nI 0 + a = a := by rw [nI_0]; exact Int32.zero_add a
theorem i_nn {a : Int32} : -(-a) = a := Int32.neg_neg
theorem val_pg {w : Nat → Int32} {s b m : Nat} {u : Int32} (hb : b < 6) (hm : m < 4) : valV (pgV w s b m (-u)) s = valV w s - u * w (10 + m) := by
  have e : ∀ k, k < 4 → pgV w s b m (-u) (10 + k) = w (10 + k) := fun k hk => by rw [pgV, ad_n (by omega), ad_n (by omega)]
  have e2 : ∀ k, k < 4 → k ≠ m → pgV w s b m (-u) (58 + 10 * s + (6 + k)) = w (58 + 10 * s + (6 + k)) := fun k hk hkm => by rw [pgV, ad_n (by omega), ad_n (by omega)]
  have e3 : pgV w s b m (-u) (58 + 10 * s + (6 + m)) = w (58 + 10 * s + (6 + m)) + -u := by rw [pgV, ad, upd_e, ad_n (by omega)]
  simp only [valV, val4]
  rw [e 0 (by decide), e 1 (by decide), e 2 (by decide), e 3 (by decide)]
  match m, hm with
  | 0, _ => rw [e3, e2 1 (by decide) (by decide), e2 2 (by decide) (by decide), e2 3 (by decide) (by decide)]; grind
  | 1, _ => rw [e3, e2 0 (by decide) (by decide), e2 2 (by decide) (by decide), e2 3 (by decide) (by decide)]; grind
  | 2, _ => rw [e3, e2 0 (by decide) (by decide), e2 1 (by decide) (by decide), e2 3 (by decide) (by decide)]; grind
  | 3, _ => rw [e3, e2 0 (by decide) (by decide), e2 1 (by decide) (by decide), e2 2 (by decide) (by decide)]; grind
theorem i_cov {u q : Int32} : nI 2 * (u * q) = nI 2 * u * q := by rw [Int32.mul_assoc]
theorem not_may {w : Nat → Int32} {N n m : Nat} {u : Int32} (hN : N ≤ 10) (h : ¬ (N < 10 ∧ w (22 + 6 * n + 1) < nI 2 ∧ ¬ w (22 + 6 * n + (2 + m)) < u)) : N = 10 ∨ ¬ w (22 + 6 * n + 1) < nI 2 ∨ w (22 + 6 * n + (2 + m)) < u := by
  by_cases h1 : N = 10
  · exact Or.inl h1
  · by_cases h2 : w (22 + 6 * n + 1) < nI 2
    · by_cases h3 : w (22 + 6 * n + (2 + m)) < u
      · exact Or.inr (Or.inr h3)
      · exact absurd ⟨by omega, h2, h3⟩ h
    · exact Or.inr (Or.inl h2)
theorem may_ok {w : Nat → Int32} {N n m : Nat} {u : Int32} (h : N < 10 ∧ w (22 + 6 * n + 1) < nI 2 ∧ ¬ w (22 + 6 * n + (2 + m)) < u) : ¬ (N = 10 ∨ ¬ w (22 + 6 * n + 1) < nI 2 ∨ w (22 + 6 * n + (2 + m)) < u) := fun z => by
  rcases z with z | z | z
  · have := h.1; omega
  · exact z h.2.1
  · exact h.2.2 z
theorem nl_n {w : Nat → Int32} {N j : Nat} {id n p r d : Int32} (h : ¬ (58 + 10 * N ≤ j ∧ j < 68 + 10 * N)) : nlV w N id n p r d j = w j := by
  rw [nlV, upd_n (by omega), upd_n (by omega), upd_n (by omega), upd_n (by omega), upd_n (by omega), upd_n (by omega), zr_n (by omega)]
def ldC (w : Nat → Int32) (N n m : Nat) (u p t : Int32) : Nat → Int32 := upd (upd (upd (upd (upd (upd (nlV w N (w 3) (nI n) p (nI 10 + nI 5 * withV w N (nI n)) (w 0 + t)) (58 + 10 * N + (6 + m)) u) (22 + 6 * n + (2 + m)) (w (22 + 6 * n + (2 + m)) - u)) (22 + 6 * n + 0) (w (22 + 6 * n + 0) + p)) 4 (w 4 - p)) 2 (nI (N + 1))) 3 (w 3 + nI 1)
theorem ld_n {w : Nat → Int32} {N n m j : Nat} {u p t : Int32} (h : ¬ (58 + 10 * N ≤ j ∧ j < 68 + 10 * N)) : plK (ld6 w N n p t) N m u 4 j = w j := by
  rw [plK_n (by omega), ld6, upd_n (by omega), ld5, upd_n (by omega), ld4, upd_n (by omega), upd_n (by omega), upd_n (by omega), upd_n (by omega)]
theorem ld_row {w : Nat → Int32} {N n m : Nat} {u p t : Int32} (hn : n < 6) (hm : m < 4) (hN : N < 10) : ldC w N n m u p t = ldV w N n m u p t ∨ ∀ j, ¬ (68 + 10 * N ≤ j ∧ j < 158) → ldC w N n m u p t j = ldV w N n m u p t j := by
  right
  intro j hj
  unfold ldC
  by_cases e3 : j = 3
  · subst e3; rw [upd_e, ldV, upd_e]
  rw [upd_n e3]
  by_cases e2 : j = 2
  · subst e2; rw [upd_e, ldV, upd_n e3, upd_e]
  rw [upd_n e2]
  by_cases e4 : j = 4
  · subst e4; rw [upd_e, ldV, upd_n e3, upd_n e2, sb, upd_e, ad_n (by omega), ad_n (by omega), ld_n (by omega)]
  rw [upd_n e4]
  by_cases ep : j = 22 + 6 * n + 0
  · subst ep; rw [upd_e, ldV, upd_n e3, upd_n e2, sb_n e4, ad, upd_e, ad_n (by omega), ld_n (by omega)]
  rw [upd_n ep]
  by_cases eg : j = 22 + 6 * n + (2 + m)
  · subst eg; rw [upd_e, ldV, upd_n e3, upd_n e2, sb_n e4, ad_n ep, ad, upd_e, ld_n (by omega), i_sn]
  rw [upd_n eg, ldV, upd_n e3, upd_n e2, sb_n e4, ad_n ep, ad_n eg]
  by_cases el : 58 + 10 * N ≤ j ∧ j < 68 + 10 * N
  · by_cases e6 : 64 + 10 * N ≤ j
    · simp only [plK]
      rw [if_pos (by omega)]
      by_cases em : j = 58 + 10 * N + (6 + m)
      · subst em; rw [upd_e, if_pos (by omega)]
      · rw [upd_n em, if_neg (by omega), nlV, upd_n (by omega), upd_n (by omega), upd_n (by omega), upd_n (by omega), upd_n (by omega), upd_n (by omega)]
        simp only [zr]
        rw [if_pos (by omega)]
    · rw [upd_n (by omega), plK_n (by omega)]
      obtain ⟨i, hi, rfl⟩ : ∃ i, i < 6 ∧ j = 58 + 10 * N + i := ⟨j - (58 + 10 * N), by omega, by omega⟩
      match i, hi with
      | 0, _ => simp [nlV, ld6, ld5, ld4, upd]
      | 1, _ => simp [nlV, ld6, ld5, ld4, upd]
      | 2, _ => simp [nlV, ld6, ld5, ld4, upd]
      | 3, _ => simp [nlV, ld6, ld5, ld4, upd]
      | 4, _ => simp [nlV, ld6, ld5, ld4, upd]
      | 5, _ => simp [nlV, ld6, ld5, ld4, upd]
  · rw [upd_n (by omega), nl_n (by omega), ld_n (by omega)]
theorem ld_rw {w : Nat → Int32} {B N E n m : Nat} {u p t : Int32} (hB : B ≤ 6) (hn : n < B) (hm : m < 4) (hN : N < 10) : ∀ j, (j < 22 ∨ (22 ≤ j ∧ j < 22 + 6 * B) ∨ (58 ≤ j ∧ j < 58 + 10 * (N + 1)) ∨ (158 ≤ j ∧ j < 158 + 3 * E)) → ldC w N n m u p t j = ldV w N n m u p t j := fun j hj => by
  rcases ld_row (w := w) (u := u) (p := p) (t := t) (show n < 6 by omega) hm hN with h | h
  · rw [h]
  · exact h j (by omega)
